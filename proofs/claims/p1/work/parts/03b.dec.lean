theorem dL_afterSteps_0 : decode cL_afterSteps 0 = .ok (.aload_n 3, 1) := by decide +kernel
theorem dL_afterSteps_1 : decode cL_afterSteps 1 = .ok (.iconst 0, 1) := by decide +kernel
theorem dL_afterSteps_2 : decode cL_afterSteps 2 = .ok (.aload_n 0, 1) := by decide +kernel
theorem dL_afterSteps_3 : decode cL_afterSteps 3 = .ok (.iload_n 1, 1) := by decide +kernel
theorem dL_afterSteps_4 : decode cL_afterSteps 4 = .ok (.iload_n 2, 1) := by decide +kernel
theorem dL_afterSteps_5 : decode cL_afterSteps 5 = .ok (.invokevirtual 122, 3) := by decide +kernel
theorem dL_afterSteps_13 : decode cL_afterSteps 13 = .ok (.astore 4, 2) := by decide +kernel
theorem dL_afterSteps_15 : decode cL_afterSteps 15 = .ok (.iconst 1, 1) := by decide +kernel
theorem dL_afterSteps_16 : decode cL_afterSteps 16 = .ok (.ireturn, 1) := by decide +kernel
theorem dL_areEqual_0 : decode cL_areEqual 0 = .ok (.aload_n 3, 1) := by decide +kernel
theorem dL_areEqual_1 : decode cL_areEqual 1 = .ok (.iconst 0, 1) := by decide +kernel
theorem dL_areEqual_2 : decode cL_areEqual 2 = .ok (.aload_n 0, 1) := by decide +kernel
theorem dL_areEqual_3 : decode cL_areEqual 3 = .ok (.iload_n 1, 1) := by decide +kernel
theorem dL_areEqual_4 : decode cL_areEqual 4 = .ok (.iload_n 2, 1) := by decide +kernel
theorem dL_areEqual_5 : decode cL_areEqual 5 = .ok (.invokevirtual 111, 3) := by decide +kernel
theorem dL_areEqual_20 : decode cL_areEqual 20 = .ok (.astore 4, 2) := by decide +kernel
theorem dL_areEqual_22 : decode cL_areEqual 22 = .ok (.iconst 1, 1) := by decide +kernel
theorem dL_areEqual_23 : decode cL_areEqual 23 = .ok (.ireturn, 1) := by decide +kernel
theorem dL_argument_0 : decode cL_argument 0 = .ok (.aload_n 3, 1) := by decide +kernel
theorem dL_argument_1 : decode cL_argument 1 = .ok (.iconst 0, 1) := by decide +kernel
theorem dL_argument_2 : decode cL_argument 2 = .ok (.aload_n 0, 1) := by decide +kernel
theorem dL_argument_3 : decode cL_argument 3 = .ok (.iload_n 1, 1) := by decide +kernel
theorem dL_argument_4 : decode cL_argument 4 = .ok (.iload_n 2, 1) := by decide +kernel
theorem dL_argument_5 : decode cL_argument 5 = .ok (.invokevirtual 57, 3) := by decide +kernel
theorem dL_argument_13 : decode cL_argument 13 = .ok (.astore 4, 2) := by decide +kernel
theorem dL_argument_15 : decode cL_argument 15 = .ok (.iconst 1, 1) := by decide +kernel
theorem dL_argument_16 : decode cL_argument 16 = .ok (.ireturn, 1) := by decide +kernel
theorem dL_compare_0 : decode cL_compare 0 = .ok (.aload_n 3, 1) := by decide +kernel
theorem dL_compare_1 : decode cL_compare 1 = .ok (.iconst 0, 1) := by decide +kernel
theorem dL_compare_2 : decode cL_compare 2 = .ok (.aload_n 0, 1) := by decide +kernel
theorem dL_compare_3 : decode cL_compare 3 = .ok (.iload_n 1, 1) := by decide +kernel
theorem dL_compare_4 : decode cL_compare 4 = .ok (.iload_n 2, 1) := by decide +kernel
theorem dL_compare_5 : decode cL_compare 5 = .ok (.invokevirtual 66, 3) := by decide +kernel
theorem dL_compare_13 : decode cL_compare 13 = .ok (.astore 4, 2) := by decide +kernel
theorem dL_compare_15 : decode cL_compare 15 = .ok (.iconst 1, 1) := by decide +kernel
theorem dL_compare_16 : decode cL_compare 16 = .ok (.ireturn, 1) := by decide +kernel
theorem dL_conflict_0 : decode cL_conflict 0 = .ok (.aload_n 1, 1) := by decide +kernel
theorem dL_conflict_1 : decode cL_conflict 1 = .ok (.iconst 0, 1) := by decide +kernel
theorem dL_conflict_2 : decode cL_conflict 2 = .ok (.aload_n 0, 1) := by decide +kernel
theorem dL_conflict_3 : decode cL_conflict 3 = .ok (.invokevirtual 91, 3) := by decide +kernel
theorem dL_conflict_11 : decode cL_conflict 11 = .ok (.astore_n 2, 1) := by decide +kernel
theorem dL_conflict_12 : decode cL_conflict 12 = .ok (.iconst 1, 1) := by decide +kernel
theorem dL_conflict_13 : decode cL_conflict 13 = .ok (.ireturn, 1) := by decide +kernel
theorem dL_countOfSize_0 : decode cL_countOfSize 0 = .ok (.aload_n 3, 1) := by decide +kernel
theorem dL_countOfSize_1 : decode cL_countOfSize 1 = .ok (.iconst 0, 1) := by decide +kernel
theorem dL_countOfSize_2 : decode cL_countOfSize 2 = .ok (.aload_n 0, 1) := by decide +kernel
theorem dL_countOfSize_3 : decode cL_countOfSize 3 = .ok (.iload_n 1, 1) := by decide +kernel
theorem dL_countOfSize_4 : decode cL_countOfSize 4 = .ok (.iload_n 2, 1) := by decide +kernel
theorem dL_countOfSize_5 : decode cL_countOfSize 5 = .ok (.invokevirtual 125, 3) := by decide +kernel
theorem dL_countOfSize_12 : decode cL_countOfSize 12 = .ok (.astore 4, 2) := by decide +kernel
theorem dL_countOfSize_14 : decode cL_countOfSize 14 = .ok (.iconst 1, 1) := by decide +kernel
theorem dL_countOfSize_15 : decode cL_countOfSize 15 = .ok (.ireturn, 1) := by decide +kernel
theorem dL_declare_0 : decode cL_declare 0 = .ok (.aload_n 3, 1) := by decide +kernel
theorem dL_declare_1 : decode cL_declare 1 = .ok (.iconst 0, 1) := by decide +kernel
theorem dL_declare_2 : decode cL_declare 2 = .ok (.aload_n 0, 1) := by decide +kernel
theorem dL_declare_3 : decode cL_declare 3 = .ok (.iload_n 1, 1) := by decide +kernel
theorem dL_declare_4 : decode cL_declare 4 = .ok (.iload_n 2, 1) := by decide +kernel
theorem dL_declare_5 : decode cL_declare 5 = .ok (.invokevirtual 21, 3) := by decide +kernel
theorem dL_declare_13 : decode cL_declare 13 = .ok (.astore 4, 2) := by decide +kernel
theorem dL_declare_15 : decode cL_declare 15 = .ok (.iconst 1, 1) := by decide +kernel
theorem dL_declare_16 : decode cL_declare 16 = .ok (.ireturn, 1) := by decide +kernel
theorem dL_declareVariable_0 : decode cL_declareVariable 0 = .ok (.aload_n 1, 1) := by decide +kernel
theorem dL_declareVariable_1 : decode cL_declareVariable 1 = .ok (.iconst 0, 1) := by decide +kernel
theorem dL_declareVariable_2 : decode cL_declareVariable 2 = .ok (.aload_n 0, 1) := by decide +kernel
theorem dL_declareVariable_3 : decode cL_declareVariable 3 = .ok (.invokevirtual 25, 3) := by decide +kernel
theorem dL_declareVariable_11 : decode cL_declareVariable 11 = .ok (.astore_n 2, 1) := by decide +kernel
theorem dL_declareVariable_12 : decode cL_declareVariable 12 = .ok (.iconst 1, 1) := by decide +kernel
theorem dL_declareVariable_13 : decode cL_declareVariable 13 = .ok (.ireturn, 1) := by decide +kernel
theorem dL_dependsOn_0 : decode cL_dependsOn 0 = .ok (.aload 4, 2) := by decide +kernel
theorem dL_dependsOn_2 : decode cL_dependsOn 2 = .ok (.iconst 0, 1) := by decide +kernel
theorem dL_dependsOn_3 : decode cL_dependsOn 3 = .ok (.aload_n 0, 1) := by decide +kernel
theorem dL_dependsOn_4 : decode cL_dependsOn 4 = .ok (.iload_n 1, 1) := by decide +kernel
theorem dL_dependsOn_5 : decode cL_dependsOn 5 = .ok (.iload_n 2, 1) := by decide +kernel
theorem dL_dependsOn_6 : decode cL_dependsOn 6 = .ok (.iload_n 3, 1) := by decide +kernel
theorem dL_dependsOn_7 : decode cL_dependsOn 7 = .ok (.invokevirtual 115, 3) := by decide +kernel
theorem dL_dependsOn_22 : decode cL_dependsOn 22 = .ok (.astore 5, 2) := by decide +kernel
theorem dL_dependsOn_24 : decode cL_dependsOn 24 = .ok (.iconst 1, 1) := by decide +kernel
theorem dL_dependsOn_25 : decode cL_dependsOn 25 = .ok (.ireturn, 1) := by decide +kernel
theorem dL_depth_0 : decode cL_depth 0 = .ok (.aload_n 2, 1) := by decide +kernel
theorem dL_depth_1 : decode cL_depth 1 = .ok (.iconst 0, 1) := by decide +kernel
theorem dL_depth_2 : decode cL_depth 2 = .ok (.aload_n 0, 1) := by decide +kernel
theorem dL_depth_3 : decode cL_depth 3 = .ok (.iload_n 1, 1) := by decide +kernel
theorem dL_depth_4 : decode cL_depth 4 = .ok (.invokevirtual 63, 3) := by decide +kernel
theorem dL_depth_12 : decode cL_depth 12 = .ok (.astore_n 3, 1) := by decide +kernel
theorem dL_depth_13 : decode cL_depth 13 = .ok (.iconst 1, 1) := by decide +kernel
theorem dL_depth_14 : decode cL_depth 14 = .ok (.ireturn, 1) := by decide +kernel
theorem dL_equate_0 : decode cL_equate 0 = .ok (.aload_n 3, 1) := by decide +kernel
theorem dL_equate_1 : decode cL_equate 1 = .ok (.iconst 0, 1) := by decide +kernel
theorem dL_equate_2 : decode cL_equate 2 = .ok (.aload_n 0, 1) := by decide +kernel
theorem dL_equate_3 : decode cL_equate 3 = .ok (.iload_n 1, 1) := by decide +kernel
theorem dL_equate_4 : decode cL_equate 4 = .ok (.iload_n 2, 1) := by decide +kernel
theorem dL_equate_5 : decode cL_equate 5 = .ok (.invokevirtual 82, 3) := by decide +kernel
theorem dL_equate_13 : decode cL_equate 13 = .ok (.astore 4, 2) := by decide +kernel
theorem dL_equate_15 : decode cL_equate 15 = .ok (.iconst 1, 1) := by decide +kernel
theorem dL_equate_16 : decode cL_equate 16 = .ok (.ireturn, 1) := by decide +kernel
theorem dL_feed_0 : decode cL_feed 0 = .ok (.aload 6, 2) := by decide +kernel
theorem dL_feed_2 : decode cL_feed 2 = .ok (.iconst 0, 1) := by decide +kernel
theorem dL_feed_3 : decode cL_feed 3 = .ok (.aload_n 0, 1) := by decide +kernel
theorem dL_feed_4 : decode cL_feed 4 = .ok (.iload_n 1, 1) := by decide +kernel
theorem dL_feed_5 : decode cL_feed 5 = .ok (.iload_n 2, 1) := by decide +kernel
theorem dL_feed_6 : decode cL_feed 6 = .ok (.iload_n 3, 1) := by decide +kernel
theorem dL_feed_7 : decode cL_feed 7 = .ok (.iload 4, 2) := by decide +kernel
theorem dL_feed_9 : decode cL_feed 9 = .ok (.iload 5, 2) := by decide +kernel
theorem dL_feed_11 : decode cL_feed 11 = .ok (.invokevirtual 7, 3) := by decide +kernel
theorem dL_feed_14 : decode cL_feed 14 = .ok (.i2l, 1) := by decide +kernel
theorem dL_feed_15 : decode cL_feed 15 = .ok (.lastore, 1) := by decide +kernel
theorem dL_feed_16 : decode cL_feed 16 = .ok (.goto 7, 3) := by decide +kernel
theorem dL_feed_23 : decode cL_feed 23 = .ok (.iconst 0, 1) := by decide +kernel
theorem dL_feed_24 : decode cL_feed 24 = .ok (.ireturn, 1) := by decide +kernel
theorem dL_isFinite_0 : decode cL_isFinite 0 = .ok (.aload_n 2, 1) := by decide +kernel
theorem dL_isFinite_1 : decode cL_isFinite 1 = .ok (.iconst 0, 1) := by decide +kernel
theorem dL_isFinite_2 : decode cL_isFinite 2 = .ok (.aload_n 0, 1) := by decide +kernel
theorem dL_isFinite_3 : decode cL_isFinite 3 = .ok (.iload_n 1, 1) := by decide +kernel
theorem dL_isFinite_4 : decode cL_isFinite 4 = .ok (.invokevirtual 129, 3) := by decide +kernel
theorem dL_isFinite_19 : decode cL_isFinite 19 = .ok (.astore_n 3, 1) := by decide +kernel
theorem dL_isFinite_20 : decode cL_isFinite 20 = .ok (.iconst 1, 1) := by decide +kernel
theorem dL_isFinite_21 : decode cL_isFinite 21 = .ok (.ireturn, 1) := by decide +kernel
theorem dL_match_0 : decode cL_match 0 = .ok (.aload_n 3, 1) := by decide +kernel
theorem dL_match_1 : decode cL_match 1 = .ok (.iconst 0, 1) := by decide +kernel
theorem dL_match_2 : decode cL_match 2 = .ok (.aload_n 0, 1) := by decide +kernel
theorem dL_match_3 : decode cL_match 3 = .ok (.iload_n 1, 1) := by decide +kernel
theorem dL_match_4 : decode cL_match 4 = .ok (.iload_n 2, 1) := by decide +kernel
theorem dL_match_5 : decode cL_match 5 = .ok (.invokevirtual 136, 3) := by decide +kernel
theorem dL_match_13 : decode cL_match 13 = .ok (.astore 4, 2) := by decide +kernel
theorem dL_match_15 : decode cL_match 15 = .ok (.iconst 1, 1) := by decide +kernel
theorem dL_match_16 : decode cL_match 16 = .ok (.ireturn, 1) := by decide +kernel
theorem dL_normalForm_0 : decode cL_normalForm 0 = .ok (.aload_n 2, 1) := by decide +kernel
theorem dL_normalForm_1 : decode cL_normalForm 1 = .ok (.iconst 0, 1) := by decide +kernel
theorem dL_normalForm_2 : decode cL_normalForm 2 = .ok (.aload_n 0, 1) := by decide +kernel
theorem dL_normalForm_3 : decode cL_normalForm 3 = .ok (.iload_n 1, 1) := by decide +kernel
theorem dL_normalForm_4 : decode cL_normalForm 4 = .ok (.invokevirtual 108, 3) := by decide +kernel
theorem dL_normalForm_12 : decode cL_normalForm 12 = .ok (.astore_n 3, 1) := by decide +kernel
theorem dL_normalForm_13 : decode cL_normalForm 13 = .ok (.iconst 1, 1) := by decide +kernel
theorem dL_normalForm_14 : decode cL_normalForm 14 = .ok (.ireturn, 1) := by decide +kernel
theorem dL_occurrences_0 : decode cL_occurrences 0 = .ok (.aload_n 3, 1) := by decide +kernel
theorem dL_occurrences_1 : decode cL_occurrences 1 = .ok (.iconst 0, 1) := by decide +kernel
theorem dL_occurrences_2 : decode cL_occurrences 2 = .ok (.aload_n 0, 1) := by decide +kernel
theorem dL_occurrences_3 : decode cL_occurrences 3 = .ok (.iload_n 1, 1) := by decide +kernel
theorem dL_occurrences_4 : decode cL_occurrences 4 = .ok (.iload_n 2, 1) := by decide +kernel
theorem dL_occurrences_5 : decode cL_occurrences 5 = .ok (.invokevirtual 69, 3) := by decide +kernel
theorem dL_occurrences_13 : decode cL_occurrences 13 = .ok (.astore 4, 2) := by decide +kernel
theorem dL_occurrences_15 : decode cL_occurrences 15 = .ok (.iconst 1, 1) := by decide +kernel
theorem dL_occurrences_16 : decode cL_occurrences 16 = .ok (.ireturn, 1) := by decide +kernel
theorem dL_orderByWeight_0 : decode cL_orderByWeight 0 = .ok (.aload_n 2, 1) := by decide +kernel
theorem dL_orderByWeight_1 : decode cL_orderByWeight 1 = .ok (.iconst 0, 1) := by decide +kernel
theorem dL_orderByWeight_2 : decode cL_orderByWeight 2 = .ok (.aload_n 0, 1) := by decide +kernel
theorem dL_orderByWeight_3 : decode cL_orderByWeight 3 = .ok (.iload_n 1, 1) := by decide +kernel
theorem dL_orderByWeight_4 : decode cL_orderByWeight 4 = .ok (.invokevirtual 29, 3) := by decide +kernel
theorem dL_orderByWeight_7 : decode cL_orderByWeight 7 = .ok (.ifCond .eq 7, 3) := by decide +kernel
theorem dL_orderByWeight_14 : decode cL_orderByWeight 14 = .ok (.lconst 0, 1) := by decide +kernel
theorem dL_orderByWeight_15 : decode cL_orderByWeight 15 = .ok (.lastore, 1) := by decide +kernel
theorem dL_orderByWeight_16 : decode cL_orderByWeight 16 = .ok (.goto 6, 3) := by decide +kernel
theorem dL_orderByWeight_22 : decode cL_orderByWeight 22 = .ok (.iconst 0, 1) := by decide +kernel
theorem dL_orderByWeight_23 : decode cL_orderByWeight 23 = .ok (.ireturn, 1) := by decide +kernel
theorem dL_outputByte_0 : decode cL_outputByte 0 = .ok (.aload_n 2, 1) := by decide +kernel
theorem dL_outputByte_1 : decode cL_outputByte 1 = .ok (.iconst 0, 1) := by decide +kernel
theorem dL_outputByte_2 : decode cL_outputByte 2 = .ok (.aload_n 0, 1) := by decide +kernel
theorem dL_outputByte_3 : decode cL_outputByte 3 = .ok (.iload_n 1, 1) := by decide +kernel
theorem dL_outputByte_4 : decode cL_outputByte 4 = .ok (.invokevirtual 79, 3) := by decide +kernel
theorem dL_outputByte_12 : decode cL_outputByte 12 = .ok (.astore_n 3, 1) := by decide +kernel
theorem dL_outputByte_13 : decode cL_outputByte 13 = .ok (.iconst 1, 1) := by decide +kernel
theorem dL_outputByte_14 : decode cL_outputByte 14 = .ok (.ireturn, 1) := by decide +kernel
theorem dL_pop_0 : decode cL_pop 0 = .ok (.aload_n 1, 1) := by decide +kernel
theorem dL_pop_1 : decode cL_pop 1 = .ok (.iconst 0, 1) := by decide +kernel
theorem dL_pop_2 : decode cL_pop 2 = .ok (.aload_n 0, 1) := by decide +kernel
theorem dL_pop_3 : decode cL_pop 3 = .ok (.invokevirtual 99, 3) := by decide +kernel
theorem dL_pop_11 : decode cL_pop 11 = .ok (.astore_n 2, 1) := by decide +kernel
theorem dL_pop_12 : decode cL_pop 12 = .ok (.iconst 1, 1) := by decide +kernel
theorem dL_pop_13 : decode cL_pop 13 = .ok (.ireturn, 1) := by decide +kernel
theorem dL_promote_0 : decode cL_promote 0 = .ok (.aload_n 3, 1) := by decide +kernel
theorem dL_promote_1 : decode cL_promote 1 = .ok (.iconst 0, 1) := by decide +kernel
theorem dL_promote_2 : decode cL_promote 2 = .ok (.aload_n 0, 1) := by decide +kernel
theorem dL_promote_3 : decode cL_promote 3 = .ok (.iload_n 1, 1) := by decide +kernel
theorem dL_promote_4 : decode cL_promote 4 = .ok (.iload_n 2, 1) := by decide +kernel
theorem dL_promote_5 : decode cL_promote 5 = .ok (.invokevirtual 33, 3) := by decide +kernel
theorem dL_promote_13 : decode cL_promote 13 = .ok (.astore 4, 2) := by decide +kernel
theorem dL_promote_15 : decode cL_promote 15 = .ok (.iconst 1, 1) := by decide +kernel
theorem dL_promote_16 : decode cL_promote 16 = .ok (.ireturn, 1) := by decide +kernel
theorem dL_push_0 : decode cL_push 0 = .ok (.aload_n 1, 1) := by decide +kernel
theorem dL_push_1 : decode cL_push 1 = .ok (.iconst 0, 1) := by decide +kernel
theorem dL_push_2 : decode cL_push 2 = .ok (.aload_n 0, 1) := by decide +kernel
theorem dL_push_3 : decode cL_push 3 = .ok (.invokevirtual 96, 3) := by decide +kernel
theorem dL_push_6 : decode cL_push 6 = .ok (.i2l, 1) := by decide +kernel
theorem dL_push_7 : decode cL_push 7 = .ok (.lastore, 1) := by decide +kernel
theorem dL_push_8 : decode cL_push 8 = .ok (.goto 6, 3) := by decide +kernel
theorem dL_push_14 : decode cL_push 14 = .ok (.iconst 0, 1) := by decide +kernel
theorem dL_push_15 : decode cL_push 15 = .ok (.ireturn, 1) := by decide +kernel
theorem dL_rankOf_0 : decode cL_rankOf 0 = .ok (.aload_n 2, 1) := by decide +kernel
theorem dL_rankOf_1 : decode cL_rankOf 1 = .ok (.iconst 0, 1) := by decide +kernel
theorem dL_rankOf_2 : decode cL_rankOf 2 = .ok (.aload_n 0, 1) := by decide +kernel
theorem dL_rankOf_3 : decode cL_rankOf 3 = .ok (.iload_n 1, 1) := by decide +kernel
theorem dL_rankOf_4 : decode cL_rankOf 4 = .ok (.invokevirtual 38, 3) := by decide +kernel
theorem dL_rankOf_12 : decode cL_rankOf 12 = .ok (.astore_n 3, 1) := by decide +kernel
theorem dL_rankOf_13 : decode cL_rankOf 13 = .ok (.iconst 1, 1) := by decide +kernel
theorem dL_rankOf_14 : decode cL_rankOf 14 = .ok (.ireturn, 1) := by decide +kernel
theorem dL_read_0 : decode cL_read 0 = .ok (.aload_n 1, 1) := by decide +kernel
theorem dL_read_1 : decode cL_read 1 = .ok (.iconst 0, 1) := by decide +kernel
theorem dL_read_2 : decode cL_read 2 = .ok (.aload_n 0, 1) := by decide +kernel
theorem dL_read_3 : decode cL_read 3 = .ok (.invokevirtual 51, 3) := by decide +kernel
theorem dL_read_11 : decode cL_read 11 = .ok (.astore_n 2, 1) := by decide +kernel
theorem dL_read_12 : decode cL_read 12 = .ok (.iconst 1, 1) := by decide +kernel
theorem dL_read_13 : decode cL_read 13 = .ok (.ireturn, 1) := by decide +kernel
theorem dL_readTheory_0 : decode cL_readTheory 0 = .ok (.aload_n 1, 1) := by decide +kernel
theorem dL_readTheory_1 : decode cL_readTheory 1 = .ok (.iconst 0, 1) := by decide +kernel
theorem dL_readTheory_2 : decode cL_readTheory 2 = .ok (.aload_n 0, 1) := by decide +kernel
theorem dL_readTheory_3 : decode cL_readTheory 3 = .ok (.invokevirtual 88, 3) := by decide +kernel
theorem dL_readTheory_6 : decode cL_readTheory 6 = .ok (.i2l, 1) := by decide +kernel
theorem dL_readTheory_7 : decode cL_readTheory 7 = .ok (.lastore, 1) := by decide +kernel
theorem dL_readTheory_8 : decode cL_readTheory 8 = .ok (.goto 12, 3) := by decide +kernel
theorem dL_readTheory_20 : decode cL_readTheory 20 = .ok (.iconst 0, 1) := by decide +kernel
theorem dL_readTheory_21 : decode cL_readTheory 21 = .ok (.ireturn, 1) := by decide +kernel
theorem dL_replace_0 : decode cL_replace 0 = .ok (.aload 4, 2) := by decide +kernel
theorem dL_replace_2 : decode cL_replace 2 = .ok (.iconst 0, 1) := by decide +kernel
theorem dL_replace_3 : decode cL_replace 3 = .ok (.aload_n 0, 1) := by decide +kernel
theorem dL_replace_4 : decode cL_replace 4 = .ok (.iload_n 1, 1) := by decide +kernel
theorem dL_replace_5 : decode cL_replace 5 = .ok (.iload_n 2, 1) := by decide +kernel
theorem dL_replace_6 : decode cL_replace 6 = .ok (.iload_n 3, 1) := by decide +kernel
theorem dL_replace_7 : decode cL_replace 7 = .ok (.invokevirtual 72, 3) := by decide +kernel
theorem dL_replace_15 : decode cL_replace 15 = .ok (.astore 5, 2) := by decide +kernel
theorem dL_replace_17 : decode cL_replace 17 = .ok (.iconst 1, 1) := by decide +kernel
theorem dL_replace_18 : decode cL_replace 18 = .ok (.ireturn, 1) := by decide +kernel
theorem dL_ruleLeft_0 : decode cL_ruleLeft 0 = .ok (.aload_n 2, 1) := by decide +kernel
theorem dL_ruleLeft_1 : decode cL_ruleLeft 1 = .ok (.iconst 0, 1) := by decide +kernel
theorem dL_ruleLeft_2 : decode cL_ruleLeft 2 = .ok (.aload_n 0, 1) := by decide +kernel
theorem dL_ruleLeft_3 : decode cL_ruleLeft 3 = .ok (.iload_n 1, 1) := by decide +kernel
theorem dL_ruleLeft_4 : decode cL_ruleLeft 4 = .ok (.invokevirtual 102, 3) := by decide +kernel
theorem dL_ruleLeft_12 : decode cL_ruleLeft 12 = .ok (.astore_n 3, 1) := by decide +kernel
theorem dL_ruleLeft_13 : decode cL_ruleLeft 13 = .ok (.iconst 1, 1) := by decide +kernel
theorem dL_ruleLeft_14 : decode cL_ruleLeft 14 = .ok (.ireturn, 1) := by decide +kernel
theorem dL_ruleRight_0 : decode cL_ruleRight 0 = .ok (.aload_n 2, 1) := by decide +kernel
theorem dL_ruleRight_1 : decode cL_ruleRight 1 = .ok (.iconst 0, 1) := by decide +kernel
theorem dL_ruleRight_2 : decode cL_ruleRight 2 = .ok (.aload_n 0, 1) := by decide +kernel
theorem dL_ruleRight_3 : decode cL_ruleRight 3 = .ok (.iload_n 1, 1) := by decide +kernel
theorem dL_ruleRight_4 : decode cL_ruleRight 4 = .ok (.invokevirtual 105, 3) := by decide +kernel
theorem dL_ruleRight_12 : decode cL_ruleRight 12 = .ok (.astore_n 3, 1) := by decide +kernel
theorem dL_ruleRight_13 : decode cL_ruleRight 13 = .ok (.iconst 1, 1) := by decide +kernel
theorem dL_ruleRight_14 : decode cL_ruleRight 14 = .ok (.ireturn, 1) := by decide +kernel
theorem dL_separate_0 : decode cL_separate 0 = .ok (.aload_n 3, 1) := by decide +kernel
theorem dL_separate_1 : decode cL_separate 1 = .ok (.iconst 0, 1) := by decide +kernel
theorem dL_separate_2 : decode cL_separate 2 = .ok (.aload_n 0, 1) := by decide +kernel
theorem dL_separate_3 : decode cL_separate 3 = .ok (.iload_n 1, 1) := by decide +kernel
theorem dL_separate_4 : decode cL_separate 4 = .ok (.iload_n 2, 1) := by decide +kernel
theorem dL_separate_5 : decode cL_separate 5 = .ok (.invokevirtual 85, 3) := by decide +kernel
theorem dL_separate_13 : decode cL_separate 13 = .ok (.astore 4, 2) := by decide +kernel
theorem dL_separate_15 : decode cL_separate 15 = .ok (.iconst 1, 1) := by decide +kernel
theorem dL_separate_16 : decode cL_separate 16 = .ok (.ireturn, 1) := by decide +kernel
theorem dL_setDirection_0 : decode cL_setDirection 0 = .ok (.aload_n 3, 1) := by decide +kernel
theorem dL_setDirection_1 : decode cL_setDirection 1 = .ok (.iconst 0, 1) := by decide +kernel
theorem dL_setDirection_2 : decode cL_setDirection 2 = .ok (.aload_n 0, 1) := by decide +kernel
theorem dL_setDirection_3 : decode cL_setDirection 3 = .ok (.iload_n 1, 1) := by decide +kernel
theorem dL_setDirection_4 : decode cL_setDirection 4 = .ok (.iload_n 2, 1) := by decide +kernel
theorem dL_setDirection_5 : decode cL_setDirection 5 = .ok (.invokevirtual 41, 3) := by decide +kernel
theorem dL_setDirection_20 : decode cL_setDirection 20 = .ok (.astore 4, 2) := by decide +kernel
theorem dL_setDirection_22 : decode cL_setDirection 22 = .ok (.iconst 1, 1) := by decide +kernel
theorem dL_setDirection_23 : decode cL_setDirection 23 = .ok (.ireturn, 1) := by decide +kernel
theorem dL_size_0 : decode cL_size 0 = .ok (.aload_n 2, 1) := by decide +kernel
theorem dL_size_1 : decode cL_size 1 = .ok (.iconst 0, 1) := by decide +kernel
theorem dL_size_2 : decode cL_size 2 = .ok (.aload_n 0, 1) := by decide +kernel
theorem dL_size_3 : decode cL_size 3 = .ok (.iload_n 1, 1) := by decide +kernel
theorem dL_size_4 : decode cL_size 4 = .ok (.invokevirtual 60, 3) := by decide +kernel
theorem dL_size_12 : decode cL_size 12 = .ok (.astore_n 3, 1) := by decide +kernel
theorem dL_size_13 : decode cL_size 13 = .ok (.iconst 1, 1) := by decide +kernel
theorem dL_size_14 : decode cL_size 14 = .ok (.ireturn, 1) := by decide +kernel
theorem dL_smallest_0 : decode cL_smallest 0 = .ok (.aload_n 2, 1) := by decide +kernel
theorem dL_smallest_1 : decode cL_smallest 1 = .ok (.iconst 0, 1) := by decide +kernel
theorem dL_smallest_2 : decode cL_smallest 2 = .ok (.aload_n 0, 1) := by decide +kernel
theorem dL_smallest_3 : decode cL_smallest 3 = .ok (.iload_n 1, 1) := by decide +kernel
theorem dL_smallest_4 : decode cL_smallest 4 = .ok (.invokevirtual 133, 3) := by decide +kernel
theorem dL_smallest_12 : decode cL_smallest 12 = .ok (.astore_n 3, 1) := by decide +kernel
theorem dL_smallest_13 : decode cL_smallest 13 = .ok (.iconst 1, 1) := by decide +kernel
theorem dL_smallest_14 : decode cL_smallest 14 = .ok (.ireturn, 1) := by decide +kernel
theorem dL_solution_0 : decode cL_solution 0 = .ok (.aload_n 3, 1) := by decide +kernel
theorem dL_solution_1 : decode cL_solution 1 = .ok (.iconst 0, 1) := by decide +kernel
theorem dL_solution_2 : decode cL_solution 2 = .ok (.aload_n 0, 1) := by decide +kernel
theorem dL_solution_3 : decode cL_solution 3 = .ok (.iload_n 1, 1) := by decide +kernel
theorem dL_solution_4 : decode cL_solution 4 = .ok (.iload_n 2, 1) := by decide +kernel
theorem dL_solution_5 : decode cL_solution 5 = .ok (.invokevirtual 139, 3) := by decide +kernel
theorem dL_solution_13 : decode cL_solution 13 = .ok (.astore 4, 2) := by decide +kernel
theorem dL_solution_15 : decode cL_solution 15 = .ok (.iconst 1, 1) := by decide +kernel
theorem dL_solution_16 : decode cL_solution 16 = .ok (.ireturn, 1) := by decide +kernel
theorem dL_stepCount_0 : decode cL_stepCount 0 = .ok (.aload_n 2, 1) := by decide +kernel
theorem dL_stepCount_1 : decode cL_stepCount 1 = .ok (.iconst 0, 1) := by decide +kernel
theorem dL_stepCount_2 : decode cL_stepCount 2 = .ok (.aload_n 0, 1) := by decide +kernel
theorem dL_stepCount_3 : decode cL_stepCount 3 = .ok (.iload_n 1, 1) := by decide +kernel
theorem dL_stepCount_4 : decode cL_stepCount 4 = .ok (.invokevirtual 119, 3) := by decide +kernel
theorem dL_stepCount_12 : decode cL_stepCount 12 = .ok (.astore_n 3, 1) := by decide +kernel
theorem dL_stepCount_13 : decode cL_stepCount 13 = .ok (.iconst 1, 1) := by decide +kernel
theorem dL_stepCount_14 : decode cL_stepCount 14 = .ok (.ireturn, 1) := by decide +kernel
theorem dL_symbolOf_0 : decode cL_symbolOf 0 = .ok (.aload_n 2, 1) := by decide +kernel
theorem dL_symbolOf_1 : decode cL_symbolOf 1 = .ok (.iconst 0, 1) := by decide +kernel
theorem dL_symbolOf_2 : decode cL_symbolOf 2 = .ok (.aload_n 0, 1) := by decide +kernel
theorem dL_symbolOf_3 : decode cL_symbolOf 3 = .ok (.iload_n 1, 1) := by decide +kernel
theorem dL_symbolOf_4 : decode cL_symbolOf 4 = .ok (.invokevirtual 54, 3) := by decide +kernel
theorem dL_symbolOf_12 : decode cL_symbolOf 12 = .ok (.astore_n 3, 1) := by decide +kernel
theorem dL_symbolOf_13 : decode cL_symbolOf 13 = .ok (.iconst 1, 1) := by decide +kernel
theorem dL_symbolOf_14 : decode cL_symbolOf 14 = .ok (.ireturn, 1) := by decide +kernel
theorem dL_term_0 : decode cL_term 0 = .ok (.aload 5, 2) := by decide +kernel
theorem dL_term_2 : decode cL_term 2 = .ok (.iconst 0, 1) := by decide +kernel
theorem dL_term_3 : decode cL_term 3 = .ok (.aload_n 0, 1) := by decide +kernel
theorem dL_term_4 : decode cL_term 4 = .ok (.iload_n 1, 1) := by decide +kernel
theorem dL_term_5 : decode cL_term 5 = .ok (.iload_n 2, 1) := by decide +kernel
theorem dL_term_6 : decode cL_term 6 = .ok (.iload_n 3, 1) := by decide +kernel
theorem dL_term_7 : decode cL_term 7 = .ok (.iload 4, 2) := by decide +kernel
theorem dL_term_9 : decode cL_term 9 = .ok (.invokevirtual 45, 3) := by decide +kernel
theorem dL_term_17 : decode cL_term 17 = .ok (.astore 6, 2) := by decide +kernel
theorem dL_term_19 : decode cL_term 19 = .ok (.iconst 1, 1) := by decide +kernel
theorem dL_term_20 : decode cL_term 20 = .ok (.ireturn, 1) := by decide +kernel
theorem dL_trim_0 : decode cL_trim 0 = .ok (.aload_n 2, 1) := by decide +kernel
theorem dL_trim_1 : decode cL_trim 1 = .ok (.iconst 0, 1) := by decide +kernel
theorem dL_trim_2 : decode cL_trim 2 = .ok (.aload_n 0, 1) := by decide +kernel
theorem dL_trim_3 : decode cL_trim 3 = .ok (.iload_n 1, 1) := by decide +kernel
theorem dL_trim_4 : decode cL_trim 4 = .ok (.invokevirtual 15, 3) := by decide +kernel
theorem dL_trim_7 : decode cL_trim 7 = .ok (.i2l, 1) := by decide +kernel
theorem dL_trim_8 : decode cL_trim 8 = .ok (.lastore, 1) := by decide +kernel
theorem dL_trim_9 : decode cL_trim 9 = .ok (.goto 6, 3) := by decide +kernel
theorem dL_trim_12 : decode cL_trim 12 = .ok (.astore_n 3, 1) := by decide +kernel
theorem dL_trim_13 : decode cL_trim 13 = .ok (.iconst 1, 1) := by decide +kernel
theorem dL_trim_14 : decode cL_trim 14 = .ok (.ireturn, 1) := by decide +kernel
theorem dL_trim_15 : decode cL_trim 15 = .ok (.iconst 0, 1) := by decide +kernel
theorem dL_trim_16 : decode cL_trim 16 = .ok (.ireturn, 1) := by decide +kernel
theorem dL_write_0 : decode cL_write 0 = .ok (.aload_n 2, 1) := by decide +kernel
theorem dL_write_1 : decode cL_write 1 = .ok (.iconst 0, 1) := by decide +kernel
theorem dL_write_2 : decode cL_write 2 = .ok (.aload_n 0, 1) := by decide +kernel
theorem dL_write_3 : decode cL_write 3 = .ok (.iload_n 1, 1) := by decide +kernel
theorem dL_write_4 : decode cL_write 4 = .ok (.invokevirtual 76, 3) := by decide +kernel
theorem dL_write_12 : decode cL_write 12 = .ok (.astore_n 3, 1) := by decide +kernel
theorem dL_write_13 : decode cL_write 13 = .ok (.iconst 1, 1) := by decide +kernel
theorem dL_write_14 : decode cL_write 14 = .ok (.ireturn, 1) := by decide +kernel
theorem dX0_init_0 : decode cX0_init 0 = .ok (.aload_n 0, 1) := by decide +kernel
theorem dX0_init_1 : decode cX0_init 1 = .ok (.invokespecial 3, 3) := by decide +kernel
theorem dX0_init_4 : decode cX0_init 4 = .ok (.aload_n 0, 1) := by decide +kernel
theorem dX0_init_5 : decode cX0_init 5 = .ok (.sipush 832, 3) := by decide +kernel
theorem dX0_init_8 : decode cX0_init 8 = .ok (.newarray .long, 2) := by decide +kernel
theorem dX0_init_10 : decode cX0_init 10 = .ok (.putfield 9, 3) := by decide +kernel
theorem dX0_init_13 : decode cX0_init 13 = .ok (.aload_n 0, 1) := by decide +kernel
theorem dX0_init_14 : decode cX0_init 14 = .ok (.aload_n 1, 1) := by decide +kernel
theorem dX0_init_15 : decode cX0_init 15 = .ok (.putfield 15, 3) := by decide +kernel
theorem dX0_init_18 : decode cX0_init 18 = .ok (.aload_n 0, 1) := by decide +kernel
theorem dX0_init_19 : decode cX0_init 19 = .ok (.aload_n 2, 1) := by decide +kernel
theorem dX0_init_20 : decode cX0_init 20 = .ok (.putfield 19, 3) := by decide +kernel
theorem dX0_init_23 : decode cX0_init 23 = .ok (.aload_n 0, 1) := by decide +kernel
theorem dX0_init_24 : decode cX0_init 24 = .ok (.aload_n 3, 1) := by decide +kernel
theorem dX0_init_25 : decode cX0_init 25 = .ok (.putfield 23, 3) := by decide +kernel
theorem dX0_init_28 : decode cX0_init 28 = .ok (.aload_n 0, 1) := by decide +kernel
theorem dX0_init_29 : decode cX0_init 29 = .ok (.aload 4, 2) := by decide +kernel
theorem dX0_init_31 : decode cX0_init 31 = .ok (.putfield 27, 3) := by decide +kernel
theorem dX0_init_34 : decode cX0_init 34 = .ok (.return_, 1) := by decide +kernel
theorem dX10_init_0 : decode cX10_init 0 = .ok (.aload_n 0, 1) := by decide +kernel
theorem dX10_init_1 : decode cX10_init 1 = .ok (.invokespecial 3, 3) := by decide +kernel
theorem dX10_init_4 : decode cX10_init 4 = .ok (.aload_n 0, 1) := by decide +kernel
theorem dX10_init_5 : decode cX10_init 5 = .ok (.new 9, 3) := by decide +kernel
theorem dX10_init_8 : decode cX10_init 8 = .ok (.dup, 1) := by decide +kernel
theorem dX10_init_9 : decode cX10_init 9 = .ok (.ldc 11, 2) := by decide +kernel
theorem dX10_init_11 : decode cX10_init 11 = .ok (.invokespecial 12, 3) := by decide +kernel
theorem dX10_init_14 : decode cX10_init 14 = .ok (.putfield 15, 3) := by decide +kernel
theorem dX10_init_17 : decode cX10_init 17 = .ok (.aload_n 0, 1) := by decide +kernel
theorem dX10_init_18 : decode cX10_init 18 = .ok (.new 9, 3) := by decide +kernel
theorem dX10_init_21 : decode cX10_init 21 = .ok (.dup, 1) := by decide +kernel
theorem dX10_init_22 : decode cX10_init 22 = .ok (.ldc 21, 2) := by decide +kernel
theorem dX10_init_24 : decode cX10_init 24 = .ok (.invokespecial 12, 3) := by decide +kernel
theorem dX10_init_27 : decode cX10_init 27 = .ok (.putfield 22, 3) := by decide +kernel
theorem dX10_init_30 : decode cX10_init 30 = .ok (.aload_n 0, 1) := by decide +kernel
theorem dX10_init_31 : decode cX10_init 31 = .ok (.new 9, 3) := by decide +kernel
theorem dX10_init_34 : decode cX10_init 34 = .ok (.dup, 1) := by decide +kernel
theorem dX10_init_35 : decode cX10_init 35 = .ok (.ldc 21, 2) := by decide +kernel
theorem dX10_init_37 : decode cX10_init 37 = .ok (.invokespecial 12, 3) := by decide +kernel
theorem dX10_init_40 : decode cX10_init 40 = .ok (.putfield 25, 3) := by decide +kernel
theorem dX10_init_43 : decode cX10_init 43 = .ok (.aload_n 0, 1) := by decide +kernel
theorem dX10_init_44 : decode cX10_init 44 = .ok (.new 9, 3) := by decide +kernel
theorem dX10_init_47 : decode cX10_init 47 = .ok (.dup, 1) := by decide +kernel
theorem dX10_init_48 : decode cX10_init 48 = .ok (.ldc 21, 2) := by decide +kernel
theorem dX10_init_50 : decode cX10_init 50 = .ok (.invokespecial 12, 3) := by decide +kernel
theorem dX10_init_53 : decode cX10_init 53 = .ok (.putfield 28, 3) := by decide +kernel
theorem dX10_init_56 : decode cX10_init 56 = .ok (.aload_n 0, 1) := by decide +kernel
theorem dX10_init_57 : decode cX10_init 57 = .ok (.sipush 256, 3) := by decide +kernel
theorem dX10_init_60 : decode cX10_init 60 = .ok (.newarray .int, 2) := by decide +kernel
theorem dX10_init_62 : decode cX10_init 62 = .ok (.putfield 31, 3) := by decide +kernel
theorem dX10_init_65 : decode cX10_init 65 = .ok (.aload_n 0, 1) := by decide +kernel
theorem dX10_init_66 : decode cX10_init 66 = .ok (.aload_n 1, 1) := by decide +kernel
theorem dX10_init_67 : decode cX10_init 67 = .ok (.putfield 35, 3) := by decide +kernel
theorem dX10_init_70 : decode cX10_init 70 = .ok (.return_, 1) := by decide +kernel
theorem dX11_afterSteps_0 : decode cX11_afterSteps 0 = .ok (.aload_n 0, 1) := by decide +kernel
theorem dX11_afterSteps_1 : decode cX11_afterSteps 1 = .ok (.iload_n 1, 1) := by decide +kernel
theorem dX11_afterSteps_2 : decode cX11_afterSteps 2 = .ok (.invokevirtual 194, 3) := by decide +kernel
theorem dX11_afterSteps_5 : decode cX11_afterSteps 5 = .ok (.ifCond .ne 13, 3) := by decide +kernel
theorem dX11_afterSteps_8 : decode cX11_afterSteps 8 = .ok (.new 169, 3) := by decide +kernel
theorem dX11_afterSteps_11 : decode cX11_afterSteps 11 = .ok (.dup, 1) := by decide +kernel
theorem dX11_afterSteps_12 : decode cX11_afterSteps 12 = .ok (.ldc 235, 2) := by decide +kernel
theorem dX11_afterSteps_14 : decode cX11_afterSteps 14 = .ok (.invokespecial 173, 3) := by decide +kernel
theorem dX11_afterSteps_17 : decode cX11_afterSteps 17 = .ok (.athrow, 1) := by decide +kernel
theorem dX11_areEqual_0 : decode cX11_areEqual 0 = .ok (.aload_n 0, 1) := by decide +kernel
theorem dX11_areEqual_1 : decode cX11_areEqual 1 = .ok (.iload_n 1, 1) := by decide +kernel
theorem dX11_areEqual_2 : decode cX11_areEqual 2 = .ok (.invokevirtual 194, 3) := by decide +kernel
theorem dX11_areEqual_5 : decode cX11_areEqual 5 = .ok (.ifCond .eq 11, 3) := by decide +kernel
theorem dX11_areEqual_16 : decode cX11_areEqual 16 = .ok (.new 169, 3) := by decide +kernel
theorem dX11_areEqual_19 : decode cX11_areEqual 19 = .ok (.dup, 1) := by decide +kernel
theorem dX11_areEqual_20 : decode cX11_areEqual 20 = .ok (.ldc 235, 2) := by decide +kernel
theorem dX11_areEqual_22 : decode cX11_areEqual 22 = .ok (.invokespecial 173, 3) := by decide +kernel
theorem dX11_areEqual_25 : decode cX11_areEqual 25 = .ok (.athrow, 1) := by decide +kernel
theorem dX11_argument_0 : decode cX11_argument 0 = .ok (.aload_n 0, 1) := by decide +kernel
theorem dX11_argument_1 : decode cX11_argument 1 = .ok (.iload_n 1, 1) := by decide +kernel
theorem dX11_argument_2 : decode cX11_argument 2 = .ok (.invokevirtual 194, 3) := by decide +kernel
theorem dX11_argument_5 : decode cX11_argument 5 = .ok (.ifCond .eq 26, 3) := by decide +kernel
theorem dX11_argument_31 : decode cX11_argument 31 = .ok (.new 169, 3) := by decide +kernel
theorem dX11_argument_34 : decode cX11_argument 34 = .ok (.dup, 1) := by decide +kernel
theorem dX11_argument_35 : decode cX11_argument 35 = .ok (.ldc 241, 2) := by decide +kernel
theorem dX11_argument_37 : decode cX11_argument 37 = .ok (.invokespecial 173, 3) := by decide +kernel
theorem dX11_argument_40 : decode cX11_argument 40 = .ok (.athrow, 1) := by decide +kernel
theorem dX11_compare_0 : decode cX11_compare 0 = .ok (.aload_n 0, 1) := by decide +kernel
theorem dX11_compare_1 : decode cX11_compare 1 = .ok (.iload_n 1, 1) := by decide +kernel
theorem dX11_compare_2 : decode cX11_compare 2 = .ok (.invokevirtual 194, 3) := by decide +kernel
theorem dX11_compare_5 : decode cX11_compare 5 = .ok (.ifCond .eq 11, 3) := by decide +kernel
theorem dX11_compare_16 : decode cX11_compare 16 = .ok (.new 169, 3) := by decide +kernel
theorem dX11_compare_19 : decode cX11_compare 19 = .ok (.dup, 1) := by decide +kernel
theorem dX11_compare_20 : decode cX11_compare 20 = .ok (.ldc 235, 2) := by decide +kernel
theorem dX11_compare_22 : decode cX11_compare 22 = .ok (.invokespecial 173, 3) := by decide +kernel
theorem dX11_compare_25 : decode cX11_compare 25 = .ok (.athrow, 1) := by decide +kernel
theorem dX11_conflict_0 : decode cX11_conflict 0 = .ok (.aload_n 0, 1) := by decide +kernel
theorem dX11_conflict_1 : decode cX11_conflict 1 = .ok (.invokevirtual 199, 3) := by decide +kernel
theorem dX11_conflict_4 : decode cX11_conflict 4 = .ok (.aload_n 0, 1) := by decide +kernel
theorem dX11_conflict_5 : decode cX11_conflict 5 = .ok (.getfield 46, 3) := by decide +kernel
theorem dX11_conflict_8 : decode cX11_conflict 8 = .ok (.invokevirtual 346, 3) := by decide +kernel
theorem dX11_conflict_11 : decode cX11_conflict 11 = .ok (.istore_n 1, 1) := by decide +kernel
theorem dX11_conflict_12 : decode cX11_conflict 12 = .ok (.iload_n 1, 1) := by decide +kernel
theorem dX11_conflict_13 : decode cX11_conflict 13 = .ok (.iconst (-1), 1) := by decide +kernel
theorem dX11_conflict_14 : decode cX11_conflict 14 = .ok (.if_icmp .ne 14, 3) := by decide +kernel
theorem dX11_conflict_17 : decode cX11_conflict 17 = .ok (.new 349, 3) := by decide +kernel
theorem dX11_conflict_20 : decode cX11_conflict 20 = .ok (.dup, 1) := by decide +kernel
theorem dX11_conflict_21 : decode cX11_conflict 21 = .ok (.ldc_w 351, 3) := by decide +kernel
theorem dX11_conflict_24 : decode cX11_conflict 24 = .ok (.invokespecial 353, 3) := by decide +kernel
theorem dX11_conflict_27 : decode cX11_conflict 27 = .ok (.athrow, 1) := by decide +kernel
theorem dX11_countOfSize_0 : decode cX11_countOfSize 0 = .ok (.aload_n 0, 1) := by decide +kernel
theorem dX11_countOfSize_1 : decode cX11_countOfSize 1 = .ok (.iload_n 1, 1) := by decide +kernel
theorem dX11_countOfSize_2 : decode cX11_countOfSize 2 = .ok (.invokevirtual 194, 3) := by decide +kernel
theorem dX11_countOfSize_5 : decode cX11_countOfSize 5 = .ok (.ifCond .ne 13, 3) := by decide +kernel
theorem dX11_countOfSize_8 : decode cX11_countOfSize 8 = .ok (.new 169, 3) := by decide +kernel
theorem dX11_countOfSize_11 : decode cX11_countOfSize 11 = .ok (.dup, 1) := by decide +kernel
theorem dX11_countOfSize_12 : decode cX11_countOfSize 12 = .ok (.ldc 235, 2) := by decide +kernel
theorem dX11_countOfSize_14 : decode cX11_countOfSize 14 = .ok (.invokespecial 173, 3) := by decide +kernel
theorem dX11_countOfSize_17 : decode cX11_countOfSize 17 = .ok (.athrow, 1) := by decide +kernel
theorem dX11_declare_0 : decode cX11_declare 0 = .ok (.aload_n 0, 1) := by decide +kernel
theorem dX11_declare_1 : decode cX11_declare 1 = .ok (.getfield 55, 3) := by decide +kernel
theorem dX11_declare_4 : decode cX11_declare 4 = .ok (.invokevirtual 116, 3) := by decide +kernel
theorem dX11_declare_7 : decode cX11_declare 7 = .ok (.istore_n 3, 1) := by decide +kernel
theorem dX11_declare_8 : decode cX11_declare 8 = .ok (.aload_n 0, 1) := by decide +kernel
theorem dX11_declare_9 : decode cX11_declare 9 = .ok (.getfield 55, 3) := by decide +kernel
theorem dX11_declare_12 : decode cX11_declare 12 = .ok (.invokevirtual 120, 3) := by decide +kernel
theorem dX11_declare_15 : decode cX11_declare 15 = .ok (.istore 4, 2) := by decide +kernel
theorem dX11_declare_17 : decode cX11_declare 17 = .ok (.aload_n 0, 1) := by decide +kernel
theorem dX11_declare_18 : decode cX11_declare 18 = .ok (.getfield 55, 3) := by decide +kernel
theorem dX11_declare_21 : decode cX11_declare 21 = .ok (.invokevirtual 123, 3) := by decide +kernel
theorem dX11_declare_24 : decode cX11_declare 24 = .ok (.istore 5, 2) := by decide +kernel
theorem dX11_declare_26 : decode cX11_declare 26 = .ok (.iload_n 1, 1) := by decide +kernel
theorem dX11_declare_27 : decode cX11_declare 27 = .ok (.ifCond .lt 23, 3) := by decide +kernel
theorem dX11_declare_30 : decode cX11_declare 30 = .ok (.iload_n 1, 1) := by decide +kernel
theorem dX11_declare_31 : decode cX11_declare 31 = .ok (.iconst 3, 1) := by decide +kernel
theorem dX11_declare_32 : decode cX11_declare 32 = .ok (.if_icmp .gt 18, 3) := by decide +kernel
theorem dX11_declare_35 : decode cX11_declare 35 = .ok (.iload_n 2, 1) := by decide +kernel
theorem dX11_declare_36 : decode cX11_declare 36 = .ok (.iconst 1, 1) := by decide +kernel
theorem dX11_declare_37 : decode cX11_declare 37 = .ok (.if_icmp .lt 13, 3) := by decide +kernel
theorem dX11_declare_40 : decode cX11_declare 40 = .ok (.iload_n 2, 1) := by decide +kernel
theorem dX11_declare_41 : decode cX11_declare 41 = .ok (.bipush 9, 2) := by decide +kernel
theorem dX11_declare_43 : decode cX11_declare 43 = .ok (.if_icmp .gt 7, 3) := by decide +kernel
theorem dX11_declare_46 : decode cX11_declare 46 = .ok (.iload_n 3, 1) := by decide +kernel
theorem dX11_declare_47 : decode cX11_declare 47 = .ok (.ifCond .ne 13, 3) := by decide +kernel
theorem dX11_declare_50 : decode cX11_declare 50 = .ok (.new 108, 3) := by decide +kernel
theorem dX11_declare_53 : decode cX11_declare 53 = .ok (.dup, 1) := by decide +kernel
theorem dX11_declare_54 : decode cX11_declare 54 = .ok (.ldc 126, 2) := by decide +kernel
theorem dX11_declare_56 : decode cX11_declare 56 = .ok (.invokespecial 112, 3) := by decide +kernel
theorem dX11_declare_59 : decode cX11_declare 59 = .ok (.athrow, 1) := by decide +kernel
theorem dX11_declareVariable_0 : decode cX11_declareVariable 0 = .ok (.aload_n 0, 1) := by decide +kernel
theorem dX11_declareVariable_1 : decode cX11_declareVariable 1 = .ok (.getfield 55, 3) := by decide +kernel
theorem dX11_declareVariable_4 : decode cX11_declareVariable 4 = .ok (.invokevirtual 116, 3) := by decide +kernel
theorem dX11_declareVariable_7 : decode cX11_declareVariable 7 = .ok (.istore_n 1, 1) := by decide +kernel
theorem dX11_declareVariable_8 : decode cX11_declareVariable 8 = .ok (.aload_n 0, 1) := by decide +kernel
theorem dX11_declareVariable_9 : decode cX11_declareVariable 9 = .ok (.getfield 55, 3) := by decide +kernel
theorem dX11_declareVariable_12 : decode cX11_declareVariable 12 = .ok (.invokevirtual 120, 3) := by decide +kernel
theorem dX11_declareVariable_15 : decode cX11_declareVariable 15 = .ok (.istore_n 2, 1) := by decide +kernel
theorem dX11_declareVariable_16 : decode cX11_declareVariable 16 = .ok (.aload_n 0, 1) := by decide +kernel
theorem dX11_declareVariable_17 : decode cX11_declareVariable 17 = .ok (.getfield 55, 3) := by decide +kernel
theorem dX11_declareVariable_20 : decode cX11_declareVariable 20 = .ok (.invokevirtual 123, 3) := by decide +kernel
theorem dX11_declareVariable_23 : decode cX11_declareVariable 23 = .ok (.istore_n 3, 1) := by decide +kernel
theorem dX11_declareVariable_24 : decode cX11_declareVariable 24 = .ok (.iload_n 1, 1) := by decide +kernel
theorem dX11_declareVariable_25 : decode cX11_declareVariable 25 = .ok (.ifCond .ne 13, 3) := by decide +kernel
theorem dX11_declareVariable_28 : decode cX11_declareVariable 28 = .ok (.new 108, 3) := by decide +kernel
theorem dX11_declareVariable_31 : decode cX11_declareVariable 31 = .ok (.dup, 1) := by decide +kernel
theorem dX11_declareVariable_32 : decode cX11_declareVariable 32 = .ok (.ldc 141, 2) := by decide +kernel
theorem dX11_declareVariable_34 : decode cX11_declareVariable 34 = .ok (.invokespecial 112, 3) := by decide +kernel
theorem dX11_declareVariable_37 : decode cX11_declareVariable 37 = .ok (.athrow, 1) := by decide +kernel
theorem dX11_dependsOn_0 : decode cX11_dependsOn 0 = .ok (.aload_n 0, 1) := by decide +kernel
theorem dX11_dependsOn_1 : decode cX11_dependsOn 1 = .ok (.iload_n 1, 1) := by decide +kernel
theorem dX11_dependsOn_2 : decode cX11_dependsOn 2 = .ok (.invokevirtual 194, 3) := by decide +kernel
theorem dX11_dependsOn_5 : decode cX11_dependsOn 5 = .ok (.ifCond .eq 26, 3) := by decide +kernel
theorem dX11_dependsOn_31 : decode cX11_dependsOn 31 = .ok (.new 169, 3) := by decide +kernel
theorem dX11_dependsOn_34 : decode cX11_dependsOn 34 = .ok (.dup, 1) := by decide +kernel
theorem dX11_dependsOn_35 : decode cX11_dependsOn 35 = .ok (.ldc_w 387, 3) := by decide +kernel
theorem dX11_dependsOn_38 : decode cX11_dependsOn 38 = .ok (.invokespecial 173, 3) := by decide +kernel
theorem dX11_dependsOn_41 : decode cX11_dependsOn 41 = .ok (.athrow, 1) := by decide +kernel
theorem dX11_depth_0 : decode cX11_depth 0 = .ok (.aload_n 0, 1) := by decide +kernel
theorem dX11_depth_1 : decode cX11_depth 1 = .ok (.iload_n 1, 1) := by decide +kernel
theorem dX11_depth_2 : decode cX11_depth 2 = .ok (.invokevirtual 194, 3) := by decide +kernel
theorem dX11_depth_5 : decode cX11_depth 5 = .ok (.ifCond .ne 13, 3) := by decide +kernel
theorem dX11_depth_8 : decode cX11_depth 8 = .ok (.new 169, 3) := by decide +kernel
theorem dX11_depth_11 : decode cX11_depth 11 = .ok (.dup, 1) := by decide +kernel
theorem dX11_depth_12 : decode cX11_depth 12 = .ok (.ldc 235, 2) := by decide +kernel
theorem dX11_depth_14 : decode cX11_depth 14 = .ok (.invokespecial 173, 3) := by decide +kernel
theorem dX11_depth_17 : decode cX11_depth 17 = .ok (.athrow, 1) := by decide +kernel
theorem dX11_digest_0 : decode cX11_digest 0 = .ok (.ldc2_w 441, 3) := by decide +kernel
theorem dX11_digest_3 : decode cX11_digest 3 = .ok (.aload_n 0, 1) := by decide +kernel
theorem dX11_digest_4 : decode cX11_digest 4 = .ok (.getfield 10, 3) := by decide +kernel
theorem dX11_digest_7 : decode cX11_digest 7 = .ok (.invokevirtual 150, 3) := by decide +kernel
theorem dX11_digest_10 : decode cX11_digest 10 = .ok (.i2l, 1) := by decide +kernel
theorem dX11_digest_11 : decode cX11_digest 11 = .ok (.ladd, 1) := by decide +kernel
theorem dX11_digest_12 : decode cX11_digest 12 = .ok (.lstore_n 1, 1) := by decide +kernel
theorem dX11_digest_13 : decode cX11_digest 13 = .ok (.iconst 0, 1) := by decide +kernel
theorem dX11_digest_14 : decode cX11_digest 14 = .ok (.istore_n 3, 1) := by decide +kernel
theorem dX11_digest_15 : decode cX11_digest 15 = .ok (.iload_n 3, 1) := by decide +kernel
theorem dX11_digest_16 : decode cX11_digest 16 = .ok (.aload_n 0, 1) := by decide +kernel
theorem dX11_digest_17 : decode cX11_digest 17 = .ok (.getfield 10, 3) := by decide +kernel
theorem dX11_digest_20 : decode cX11_digest 20 = .ok (.invokevirtual 150, 3) := by decide +kernel
theorem dX11_digest_23 : decode cX11_digest 23 = .ok (.if_icmp .ge 25, 3) := by decide +kernel
theorem dX11_digest_48 : decode cX11_digest 48 = .ok (.lload_n 1, 1) := by decide +kernel
theorem dX11_digest_49 : decode cX11_digest 49 = .ok (.ldc2_w 443, 3) := by decide +kernel
theorem dX11_digest_52 : decode cX11_digest 52 = .ok (.lmul, 1) := by decide +kernel
theorem dX11_digest_53 : decode cX11_digest 53 = .ok (.aload_n 0, 1) := by decide +kernel
theorem dX11_digest_54 : decode cX11_digest 54 = .ok (.getfield 231, 3) := by decide +kernel
theorem dX11_digest_57 : decode cX11_digest 57 = .ok (.i2l, 1) := by decide +kernel
theorem dX11_digest_58 : decode cX11_digest 58 = .ok (.ladd, 1) := by decide +kernel
theorem dX11_digest_59 : decode cX11_digest 59 = .ok (.lstore_n 1, 1) := by decide +kernel
theorem dX11_digest_60 : decode cX11_digest 60 = .ok (.lload_n 1, 1) := by decide +kernel
theorem dX11_digest_61 : decode cX11_digest 61 = .ok (.ldc2_w 443, 3) := by decide +kernel
theorem dX11_digest_64 : decode cX11_digest 64 = .ok (.lmul, 1) := by decide +kernel
theorem dX11_digest_65 : decode cX11_digest 65 = .ok (.aload_n 0, 1) := by decide +kernel
theorem dX11_digest_66 : decode cX11_digest 66 = .ok (.getfield 46, 3) := by decide +kernel
theorem dX11_digest_69 : decode cX11_digest 69 = .ok (.getfield 298, 3) := by decide +kernel
theorem dX11_digest_72 : decode cX11_digest 72 = .ok (.i2l, 1) := by decide +kernel
theorem dX11_digest_73 : decode cX11_digest 73 = .ok (.ladd, 1) := by decide +kernel
theorem dX11_digest_74 : decode cX11_digest 74 = .ok (.lstore_n 1, 1) := by decide +kernel
theorem dX11_digest_75 : decode cX11_digest 75 = .ok (.lload_n 1, 1) := by decide +kernel
theorem dX11_digest_76 : decode cX11_digest 76 = .ok (.ldc2_w 443, 3) := by decide +kernel
theorem dX11_digest_79 : decode cX11_digest 79 = .ok (.lmul, 1) := by decide +kernel
theorem dX11_digest_80 : decode cX11_digest 80 = .ok (.aload_n 0, 1) := by decide +kernel
theorem dX11_digest_81 : decode cX11_digest 81 = .ok (.getfield 46, 3) := by decide +kernel
theorem dX11_digest_84 : decode cX11_digest 84 = .ok (.getfield 309, 3) := by decide +kernel
theorem dX11_digest_87 : decode cX11_digest 87 = .ok (.i2l, 1) := by decide +kernel
theorem dX11_digest_88 : decode cX11_digest 88 = .ok (.ladd, 1) := by decide +kernel
theorem dX11_digest_89 : decode cX11_digest 89 = .ok (.lstore_n 1, 1) := by decide +kernel
theorem dX11_digest_90 : decode cX11_digest 90 = .ok (.lload_n 1, 1) := by decide +kernel
theorem dX11_digest_91 : decode cX11_digest 91 = .ok (.ldc2_w 443, 3) := by decide +kernel
theorem dX11_digest_94 : decode cX11_digest 94 = .ok (.lmul, 1) := by decide +kernel
theorem dX11_digest_95 : decode cX11_digest 95 = .ok (.aload_n 0, 1) := by decide +kernel
theorem dX11_digest_96 : decode cX11_digest 96 = .ok (.getfield 46, 3) := by decide +kernel
theorem dX11_digest_99 : decode cX11_digest 99 = .ok (.getfield 354, 3) := by decide +kernel
theorem dX11_digest_102 : decode cX11_digest 102 = .ok (.i2l, 1) := by decide +kernel
theorem dX11_digest_103 : decode cX11_digest 103 = .ok (.ladd, 1) := by decide +kernel
theorem dX11_digest_104 : decode cX11_digest 104 = .ok (.lstore_n 1, 1) := by decide +kernel
theorem dX11_digest_105 : decode cX11_digest 105 = .ok (.lload_n 1, 1) := by decide +kernel
theorem dX11_digest_106 : decode cX11_digest 106 = .ok (.ldc2_w 443, 3) := by decide +kernel
theorem dX11_digest_109 : decode cX11_digest 109 = .ok (.lmul, 1) := by decide +kernel
theorem dX11_digest_110 : decode cX11_digest 110 = .ok (.aload_n 0, 1) := by decide +kernel
theorem dX11_digest_111 : decode cX11_digest 111 = .ok (.getfield 46, 3) := by decide +kernel
theorem dX11_digest_114 : decode cX11_digest 114 = .ok (.getfield 367, 3) := by decide +kernel
theorem dX11_digest_117 : decode cX11_digest 117 = .ok (.i2l, 1) := by decide +kernel
theorem dX11_digest_118 : decode cX11_digest 118 = .ok (.ladd, 1) := by decide +kernel
theorem dX11_digest_119 : decode cX11_digest 119 = .ok (.lstore_n 1, 1) := by decide +kernel
theorem dX11_digest_120 : decode cX11_digest 120 = .ok (.iconst 0, 1) := by decide +kernel
theorem dX11_digest_121 : decode cX11_digest 121 = .ok (.istore_n 3, 1) := by decide +kernel
theorem dX11_digest_122 : decode cX11_digest 122 = .ok (.iload_n 3, 1) := by decide +kernel
theorem dX11_digest_123 : decode cX11_digest 123 = .ok (.aload_n 0, 1) := by decide +kernel
theorem dX11_digest_124 : decode cX11_digest 124 = .ok (.getfield 46, 3) := by decide +kernel
theorem dX11_digest_127 : decode cX11_digest 127 = .ok (.getfield 367, 3) := by decide +kernel
theorem dX11_digest_130 : decode cX11_digest 130 = .ok (.if_icmp .ge 55, 3) := by decide +kernel
theorem dX11_digest_185 : decode cX11_digest 185 = .ok (.lload_n 1, 1) := by decide +kernel
theorem dX11_digest_186 : decode cX11_digest 186 = .ok (.lreturn, 1) := by decide +kernel
theorem dX11_equate_0 : decode cX11_equate 0 = .ok (.aload_n 0, 1) := by decide +kernel
theorem dX11_equate_1 : decode cX11_equate 1 = .ok (.iload_n 1, 1) := by decide +kernel
theorem dX11_equate_2 : decode cX11_equate 2 = .ok (.invokevirtual 194, 3) := by decide +kernel
theorem dX11_equate_5 : decode cX11_equate 5 = .ok (.ifCond .eq 11, 3) := by decide +kernel
theorem dX11_equate_16 : decode cX11_equate 16 = .ok (.new 169, 3) := by decide +kernel
theorem dX11_equate_19 : decode cX11_equate 19 = .ok (.dup, 1) := by decide +kernel
theorem dX11_equate_20 : decode cX11_equate 20 = .ok (.ldc 235, 2) := by decide +kernel
theorem dX11_equate_22 : decode cX11_equate 22 = .ok (.invokespecial 173, 3) := by decide +kernel
theorem dX11_equate_25 : decode cX11_equate 25 = .ok (.athrow, 1) := by decide +kernel
theorem dX11_equationCount_0 : decode cX11_equationCount 0 = .ok (.aload_n 0, 1) := by decide +kernel
theorem dX11_equationCount_1 : decode cX11_equationCount 1 = .ok (.getfield 46, 3) := by decide +kernel
theorem dX11_equationCount_4 : decode cX11_equationCount 4 = .ok (.getfield 298, 3) := by decide +kernel
theorem dX11_equationCount_7 : decode cX11_equationCount 7 = .ok (.ireturn, 1) := by decide +kernel
theorem dX11_errorKind_0 : decode cX11_errorKind 0 = .ok (.aload_n 0, 1) := by decide +kernel
theorem dX11_errorKind_1 : decode cX11_errorKind 1 = .ok (.getfield 55, 3) := by decide +kernel
theorem dX11_errorKind_4 : decode cX11_errorKind 4 = .ok (.invokevirtual 225, 3) := by decide +kernel
theorem dX11_errorKind_7 : decode cX11_errorKind 7 = .ok (.ireturn, 1) := by decide +kernel
theorem dX11_errorPosition_0 : decode cX11_errorPosition 0 = .ok (.aload_n 0, 1) := by decide +kernel
theorem dX11_errorPosition_1 : decode cX11_errorPosition 1 = .ok (.getfield 55, 3) := by decide +kernel
theorem dX11_errorPosition_4 : decode cX11_errorPosition 4 = .ok (.invokevirtual 228, 3) := by decide +kernel
theorem dX11_errorPosition_7 : decode cX11_errorPosition 7 = .ok (.ireturn, 1) := by decide +kernel
theorem dX11_feed_0 : decode cX11_feed 0 = .ok (.aload_n 0, 1) := by decide +kernel
theorem dX11_feed_1 : decode cX11_feed 1 = .ok (.getfield 55, 3) := by decide +kernel
theorem dX11_feed_4 : decode cX11_feed 4 = .ok (.invokevirtual 94, 3) := by decide +kernel
theorem dX11_feed_7 : decode cX11_feed 7 = .ok (.bipush 20, 2) := by decide +kernel
theorem dX11_feed_9 : decode cX11_feed 9 = .ok (.iadd, 1) := by decide +kernel
theorem dX11_feed_10 : decode cX11_feed 10 = .ok (.sipush 400, 3) := by decide +kernel
theorem dX11_feed_13 : decode cX11_feed 13 = .ok (.if_icmp .le 13, 3) := by decide +kernel
theorem dX11_feed_26 : decode cX11_feed 26 = .ok (.aload_n 0, 1) := by decide +kernel
theorem dX11_feed_27 : decode cX11_feed 27 = .ok (.getfield 55, 3) := by decide +kernel
theorem dX11_feed_30 : decode cX11_feed 30 = .ok (.iload_n 1, 1) := by decide +kernel
theorem dX11_feed_31 : decode cX11_feed 31 = .ok (.invokevirtual 105, 3) := by decide +kernel
theorem dX11_feed_34 : decode cX11_feed 34 = .ok (.aload_n 0, 1) := by decide +kernel
theorem dX11_feed_35 : decode cX11_feed 35 = .ok (.getfield 55, 3) := by decide +kernel
theorem dX11_feed_38 : decode cX11_feed 38 = .ok (.iload_n 2, 1) := by decide +kernel
theorem dX11_feed_39 : decode cX11_feed 39 = .ok (.invokevirtual 105, 3) := by decide +kernel
theorem dX11_feed_42 : decode cX11_feed 42 = .ok (.aload_n 0, 1) := by decide +kernel
theorem dX11_feed_43 : decode cX11_feed 43 = .ok (.getfield 55, 3) := by decide +kernel
theorem dX11_feed_46 : decode cX11_feed 46 = .ok (.iload_n 3, 1) := by decide +kernel
theorem dX11_feed_47 : decode cX11_feed 47 = .ok (.invokevirtual 105, 3) := by decide +kernel
theorem dX11_feed_50 : decode cX11_feed 50 = .ok (.aload_n 0, 1) := by decide +kernel
theorem dX11_feed_51 : decode cX11_feed 51 = .ok (.getfield 55, 3) := by decide +kernel
theorem dX11_feed_54 : decode cX11_feed 54 = .ok (.iload 4, 2) := by decide +kernel
theorem dX11_feed_56 : decode cX11_feed 56 = .ok (.invokevirtual 105, 3) := by decide +kernel
theorem dX11_feed_59 : decode cX11_feed 59 = .ok (.aload_n 0, 1) := by decide +kernel
theorem dX11_feed_60 : decode cX11_feed 60 = .ok (.getfield 55, 3) := by decide +kernel
theorem dX11_feed_63 : decode cX11_feed 63 = .ok (.iload 5, 2) := by decide +kernel
theorem dX11_feed_65 : decode cX11_feed 65 = .ok (.invokevirtual 105, 3) := by decide +kernel
theorem dX11_feed_68 : decode cX11_feed 68 = .ok (.aload_n 0, 1) := by decide +kernel
theorem dX11_feed_69 : decode cX11_feed 69 = .ok (.getfield 55, 3) := by decide +kernel
theorem dX11_feed_72 : decode cX11_feed 72 = .ok (.invokevirtual 94, 3) := by decide +kernel
theorem dX11_feed_75 : decode cX11_feed 75 = .ok (.ireturn, 1) := by decide +kernel
theorem dX11_init_0 : decode cX11_init 0 = .ok (.aload_n 0, 1) := by decide +kernel
theorem dX11_init_1 : decode cX11_init 1 = .ok (.invokespecial 1, 3) := by decide +kernel
theorem dX11_init_4 : decode cX11_init 4 = .ok (.aload_n 0, 1) := by decide +kernel
theorem dX11_init_5 : decode cX11_init 5 = .ok (.new 7, 3) := by decide +kernel
theorem dX11_init_8 : decode cX11_init 8 = .ok (.dup, 1) := by decide +kernel
theorem dX11_init_9 : decode cX11_init 9 = .ok (.invokespecial 9, 3) := by decide +kernel
theorem dX11_init_12 : decode cX11_init 12 = .ok (.putfield 10, 3) := by decide +kernel
theorem dX11_init_15 : decode cX11_init 15 = .ok (.aload_n 0, 1) := by decide +kernel
theorem dX11_init_16 : decode cX11_init 16 = .ok (.new 16, 3) := by decide +kernel
theorem dX11_init_19 : decode cX11_init 19 = .ok (.dup, 1) := by decide +kernel
theorem dX11_init_20 : decode cX11_init 20 = .ok (.aload_n 0, 1) := by decide +kernel
theorem dX11_init_21 : decode cX11_init 21 = .ok (.getfield 10, 3) := by decide +kernel
theorem dX11_init_24 : decode cX11_init 24 = .ok (.invokespecial 18, 3) := by decide +kernel
theorem dX11_init_27 : decode cX11_init 27 = .ok (.putfield 21, 3) := by decide +kernel
theorem dX11_init_30 : decode cX11_init 30 = .ok (.aload_n 0, 1) := by decide +kernel
theorem dX11_init_31 : decode cX11_init 31 = .ok (.new 25, 3) := by decide +kernel
theorem dX11_init_34 : decode cX11_init 34 = .ok (.dup, 1) := by decide +kernel
theorem dX11_init_35 : decode cX11_init 35 = .ok (.aload_n 0, 1) := by decide +kernel
theorem dX11_init_36 : decode cX11_init 36 = .ok (.getfield 21, 3) := by decide +kernel
theorem dX11_init_39 : decode cX11_init 39 = .ok (.invokespecial 27, 3) := by decide +kernel
theorem dX11_init_42 : decode cX11_init 42 = .ok (.putfield 30, 3) := by decide +kernel
theorem dX11_init_45 : decode cX11_init 45 = .ok (.aload_n 0, 1) := by decide +kernel
theorem dX11_init_46 : decode cX11_init 46 = .ok (.new 34, 3) := by decide +kernel
theorem dX11_init_49 : decode cX11_init 49 = .ok (.dup, 1) := by decide +kernel
theorem dX11_init_50 : decode cX11_init 50 = .ok (.aload_n 0, 1) := by decide +kernel
theorem dX11_init_51 : decode cX11_init 51 = .ok (.getfield 10, 3) := by decide +kernel
theorem dX11_init_54 : decode cX11_init 54 = .ok (.invokespecial 36, 3) := by decide +kernel
theorem dX11_init_57 : decode cX11_init 57 = .ok (.putfield 37, 3) := by decide +kernel
theorem dX11_init_60 : decode cX11_init 60 = .ok (.aload_n 0, 1) := by decide +kernel
theorem dX11_init_61 : decode cX11_init 61 = .ok (.new 41, 3) := by decide +kernel
theorem dX11_init_64 : decode cX11_init 64 = .ok (.dup, 1) := by decide +kernel
theorem dX11_init_65 : decode cX11_init 65 = .ok (.aload_n 0, 1) := by decide +kernel
theorem dX11_init_66 : decode cX11_init 66 = .ok (.getfield 10, 3) := by decide +kernel
theorem dX11_init_69 : decode cX11_init 69 = .ok (.aload_n 0, 1) := by decide +kernel
theorem dX11_init_70 : decode cX11_init 70 = .ok (.getfield 21, 3) := by decide +kernel
theorem dX11_init_73 : decode cX11_init 73 = .ok (.aload_n 0, 1) := by decide +kernel
theorem dX11_init_74 : decode cX11_init 74 = .ok (.getfield 30, 3) := by decide +kernel
theorem dX11_init_77 : decode cX11_init 77 = .ok (.aload_n 0, 1) := by decide +kernel
theorem dX11_init_78 : decode cX11_init 78 = .ok (.getfield 37, 3) := by decide +kernel
theorem dX11_init_81 : decode cX11_init 81 = .ok (.invokespecial 43, 3) := by decide +kernel
theorem dX11_init_84 : decode cX11_init 84 = .ok (.putfield 46, 3) := by decide +kernel
theorem dX11_init_87 : decode cX11_init 87 = .ok (.aload_n 0, 1) := by decide +kernel
theorem dX11_init_88 : decode cX11_init 88 = .ok (.new 50, 3) := by decide +kernel
theorem dX11_init_91 : decode cX11_init 91 = .ok (.dup, 1) := by decide +kernel
theorem dX11_init_92 : decode cX11_init 92 = .ok (.aload_n 0, 1) := by decide +kernel
theorem dX11_init_93 : decode cX11_init 93 = .ok (.getfield 10, 3) := by decide +kernel
theorem dX11_init_96 : decode cX11_init 96 = .ok (.aload_n 0, 1) := by decide +kernel
theorem dX11_init_97 : decode cX11_init 97 = .ok (.getfield 21, 3) := by decide +kernel
theorem dX11_init_100 : decode cX11_init 100 = .ok (.invokespecial 52, 3) := by decide +kernel
theorem dX11_init_103 : decode cX11_init 103 = .ok (.putfield 55, 3) := by decide +kernel
theorem dX11_init_106 : decode cX11_init 106 = .ok (.aload_n 0, 1) := by decide +kernel
theorem dX11_init_107 : decode cX11_init 107 = .ok (.new 59, 3) := by decide +kernel
theorem dX11_init_110 : decode cX11_init 110 = .ok (.dup, 1) := by decide +kernel
theorem dX11_init_111 : decode cX11_init 111 = .ok (.aload_n 0, 1) := by decide +kernel
theorem dX11_init_112 : decode cX11_init 112 = .ok (.getfield 10, 3) := by decide +kernel
theorem dX11_init_115 : decode cX11_init 115 = .ok (.aload_n 0, 1) := by decide +kernel
theorem dX11_init_116 : decode cX11_init 116 = .ok (.getfield 21, 3) := by decide +kernel
theorem dX11_init_119 : decode cX11_init 119 = .ok (.aload_n 0, 1) := by decide +kernel
theorem dX11_init_120 : decode cX11_init 120 = .ok (.getfield 30, 3) := by decide +kernel
theorem dX11_init_123 : decode cX11_init 123 = .ok (.invokespecial 61, 3) := by decide +kernel
theorem dX11_init_126 : decode cX11_init 126 = .ok (.putfield 64, 3) := by decide +kernel
theorem dX11_init_129 : decode cX11_init 129 = .ok (.aload_n 0, 1) := by decide +kernel
theorem dX11_init_130 : decode cX11_init 130 = .ok (.new 68, 3) := by decide +kernel
theorem dX11_init_133 : decode cX11_init 133 = .ok (.dup, 1) := by decide +kernel
theorem dX11_init_134 : decode cX11_init 134 = .ok (.aload_n 0, 1) := by decide +kernel
theorem dX11_init_135 : decode cX11_init 135 = .ok (.getfield 46, 3) := by decide +kernel
theorem dX11_init_138 : decode cX11_init 138 = .ok (.aload_n 0, 1) := by decide +kernel
theorem dX11_init_139 : decode cX11_init 139 = .ok (.getfield 21, 3) := by decide +kernel
theorem dX11_init_142 : decode cX11_init 142 = .ok (.aload_n 0, 1) := by decide +kernel
theorem dX11_init_143 : decode cX11_init 143 = .ok (.getfield 30, 3) := by decide +kernel
theorem dX11_init_146 : decode cX11_init 146 = .ok (.aload_n 0, 1) := by decide +kernel
theorem dX11_init_147 : decode cX11_init 147 = .ok (.getfield 37, 3) := by decide +kernel
theorem dX11_init_150 : decode cX11_init 150 = .ok (.invokespecial 70, 3) := by decide +kernel
theorem dX11_init_153 : decode cX11_init 153 = .ok (.putfield 73, 3) := by decide +kernel
theorem dX11_init_156 : decode cX11_init 156 = .ok (.aload_n 0, 1) := by decide +kernel
theorem dX11_init_157 : decode cX11_init 157 = .ok (.new 77, 3) := by decide +kernel
theorem dX11_init_160 : decode cX11_init 160 = .ok (.dup, 1) := by decide +kernel
theorem dX11_init_161 : decode cX11_init 161 = .ok (.aload_n 0, 1) := by decide +kernel
theorem dX11_init_162 : decode cX11_init 162 = .ok (.getfield 46, 3) := by decide +kernel
theorem dX11_init_165 : decode cX11_init 165 = .ok (.aload_n 0, 1) := by decide +kernel
theorem dX11_init_166 : decode cX11_init 166 = .ok (.getfield 21, 3) := by decide +kernel
theorem dX11_init_169 : decode cX11_init 169 = .ok (.aload_n 0, 1) := by decide +kernel
theorem dX11_init_170 : decode cX11_init 170 = .ok (.getfield 30, 3) := by decide +kernel
theorem dX11_init_173 : decode cX11_init 173 = .ok (.aload_n 0, 1) := by decide +kernel
theorem dX11_init_174 : decode cX11_init 174 = .ok (.getfield 37, 3) := by decide +kernel
theorem dX11_init_177 : decode cX11_init 177 = .ok (.invokespecial 79, 3) := by decide +kernel
theorem dX11_init_180 : decode cX11_init 180 = .ok (.putfield 80, 3) := by decide +kernel
theorem dX11_init_183 : decode cX11_init 183 = .ok (.aload_n 0, 1) := by decide +kernel
theorem dX11_init_184 : decode cX11_init 184 = .ok (.new 84, 3) := by decide +kernel
theorem dX11_init_187 : decode cX11_init 187 = .ok (.dup, 1) := by decide +kernel
theorem dX11_init_188 : decode cX11_init 188 = .ok (.ldc 86, 2) := by decide +kernel
theorem dX11_init_190 : decode cX11_init 190 = .ok (.invokespecial 87, 3) := by decide +kernel
theorem dX11_init_193 : decode cX11_init 193 = .ok (.putfield 90, 3) := by decide +kernel
theorem dX11_init_196 : decode cX11_init 196 = .ok (.return_, 1) := by decide +kernel
theorem dX11_isConsistent_0 : decode cX11_isConsistent 0 = .ok (.aload_n 0, 1) := by decide +kernel
theorem dX11_isConsistent_1 : decode cX11_isConsistent 1 = .ok (.invokevirtual 199, 3) := by decide +kernel
theorem dX11_isConsistent_4 : decode cX11_isConsistent 4 = .ok (.aload_n 0, 1) := by decide +kernel
theorem dX11_isConsistent_5 : decode cX11_isConsistent 5 = .ok (.getfield 46, 3) := by decide +kernel
theorem dX11_isConsistent_8 : decode cX11_isConsistent 8 = .ok (.invokevirtual 346, 3) := by decide +kernel
theorem dX11_isConsistent_11 : decode cX11_isConsistent 11 = .ok (.iconst (-1), 1) := by decide +kernel
theorem dX11_isConsistent_12 : decode cX11_isConsistent 12 = .ok (.if_icmp .ne 7, 3) := by decide +kernel
theorem dX11_isConsistent_15 : decode cX11_isConsistent 15 = .ok (.iconst 1, 1) := by decide +kernel
theorem dX11_isConsistent_16 : decode cX11_isConsistent 16 = .ok (.goto 4, 3) := by decide +kernel
theorem dX11_isConsistent_20 : decode cX11_isConsistent 20 = .ok (.ireturn, 1) := by decide +kernel
theorem dX11_isFinite_0 : decode cX11_isFinite 0 = .ok (.aload_n 0, 1) := by decide +kernel
theorem dX11_isFinite_1 : decode cX11_isFinite 1 = .ok (.iload_n 1, 1) := by decide +kernel
theorem dX11_isFinite_2 : decode cX11_isFinite 2 = .ok (.invokevirtual 194, 3) := by decide +kernel
theorem dX11_isFinite_5 : decode cX11_isFinite 5 = .ok (.ifCond .ne 13, 3) := by decide +kernel
theorem dX11_isFinite_8 : decode cX11_isFinite 8 = .ok (.new 169, 3) := by decide +kernel
theorem dX11_isFinite_11 : decode cX11_isFinite 11 = .ok (.dup, 1) := by decide +kernel
theorem dX11_isFinite_12 : decode cX11_isFinite 12 = .ok (.ldc 235, 2) := by decide +kernel
theorem dX11_isFinite_14 : decode cX11_isFinite 14 = .ok (.invokespecial 173, 3) := by decide +kernel
theorem dX11_isFinite_17 : decode cX11_isFinite 17 = .ok (.athrow, 1) := by decide +kernel
theorem dX11_isTerm_0 : decode cX11_isTerm 0 = .ok (.iload_n 1, 1) := by decide +kernel
theorem dX11_isTerm_1 : decode cX11_isTerm 1 = .ok (.ifCond .lt 15, 3) := by decide +kernel
theorem dX11_isTerm_4 : decode cX11_isTerm 4 = .ok (.iload_n 1, 1) := by decide +kernel
theorem dX11_isTerm_5 : decode cX11_isTerm 5 = .ok (.aload_n 0, 1) := by decide +kernel
theorem dX11_isTerm_6 : decode cX11_isTerm 6 = .ok (.getfield 231, 3) := by decide +kernel
theorem dX11_isTerm_9 : decode cX11_isTerm 9 = .ok (.if_icmp .ge 7, 3) := by decide +kernel
theorem dX11_isTerm_16 : decode cX11_isTerm 16 = .ok (.iconst 0, 1) := by decide +kernel
theorem dX11_isTerm_17 : decode cX11_isTerm 17 = .ok (.ireturn, 1) := by decide +kernel
theorem dX11_match_0 : decode cX11_match 0 = .ok (.aload_n 0, 1) := by decide +kernel
theorem dX11_match_1 : decode cX11_match 1 = .ok (.iload_n 1, 1) := by decide +kernel
theorem dX11_match_2 : decode cX11_match 2 = .ok (.invokevirtual 194, 3) := by decide +kernel
theorem dX11_match_5 : decode cX11_match 5 = .ok (.ifCond .eq 11, 3) := by decide +kernel
theorem dX11_match_16 : decode cX11_match 16 = .ok (.new 169, 3) := by decide +kernel
theorem dX11_match_19 : decode cX11_match 19 = .ok (.dup, 1) := by decide +kernel
theorem dX11_match_20 : decode cX11_match 20 = .ok (.ldc 235, 2) := by decide +kernel
theorem dX11_match_22 : decode cX11_match 22 = .ok (.invokespecial 173, 3) := by decide +kernel
theorem dX11_match_25 : decode cX11_match 25 = .ok (.athrow, 1) := by decide +kernel
theorem dX11_normalForm_0 : decode cX11_normalForm 0 = .ok (.aload_n 0, 1) := by decide +kernel
theorem dX11_normalForm_1 : decode cX11_normalForm 1 = .ok (.iload_n 1, 1) := by decide +kernel
theorem dX11_normalForm_2 : decode cX11_normalForm 2 = .ok (.invokevirtual 194, 3) := by decide +kernel
theorem dX11_normalForm_5 : decode cX11_normalForm 5 = .ok (.ifCond .ne 13, 3) := by decide +kernel
theorem dX11_normalForm_8 : decode cX11_normalForm 8 = .ok (.new 169, 3) := by decide +kernel
theorem dX11_normalForm_11 : decode cX11_normalForm 11 = .ok (.dup, 1) := by decide +kernel
theorem dX11_normalForm_12 : decode cX11_normalForm 12 = .ok (.ldc 235, 2) := by decide +kernel
theorem dX11_normalForm_14 : decode cX11_normalForm 14 = .ok (.invokespecial 173, 3) := by decide +kernel
theorem dX11_normalForm_17 : decode cX11_normalForm 17 = .ok (.athrow, 1) := by decide +kernel
theorem dX11_occurrences_0 : decode cX11_occurrences 0 = .ok (.aload_n 0, 1) := by decide +kernel
theorem dX11_occurrences_1 : decode cX11_occurrences 1 = .ok (.iload_n 1, 1) := by decide +kernel
theorem dX11_occurrences_2 : decode cX11_occurrences 2 = .ok (.invokevirtual 194, 3) := by decide +kernel
theorem dX11_occurrences_5 : decode cX11_occurrences 5 = .ok (.ifCond .eq 11, 3) := by decide +kernel
theorem dX11_occurrences_16 : decode cX11_occurrences 16 = .ok (.new 169, 3) := by decide +kernel
theorem dX11_occurrences_19 : decode cX11_occurrences 19 = .ok (.dup, 1) := by decide +kernel
theorem dX11_occurrences_20 : decode cX11_occurrences 20 = .ok (.ldc 235, 2) := by decide +kernel
theorem dX11_occurrences_22 : decode cX11_occurrences 22 = .ok (.invokespecial 173, 3) := by decide +kernel
theorem dX11_occurrences_25 : decode cX11_occurrences 25 = .ok (.athrow, 1) := by decide +kernel
theorem dX11_orderByWeight_0 : decode cX11_orderByWeight 0 = .ok (.aload_n 0, 1) := by decide +kernel
theorem dX11_orderByWeight_1 : decode cX11_orderByWeight 1 = .ok (.getfield 10, 3) := by decide +kernel
theorem dX11_orderByWeight_4 : decode cX11_orderByWeight 4 = .ok (.invokevirtual 153, 3) := by decide +kernel
theorem dX11_orderByWeight_7 : decode cX11_orderByWeight 7 = .ok (.ifCond .eq 13, 3) := by decide +kernel
theorem dX11_orderByWeight_20 : decode cX11_orderByWeight 20 = .ok (.aload_n 0, 1) := by decide +kernel
theorem dX11_orderByWeight_21 : decode cX11_orderByWeight 21 = .ok (.getfield 10, 3) := by decide +kernel
theorem dX11_orderByWeight_24 : decode cX11_orderByWeight 24 = .ok (.invokevirtual 158, 3) := by decide +kernel
theorem dX11_orderByWeight_27 : decode cX11_orderByWeight 27 = .ok (.istore_n 2, 1) := by decide +kernel
theorem dX11_orderByWeight_28 : decode cX11_orderByWeight 28 = .ok (.aload_n 0, 1) := by decide +kernel
theorem dX11_orderByWeight_29 : decode cX11_orderByWeight 29 = .ok (.getfield 10, 3) := by decide +kernel
theorem dX11_orderByWeight_32 : decode cX11_orderByWeight 32 = .ok (.iload_n 1, 1) := by decide +kernel
theorem dX11_orderByWeight_33 : decode cX11_orderByWeight 33 = .ok (.invokevirtual 161, 3) := by decide +kernel
theorem dX11_orderByWeight_36 : decode cX11_orderByWeight 36 = .ok (.iload_n 2, 1) := by decide +kernel
theorem dX11_orderByWeight_37 : decode cX11_orderByWeight 37 = .ok (.ireturn, 1) := by decide +kernel
theorem dX11_outputByte_0 : decode cX11_outputByte 0 = .ok (.iload_n 1, 1) := by decide +kernel
theorem dX11_outputByte_1 : decode cX11_outputByte 1 = .ok (.ifCond .lt 14, 3) := by decide +kernel
theorem dX11_outputByte_4 : decode cX11_outputByte 4 = .ok (.iload_n 1, 1) := by decide +kernel
theorem dX11_outputByte_5 : decode cX11_outputByte 5 = .ok (.aload_n 0, 1) := by decide +kernel
theorem dX11_outputByte_6 : decode cX11_outputByte 6 = .ok (.getfield 64, 3) := by decide +kernel
theorem dX11_outputByte_9 : decode cX11_outputByte 9 = .ok (.invokevirtual 287, 3) := by decide +kernel
theorem dX11_outputByte_12 : decode cX11_outputByte 12 = .ok (.if_icmp .lt 14, 3) := by decide +kernel
theorem dX11_outputByte_15 : decode cX11_outputByte 15 = .ok (.new 169, 3) := by decide +kernel
theorem dX11_outputByte_18 : decode cX11_outputByte 18 = .ok (.dup, 1) := by decide +kernel
theorem dX11_outputByte_19 : decode cX11_outputByte 19 = .ok (.ldc_w 288, 3) := by decide +kernel
theorem dX11_outputByte_22 : decode cX11_outputByte 22 = .ok (.invokespecial 173, 3) := by decide +kernel
theorem dX11_outputByte_25 : decode cX11_outputByte 25 = .ok (.athrow, 1) := by decide +kernel
theorem dX11_pop_0 : decode cX11_pop 0 = .ok (.aload_n 0, 1) := by decide +kernel
theorem dX11_pop_1 : decode cX11_pop 1 = .ok (.getfield 46, 3) := by decide +kernel
theorem dX11_pop_4 : decode cX11_pop 4 = .ok (.getfield 354, 3) := by decide +kernel
theorem dX11_pop_7 : decode cX11_pop 7 = .ok (.ifCond .gt 14, 3) := by decide +kernel
theorem dX11_pop_10 : decode cX11_pop 10 = .ok (.new 98, 3) := by decide +kernel
theorem dX11_pop_13 : decode cX11_pop 13 = .ok (.dup, 1) := by decide +kernel
theorem dX11_pop_14 : decode cX11_pop 14 = .ok (.ldc_w 362, 3) := by decide +kernel
theorem dX11_pop_17 : decode cX11_pop 17 = .ok (.invokespecial 102, 3) := by decide +kernel
theorem dX11_pop_20 : decode cX11_pop 20 = .ok (.athrow, 1) := by decide +kernel
theorem dX11_promote_0 : decode cX11_promote 0 = .ok (.aload_n 0, 1) := by decide +kernel
theorem dX11_promote_1 : decode cX11_promote 1 = .ok (.getfield 10, 3) := by decide +kernel
theorem dX11_promote_4 : decode cX11_promote 4 = .ok (.iload_n 1, 1) := by decide +kernel
theorem dX11_promote_5 : decode cX11_promote 5 = .ok (.invokevirtual 165, 3) := by decide +kernel
theorem dX11_promote_8 : decode cX11_promote 8 = .ok (.ifCond .eq 14, 3) := by decide +kernel
theorem dX11_promote_22 : decode cX11_promote 22 = .ok (.new 169, 3) := by decide +kernel
theorem dX11_promote_25 : decode cX11_promote 25 = .ok (.dup, 1) := by decide +kernel
theorem dX11_promote_26 : decode cX11_promote 26 = .ok (.ldc 171, 2) := by decide +kernel
theorem dX11_promote_28 : decode cX11_promote 28 = .ok (.invokespecial 173, 3) := by decide +kernel
theorem dX11_promote_31 : decode cX11_promote 31 = .ok (.athrow, 1) := by decide +kernel
theorem dX11_push_0 : decode cX11_push 0 = .ok (.aload_n 0, 1) := by decide +kernel
theorem dX11_push_1 : decode cX11_push 1 = .ok (.getfield 46, 3) := by decide +kernel
theorem dX11_push_4 : decode cX11_push 4 = .ok (.getfield 354, 3) := by decide +kernel
theorem dX11_push_7 : decode cX11_push 7 = .ok (.bipush 8, 2) := by decide +kernel
theorem dX11_push_9 : decode cX11_push 9 = .ok (.if_icmp .lt 14, 3) := by decide +kernel
theorem dX11_push_23 : decode cX11_push 23 = .ok (.aload_n 0, 1) := by decide +kernel
theorem dX11_push_24 : decode cX11_push 24 = .ok (.getfield 46, 3) := by decide +kernel
theorem dX11_push_27 : decode cX11_push 27 = .ok (.invokevirtual 359, 3) := by decide +kernel
theorem dX11_push_30 : decode cX11_push 30 = .ok (.aload_n 0, 1) := by decide +kernel
theorem dX11_push_31 : decode cX11_push 31 = .ok (.getfield 46, 3) := by decide +kernel
theorem dX11_push_34 : decode cX11_push 34 = .ok (.getfield 354, 3) := by decide +kernel
theorem dX11_push_37 : decode cX11_push 37 = .ok (.ireturn, 1) := by decide +kernel
theorem dX11_rankOf_0 : decode cX11_rankOf 0 = .ok (.aload_n 0, 1) := by decide +kernel
theorem dX11_rankOf_1 : decode cX11_rankOf 1 = .ok (.getfield 10, 3) := by decide +kernel
theorem dX11_rankOf_4 : decode cX11_rankOf 4 = .ok (.iload_n 1, 1) := by decide +kernel
theorem dX11_rankOf_5 : decode cX11_rankOf 5 = .ok (.invokevirtual 165, 3) := by decide +kernel
theorem dX11_rankOf_8 : decode cX11_rankOf 8 = .ok (.ifCond .ne 13, 3) := by decide +kernel
theorem dX11_rankOf_11 : decode cX11_rankOf 11 = .ok (.new 169, 3) := by decide +kernel
theorem dX11_rankOf_14 : decode cX11_rankOf 14 = .ok (.dup, 1) := by decide +kernel
theorem dX11_rankOf_15 : decode cX11_rankOf 15 = .ok (.ldc 182, 2) := by decide +kernel
theorem dX11_rankOf_17 : decode cX11_rankOf 17 = .ok (.invokespecial 173, 3) := by decide +kernel
theorem dX11_rankOf_20 : decode cX11_rankOf 20 = .ok (.athrow, 1) := by decide +kernel
theorem dX11_read_0 : decode cX11_read 0 = .ok (.aload_n 0, 1) := by decide +kernel
theorem dX11_read_1 : decode cX11_read 1 = .ok (.invokevirtual 199, 3) := by decide +kernel
theorem dX11_read_4 : decode cX11_read 4 = .ok (.aload_n 0, 1) := by decide +kernel
theorem dX11_read_5 : decode cX11_read 5 = .ok (.getfield 55, 3) := by decide +kernel
theorem dX11_read_8 : decode cX11_read 8 = .ok (.invokevirtual 220, 3) := by decide +kernel
theorem dX11_read_11 : decode cX11_read 11 = .ok (.istore_n 1, 1) := by decide +kernel
theorem dX11_read_12 : decode cX11_read 12 = .ok (.iload_n 1, 1) := by decide +kernel
theorem dX11_read_13 : decode cX11_read 13 = .ok (.ifCond .ge 13, 3) := by decide +kernel
theorem dX11_read_16 : decode cX11_read 16 = .ok (.new 108, 3) := by decide +kernel
theorem dX11_read_19 : decode cX11_read 19 = .ok (.dup, 1) := by decide +kernel
theorem dX11_read_20 : decode cX11_read 20 = .ok (.ldc 223, 2) := by decide +kernel
theorem dX11_read_22 : decode cX11_read 22 = .ok (.invokespecial 112, 3) := by decide +kernel
theorem dX11_read_25 : decode cX11_read 25 = .ok (.athrow, 1) := by decide +kernel
theorem dX11_readTheory_0 : decode cX11_readTheory 0 = .ok (.aload_n 0, 1) := by decide +kernel
theorem dX11_readTheory_1 : decode cX11_readTheory 1 = .ok (.invokevirtual 199, 3) := by decide +kernel
theorem dX11_readTheory_4 : decode cX11_readTheory 4 = .ok (.aload_n 0, 1) := by decide +kernel
theorem dX11_readTheory_5 : decode cX11_readTheory 5 = .ok (.getfield 55, 3) := by decide +kernel
theorem dX11_readTheory_8 : decode cX11_readTheory 8 = .ok (.invokevirtual 322, 3) := by decide +kernel
theorem dX11_readTheory_11 : decode cX11_readTheory 11 = .ok (.ifCond .ne 13, 3) := by decide +kernel
theorem dX11_readTheory_24 : decode cX11_readTheory 24 = .ok (.aload_n 0, 1) := by decide +kernel
theorem dX11_readTheory_25 : decode cX11_readTheory 25 = .ok (.getfield 46, 3) := by decide +kernel
theorem dX11_readTheory_28 : decode cX11_readTheory 28 = .ok (.getfield 298, 3) := by decide +kernel
theorem dX11_readTheory_31 : decode cX11_readTheory 31 = .ok (.istore_n 1, 1) := by decide +kernel
theorem dX11_readTheory_32 : decode cX11_readTheory 32 = .ok (.aload_n 0, 1) := by decide +kernel
theorem dX11_readTheory_33 : decode cX11_readTheory 33 = .ok (.getfield 46, 3) := by decide +kernel
theorem dX11_readTheory_36 : decode cX11_readTheory 36 = .ok (.getfield 309, 3) := by decide +kernel
theorem dX11_readTheory_39 : decode cX11_readTheory 39 = .ok (.istore_n 2, 1) := by decide +kernel
theorem dX11_readTheory_40 : decode cX11_readTheory 40 = .ok (.iconst 0, 1) := by decide +kernel
theorem dX11_readTheory_41 : decode cX11_readTheory 41 = .ok (.istore_n 3, 1) := by decide +kernel
theorem dX11_readTheory_42 : decode cX11_readTheory 42 = .ok (.iconst 0, 1) := by decide +kernel
theorem dX11_readTheory_43 : decode cX11_readTheory 43 = .ok (.istore 4, 2) := by decide +kernel
theorem dX11_readTheory_45 : decode cX11_readTheory 45 = .ok (.iload 4, 2) := by decide +kernel
theorem dX11_readTheory_47 : decode cX11_readTheory 47 = .ok (.aload_n 0, 1) := by decide +kernel
theorem dX11_readTheory_48 : decode cX11_readTheory 48 = .ok (.getfield 55, 3) := by decide +kernel
theorem dX11_readTheory_51 : decode cX11_readTheory 51 = .ok (.invokevirtual 325, 3) := by decide +kernel
theorem dX11_readTheory_54 : decode cX11_readTheory 54 = .ok (.if_icmp .ge 76, 3) := by decide +kernel
theorem dX11_readTheory_130 : decode cX11_readTheory 130 = .ok (.iload_n 3, 1) := by decide +kernel
theorem dX11_readTheory_131 : decode cX11_readTheory 131 = .ok (.ifCond .eq 20, 3) := by decide +kernel
theorem dX11_readTheory_151 : decode cX11_readTheory 151 = .ok (.iload_n 3, 1) := by decide +kernel
theorem dX11_readTheory_152 : decode cX11_readTheory 152 = .ok (.iconst 1, 1) := by decide +kernel
theorem dX11_readTheory_153 : decode cX11_readTheory 153 = .ok (.if_icmp .ne 14, 3) := by decide +kernel
theorem dX11_readTheory_167 : decode cX11_readTheory 167 = .ok (.iload_n 3, 1) := by decide +kernel
theorem dX11_readTheory_168 : decode cX11_readTheory 168 = .ok (.iconst 2, 1) := by decide +kernel
theorem dX11_readTheory_169 : decode cX11_readTheory 169 = .ok (.if_icmp .ne 14, 3) := by decide +kernel
theorem dX11_readTheory_183 : decode cX11_readTheory 183 = .ok (.aload_n 0, 1) := by decide +kernel
theorem dX11_readTheory_184 : decode cX11_readTheory 184 = .ok (.getfield 55, 3) := by decide +kernel
theorem dX11_readTheory_187 : decode cX11_readTheory 187 = .ok (.invokevirtual 325, 3) := by decide +kernel
theorem dX11_readTheory_190 : decode cX11_readTheory 190 = .ok (.ifCond .le 10, 3) := by decide +kernel
theorem dX11_readTheory_200 : decode cX11_readTheory 200 = .ok (.aload_n 0, 1) := by decide +kernel
theorem dX11_readTheory_201 : decode cX11_readTheory 201 = .ok (.getfield 55, 3) := by decide +kernel
theorem dX11_readTheory_204 : decode cX11_readTheory 204 = .ok (.invokevirtual 325, 3) := by decide +kernel
theorem dX11_readTheory_207 : decode cX11_readTheory 207 = .ok (.ireturn, 1) := by decide +kernel
theorem dX11_replace_0 : decode cX11_replace 0 = .ok (.aload_n 0, 1) := by decide +kernel
theorem dX11_replace_1 : decode cX11_replace 1 = .ok (.iload_n 1, 1) := by decide +kernel
theorem dX11_replace_2 : decode cX11_replace 2 = .ok (.invokevirtual 194, 3) := by decide +kernel
theorem dX11_replace_5 : decode cX11_replace 5 = .ok (.ifCond .eq 19, 3) := by decide +kernel
theorem dX11_replace_24 : decode cX11_replace 24 = .ok (.new 169, 3) := by decide +kernel
theorem dX11_replace_27 : decode cX11_replace 27 = .ok (.dup, 1) := by decide +kernel
theorem dX11_replace_28 : decode cX11_replace 28 = .ok (.ldc 235, 2) := by decide +kernel
theorem dX11_replace_30 : decode cX11_replace 30 = .ok (.invokespecial 173, 3) := by decide +kernel
theorem dX11_replace_33 : decode cX11_replace 33 = .ok (.athrow, 1) := by decide +kernel
theorem dX11_ruleCount_0 : decode cX11_ruleCount 0 = .ok (.aload_n 0, 1) := by decide +kernel
theorem dX11_ruleCount_1 : decode cX11_ruleCount 1 = .ok (.getfield 46, 3) := by decide +kernel
theorem dX11_ruleCount_4 : decode cX11_ruleCount 4 = .ok (.getfield 367, 3) := by decide +kernel
theorem dX11_ruleCount_7 : decode cX11_ruleCount 7 = .ok (.ireturn, 1) := by decide +kernel
theorem dX11_ruleLeft_0 : decode cX11_ruleLeft 0 = .ok (.iload_n 1, 1) := by decide +kernel
theorem dX11_ruleLeft_1 : decode cX11_ruleLeft 1 = .ok (.ifCond .lt 14, 3) := by decide +kernel
theorem dX11_ruleLeft_4 : decode cX11_ruleLeft 4 = .ok (.iload_n 1, 1) := by decide +kernel
theorem dX11_ruleLeft_5 : decode cX11_ruleLeft 5 = .ok (.aload_n 0, 1) := by decide +kernel
theorem dX11_ruleLeft_6 : decode cX11_ruleLeft 6 = .ok (.getfield 46, 3) := by decide +kernel
theorem dX11_ruleLeft_9 : decode cX11_ruleLeft 9 = .ok (.getfield 367, 3) := by decide +kernel
theorem dX11_ruleLeft_12 : decode cX11_ruleLeft 12 = .ok (.if_icmp .lt 14, 3) := by decide +kernel
theorem dX11_ruleLeft_15 : decode cX11_ruleLeft 15 = .ok (.new 169, 3) := by decide +kernel
theorem dX11_ruleLeft_18 : decode cX11_ruleLeft 18 = .ok (.dup, 1) := by decide +kernel
theorem dX11_ruleLeft_19 : decode cX11_ruleLeft 19 = .ok (.ldc_w 370, 3) := by decide +kernel
theorem dX11_ruleLeft_22 : decode cX11_ruleLeft 22 = .ok (.invokespecial 173, 3) := by decide +kernel
theorem dX11_ruleLeft_25 : decode cX11_ruleLeft 25 = .ok (.athrow, 1) := by decide +kernel
theorem dX11_ruleRight_0 : decode cX11_ruleRight 0 = .ok (.iload_n 1, 1) := by decide +kernel
theorem dX11_ruleRight_1 : decode cX11_ruleRight 1 = .ok (.ifCond .lt 14, 3) := by decide +kernel
theorem dX11_ruleRight_4 : decode cX11_ruleRight 4 = .ok (.iload_n 1, 1) := by decide +kernel
theorem dX11_ruleRight_5 : decode cX11_ruleRight 5 = .ok (.aload_n 0, 1) := by decide +kernel
theorem dX11_ruleRight_6 : decode cX11_ruleRight 6 = .ok (.getfield 46, 3) := by decide +kernel
theorem dX11_ruleRight_9 : decode cX11_ruleRight 9 = .ok (.getfield 367, 3) := by decide +kernel
theorem dX11_ruleRight_12 : decode cX11_ruleRight 12 = .ok (.if_icmp .lt 14, 3) := by decide +kernel
theorem dX11_ruleRight_15 : decode cX11_ruleRight 15 = .ok (.new 169, 3) := by decide +kernel
theorem dX11_ruleRight_18 : decode cX11_ruleRight 18 = .ok (.dup, 1) := by decide +kernel
theorem dX11_ruleRight_19 : decode cX11_ruleRight 19 = .ok (.ldc_w 370, 3) := by decide +kernel
theorem dX11_ruleRight_22 : decode cX11_ruleRight 22 = .ok (.invokespecial 173, 3) := by decide +kernel
theorem dX11_ruleRight_25 : decode cX11_ruleRight 25 = .ok (.athrow, 1) := by decide +kernel
theorem dX11_separate_0 : decode cX11_separate 0 = .ok (.aload_n 0, 1) := by decide +kernel
theorem dX11_separate_1 : decode cX11_separate 1 = .ok (.iload_n 1, 1) := by decide +kernel
theorem dX11_separate_2 : decode cX11_separate 2 = .ok (.invokevirtual 194, 3) := by decide +kernel
theorem dX11_separate_5 : decode cX11_separate 5 = .ok (.ifCond .eq 11, 3) := by decide +kernel
theorem dX11_separate_16 : decode cX11_separate 16 = .ok (.new 169, 3) := by decide +kernel
theorem dX11_separate_19 : decode cX11_separate 19 = .ok (.dup, 1) := by decide +kernel
theorem dX11_separate_20 : decode cX11_separate 20 = .ok (.ldc 235, 2) := by decide +kernel
theorem dX11_separate_22 : decode cX11_separate 22 = .ok (.invokespecial 173, 3) := by decide +kernel
theorem dX11_separate_25 : decode cX11_separate 25 = .ok (.athrow, 1) := by decide +kernel
theorem dX11_separationCount_0 : decode cX11_separationCount 0 = .ok (.aload_n 0, 1) := by decide +kernel
theorem dX11_separationCount_1 : decode cX11_separationCount 1 = .ok (.getfield 46, 3) := by decide +kernel
theorem dX11_separationCount_4 : decode cX11_separationCount 4 = .ok (.getfield 309, 3) := by decide +kernel
theorem dX11_separationCount_7 : decode cX11_separationCount 7 = .ok (.ireturn, 1) := by decide +kernel
theorem dX11_setDirection_0 : decode cX11_setDirection 0 = .ok (.aload_n 0, 1) := by decide +kernel
theorem dX11_setDirection_1 : decode cX11_setDirection 1 = .ok (.getfield 10, 3) := by decide +kernel
theorem dX11_setDirection_4 : decode cX11_setDirection 4 = .ok (.iload_n 1, 1) := by decide +kernel
theorem dX11_setDirection_5 : decode cX11_setDirection 5 = .ok (.invokevirtual 165, 3) := by decide +kernel
theorem dX11_setDirection_8 : decode cX11_setDirection 8 = .ok (.ifCond .ne 13, 3) := by decide +kernel
theorem dX11_setDirection_11 : decode cX11_setDirection 11 = .ok (.new 169, 3) := by decide +kernel
theorem dX11_setDirection_14 : decode cX11_setDirection 14 = .ok (.dup, 1) := by decide +kernel
theorem dX11_setDirection_15 : decode cX11_setDirection 15 = .ok (.ldc 182, 2) := by decide +kernel
theorem dX11_setDirection_17 : decode cX11_setDirection 17 = .ok (.invokespecial 173, 3) := by decide +kernel
theorem dX11_setDirection_20 : decode cX11_setDirection 20 = .ok (.athrow, 1) := by decide +kernel
theorem dX11_size_0 : decode cX11_size 0 = .ok (.aload_n 0, 1) := by decide +kernel
theorem dX11_size_1 : decode cX11_size 1 = .ok (.iload_n 1, 1) := by decide +kernel
theorem dX11_size_2 : decode cX11_size 2 = .ok (.invokevirtual 194, 3) := by decide +kernel
theorem dX11_size_5 : decode cX11_size 5 = .ok (.ifCond .ne 13, 3) := by decide +kernel
theorem dX11_size_8 : decode cX11_size 8 = .ok (.new 169, 3) := by decide +kernel
theorem dX11_size_11 : decode cX11_size 11 = .ok (.dup, 1) := by decide +kernel
theorem dX11_size_12 : decode cX11_size 12 = .ok (.ldc 235, 2) := by decide +kernel
theorem dX11_size_14 : decode cX11_size 14 = .ok (.invokespecial 173, 3) := by decide +kernel
theorem dX11_size_17 : decode cX11_size 17 = .ok (.athrow, 1) := by decide +kernel
theorem dX11_smallest_0 : decode cX11_smallest 0 = .ok (.aload_n 0, 1) := by decide +kernel
theorem dX11_smallest_1 : decode cX11_smallest 1 = .ok (.iload_n 1, 1) := by decide +kernel
theorem dX11_smallest_2 : decode cX11_smallest 2 = .ok (.invokevirtual 194, 3) := by decide +kernel
theorem dX11_smallest_5 : decode cX11_smallest 5 = .ok (.ifCond .ne 13, 3) := by decide +kernel
theorem dX11_smallest_8 : decode cX11_smallest 8 = .ok (.new 169, 3) := by decide +kernel
theorem dX11_smallest_11 : decode cX11_smallest 11 = .ok (.dup, 1) := by decide +kernel
theorem dX11_smallest_12 : decode cX11_smallest 12 = .ok (.ldc 235, 2) := by decide +kernel
theorem dX11_smallest_14 : decode cX11_smallest 14 = .ok (.invokespecial 173, 3) := by decide +kernel
theorem dX11_smallest_17 : decode cX11_smallest 17 = .ok (.athrow, 1) := by decide +kernel
theorem dX11_solution_0 : decode cX11_solution 0 = .ok (.iload_n 1, 1) := by decide +kernel
theorem dX11_solution_1 : decode cX11_solution 1 = .ok (.ifCond .lt 25, 3) := by decide +kernel
theorem dX11_solution_4 : decode cX11_solution 4 = .ok (.iload_n 1, 1) := by decide +kernel
theorem dX11_solution_5 : decode cX11_solution 5 = .ok (.aload_n 0, 1) := by decide +kernel
theorem dX11_solution_6 : decode cX11_solution 6 = .ok (.getfield 80, 3) := by decide +kernel
theorem dX11_solution_9 : decode cX11_solution 9 = .ok (.getfield 425, 3) := by decide +kernel
theorem dX11_solution_12 : decode cX11_solution 12 = .ok (.if_icmp .ge 14, 3) := by decide +kernel
theorem dX11_solution_26 : decode cX11_solution 26 = .ok (.new 169, 3) := by decide +kernel
theorem dX11_solution_29 : decode cX11_solution 29 = .ok (.dup, 1) := by decide +kernel
theorem dX11_solution_30 : decode cX11_solution 30 = .ok (.ldc_w 428, 3) := by decide +kernel
theorem dX11_solution_33 : decode cX11_solution 33 = .ok (.invokespecial 173, 3) := by decide +kernel
theorem dX11_solution_36 : decode cX11_solution 36 = .ok (.athrow, 1) := by decide +kernel
theorem dX11_stepCount_0 : decode cX11_stepCount 0 = .ok (.aload_n 0, 1) := by decide +kernel
theorem dX11_stepCount_1 : decode cX11_stepCount 1 = .ok (.iload_n 1, 1) := by decide +kernel
theorem dX11_stepCount_2 : decode cX11_stepCount 2 = .ok (.invokevirtual 194, 3) := by decide +kernel
theorem dX11_stepCount_5 : decode cX11_stepCount 5 = .ok (.ifCond .ne 13, 3) := by decide +kernel
theorem dX11_stepCount_8 : decode cX11_stepCount 8 = .ok (.new 169, 3) := by decide +kernel
theorem dX11_stepCount_11 : decode cX11_stepCount 11 = .ok (.dup, 1) := by decide +kernel
theorem dX11_stepCount_12 : decode cX11_stepCount 12 = .ok (.ldc 235, 2) := by decide +kernel
theorem dX11_stepCount_14 : decode cX11_stepCount 14 = .ok (.invokespecial 173, 3) := by decide +kernel
theorem dX11_stepCount_17 : decode cX11_stepCount 17 = .ok (.athrow, 1) := by decide +kernel
theorem dX11_symbolCount_0 : decode cX11_symbolCount 0 = .ok (.aload_n 0, 1) := by decide +kernel
theorem dX11_symbolCount_1 : decode cX11_symbolCount 1 = .ok (.getfield 10, 3) := by decide +kernel
theorem dX11_symbolCount_4 : decode cX11_symbolCount 4 = .ok (.invokevirtual 150, 3) := by decide +kernel
theorem dX11_symbolCount_7 : decode cX11_symbolCount 7 = .ok (.ireturn, 1) := by decide +kernel
theorem dX11_symbolOf_0 : decode cX11_symbolOf 0 = .ok (.aload_n 0, 1) := by decide +kernel
theorem dX11_symbolOf_1 : decode cX11_symbolOf 1 = .ok (.iload_n 1, 1) := by decide +kernel
theorem dX11_symbolOf_2 : decode cX11_symbolOf 2 = .ok (.invokevirtual 194, 3) := by decide +kernel
theorem dX11_symbolOf_5 : decode cX11_symbolOf 5 = .ok (.ifCond .ne 13, 3) := by decide +kernel
theorem dX11_symbolOf_8 : decode cX11_symbolOf 8 = .ok (.new 169, 3) := by decide +kernel
theorem dX11_symbolOf_11 : decode cX11_symbolOf 11 = .ok (.dup, 1) := by decide +kernel
theorem dX11_symbolOf_12 : decode cX11_symbolOf 12 = .ok (.ldc 235, 2) := by decide +kernel
theorem dX11_symbolOf_14 : decode cX11_symbolOf 14 = .ok (.invokespecial 173, 3) := by decide +kernel
theorem dX11_symbolOf_17 : decode cX11_symbolOf 17 = .ok (.athrow, 1) := by decide +kernel
theorem dX11_term_0 : decode cX11_term 0 = .ok (.aload_n 0, 1) := by decide +kernel
theorem dX11_term_1 : decode cX11_term 1 = .ok (.getfield 10, 3) := by decide +kernel
theorem dX11_term_4 : decode cX11_term 4 = .ok (.iload_n 1, 1) := by decide +kernel
theorem dX11_term_5 : decode cX11_term 5 = .ok (.invokevirtual 191, 3) := by decide +kernel
theorem dX11_term_8 : decode cX11_term 8 = .ok (.istore 5, 2) := by decide +kernel
theorem dX11_term_10 : decode cX11_term 10 = .ok (.aload_n 0, 1) := by decide +kernel
theorem dX11_term_11 : decode cX11_term 11 = .ok (.getfield 10, 3) := by decide +kernel
theorem dX11_term_14 : decode cX11_term 14 = .ok (.iload_n 1, 1) := by decide +kernel
theorem dX11_term_15 : decode cX11_term 15 = .ok (.invokevirtual 165, 3) := by decide +kernel
theorem dX11_term_18 : decode cX11_term 18 = .ok (.ifCond .eq 45, 3) := by decide +kernel
theorem dX11_term_63 : decode cX11_term 63 = .ok (.new 169, 3) := by decide +kernel
theorem dX11_term_66 : decode cX11_term 66 = .ok (.dup, 1) := by decide +kernel
theorem dX11_term_67 : decode cX11_term 67 = .ok (.ldc 197, 2) := by decide +kernel
theorem dX11_term_69 : decode cX11_term 69 = .ok (.invokespecial 173, 3) := by decide +kernel
theorem dX11_term_72 : decode cX11_term 72 = .ok (.athrow, 1) := by decide +kernel
theorem dX11_termCount_0 : decode cX11_termCount 0 = .ok (.aload_n 0, 1) := by decide +kernel
theorem dX11_termCount_1 : decode cX11_termCount 1 = .ok (.getfield 231, 3) := by decide +kernel
theorem dX11_termCount_4 : decode cX11_termCount 4 = .ok (.ireturn, 1) := by decide +kernel
theorem dX11_tidy_0 : decode cX11_tidy 0 = .ok (.aload_n 0, 1) := by decide +kernel
theorem dX11_tidy_1 : decode cX11_tidy 1 = .ok (.getfield 21, 3) := by decide +kernel
theorem dX11_tidy_4 : decode cX11_tidy 4 = .ok (.invokevirtual 454, 3) := by decide +kernel
theorem dX11_tidy_7 : decode cX11_tidy 7 = .ok (.ifCond .ne 4, 3) := by decide +kernel
theorem dX11_tidy_10 : decode cX11_tidy 10 = .ok (.return_, 1) := by decide +kernel
theorem dX11_trim_0 : decode cX11_trim 0 = .ok (.iload_n 1, 1) := by decide +kernel
theorem dX11_trim_1 : decode cX11_trim 1 = .ok (.ifCond .lt 14, 3) := by decide +kernel
theorem dX11_trim_4 : decode cX11_trim 4 = .ok (.iload_n 1, 1) := by decide +kernel
theorem dX11_trim_5 : decode cX11_trim 5 = .ok (.aload_n 0, 1) := by decide +kernel
theorem dX11_trim_6 : decode cX11_trim 6 = .ok (.getfield 55, 3) := by decide +kernel
theorem dX11_trim_9 : decode cX11_trim 9 = .ok (.invokevirtual 94, 3) := by decide +kernel
theorem dX11_trim_12 : decode cX11_trim 12 = .ok (.if_icmp .le 13, 3) := by decide +kernel
theorem dX11_trim_15 : decode cX11_trim 15 = .ok (.new 108, 3) := by decide +kernel
theorem dX11_trim_18 : decode cX11_trim 18 = .ok (.dup, 1) := by decide +kernel
theorem dX11_trim_19 : decode cX11_trim 19 = .ok (.ldc 110, 2) := by decide +kernel
theorem dX11_trim_21 : decode cX11_trim 21 = .ok (.invokespecial 112, 3) := by decide +kernel
theorem dX11_trim_24 : decode cX11_trim 24 = .ok (.athrow, 1) := by decide +kernel
theorem dX11_trim_25 : decode cX11_trim 25 = .ok (.aload_n 0, 1) := by decide +kernel
theorem dX11_trim_26 : decode cX11_trim 26 = .ok (.getfield 55, 3) := by decide +kernel
theorem dX11_trim_29 : decode cX11_trim 29 = .ok (.iload_n 1, 1) := by decide +kernel
theorem dX11_trim_30 : decode cX11_trim 30 = .ok (.invokevirtual 113, 3) := by decide +kernel
theorem dX11_trim_33 : decode cX11_trim 33 = .ok (.iload_n 1, 1) := by decide +kernel
theorem dX11_trim_34 : decode cX11_trim 34 = .ok (.ireturn, 1) := by decide +kernel
theorem dX11_write_0 : decode cX11_write 0 = .ok (.aload_n 0, 1) := by decide +kernel
theorem dX11_write_1 : decode cX11_write 1 = .ok (.iload_n 1, 1) := by decide +kernel
theorem dX11_write_2 : decode cX11_write 2 = .ok (.invokevirtual 194, 3) := by decide +kernel
theorem dX11_write_5 : decode cX11_write 5 = .ok (.ifCond .ne 13, 3) := by decide +kernel
theorem dX11_write_8 : decode cX11_write 8 = .ok (.new 169, 3) := by decide +kernel
theorem dX11_write_11 : decode cX11_write 11 = .ok (.dup, 1) := by decide +kernel
theorem dX11_write_12 : decode cX11_write 12 = .ok (.ldc 235, 2) := by decide +kernel
theorem dX11_write_14 : decode cX11_write 14 = .ok (.invokespecial 173, 3) := by decide +kernel
theorem dX11_write_17 : decode cX11_write 17 = .ok (.athrow, 1) := by decide +kernel
theorem dX12_afterSteps_0 : decode cX12_afterSteps 0 = .ok (.aload_n 0, 1) := by decide +kernel
theorem dX12_afterSteps_1 : decode cX12_afterSteps 1 = .ok (.iconst 0, 1) := by decide +kernel
theorem dX12_afterSteps_2 : decode cX12_afterSteps 2 = .ok (.putfield 203, 3) := by decide +kernel
theorem dX12_afterSteps_5 : decode cX12_afterSteps 5 = .ok (.aload_n 0, 1) := by decide +kernel
theorem dX12_afterSteps_6 : decode cX12_afterSteps 6 = .ok (.iload_n 1, 1) := by decide +kernel
theorem dX12_afterSteps_7 : decode cX12_afterSteps 7 = .ok (.invokevirtual 474, 3) := by decide +kernel
theorem dX12_afterSteps_10 : decode cX12_afterSteps 10 = .ok (.ifCond .ne 9, 3) := by decide +kernel
theorem dX12_afterSteps_13 : decode cX12_afterSteps 13 = .ok (.aload_n 0, 1) := by decide +kernel
theorem dX12_afterSteps_14 : decode cX12_afterSteps 14 = .ok (.iconst 1, 1) := by decide +kernel
theorem dX12_afterSteps_15 : decode cX12_afterSteps 15 = .ok (.invokevirtual 248, 3) := by decide +kernel
theorem dX12_afterSteps_18 : decode cX12_afterSteps 18 = .ok (.ireturn, 1) := by decide +kernel
theorem dX12_areEqual_0 : decode cX12_areEqual 0 = .ok (.aload_n 0, 1) := by decide +kernel
theorem dX12_areEqual_1 : decode cX12_areEqual 1 = .ok (.iconst 0, 1) := by decide +kernel
theorem dX12_areEqual_2 : decode cX12_areEqual 2 = .ok (.putfield 203, 3) := by decide +kernel
theorem dX12_areEqual_5 : decode cX12_areEqual 5 = .ok (.aload_n 0, 1) := by decide +kernel
theorem dX12_areEqual_6 : decode cX12_areEqual 6 = .ok (.iload_n 1, 1) := by decide +kernel
theorem dX12_areEqual_7 : decode cX12_areEqual 7 = .ok (.invokevirtual 474, 3) := by decide +kernel
theorem dX12_areEqual_10 : decode cX12_areEqual 10 = .ok (.ifCond .eq 11, 3) := by decide +kernel
theorem dX12_areEqual_21 : decode cX12_areEqual 21 = .ok (.aload_n 0, 1) := by decide +kernel
theorem dX12_areEqual_22 : decode cX12_areEqual 22 = .ok (.iconst 1, 1) := by decide +kernel
theorem dX12_areEqual_23 : decode cX12_areEqual 23 = .ok (.invokevirtual 248, 3) := by decide +kernel
theorem dX12_areEqual_26 : decode cX12_areEqual 26 = .ok (.ifCond .eq 7, 3) := by decide +kernel
theorem dX12_areEqual_33 : decode cX12_areEqual 33 = .ok (.iconst 0, 1) := by decide +kernel
theorem dX12_areEqual_34 : decode cX12_areEqual 34 = .ok (.ireturn, 1) := by decide +kernel
theorem dX12_argument_0 : decode cX12_argument 0 = .ok (.aload_n 0, 1) := by decide +kernel
theorem dX12_argument_1 : decode cX12_argument 1 = .ok (.iconst 0, 1) := by decide +kernel
theorem dX12_argument_2 : decode cX12_argument 2 = .ok (.putfield 203, 3) := by decide +kernel
theorem dX12_argument_5 : decode cX12_argument 5 = .ok (.aload_n 0, 1) := by decide +kernel
theorem dX12_argument_6 : decode cX12_argument 6 = .ok (.iload_n 1, 1) := by decide +kernel
theorem dX12_argument_7 : decode cX12_argument 7 = .ok (.invokevirtual 474, 3) := by decide +kernel
theorem dX12_argument_10 : decode cX12_argument 10 = .ok (.ifCond .eq 21, 3) := by decide +kernel
theorem dX12_argument_31 : decode cX12_argument 31 = .ok (.aload_n 0, 1) := by decide +kernel
theorem dX12_argument_32 : decode cX12_argument 32 = .ok (.iconst 1, 1) := by decide +kernel
theorem dX12_argument_33 : decode cX12_argument 33 = .ok (.invokevirtual 248, 3) := by decide +kernel
theorem dX12_argument_36 : decode cX12_argument 36 = .ok (.ireturn, 1) := by decide +kernel
theorem dX12_beginText_0 : decode cX12_beginText 0 = .ok (.aload_n 0, 1) := by decide +kernel
theorem dX12_beginText_1 : decode cX12_beginText 1 = .ok (.iconst 0, 1) := by decide +kernel
theorem dX12_beginText_2 : decode cX12_beginText 2 = .ok (.putfield 424, 3) := by decide +kernel
theorem dX12_beginText_5 : decode cX12_beginText 5 = .ok (.aload_n 0, 1) := by decide +kernel
theorem dX12_beginText_6 : decode cX12_beginText 6 = .ok (.iconst (-1), 1) := by decide +kernel
theorem dX12_beginText_7 : decode cX12_beginText 7 = .ok (.putfield 39, 3) := by decide +kernel
theorem dX12_beginText_10 : decode cX12_beginText 10 = .ok (.aload_n 0, 1) := by decide +kernel
theorem dX12_beginText_11 : decode cX12_beginText 11 = .ok (.iconst 0, 1) := by decide +kernel
theorem dX12_beginText_12 : decode cX12_beginText 12 = .ok (.putfield 427, 3) := by decide +kernel
theorem dX12_beginText_15 : decode cX12_beginText 15 = .ok (.return_, 1) := by decide +kernel
theorem dX12_compare_0 : decode cX12_compare 0 = .ok (.aload_n 0, 1) := by decide +kernel
theorem dX12_compare_1 : decode cX12_compare 1 = .ok (.iconst 0, 1) := by decide +kernel
theorem dX12_compare_2 : decode cX12_compare 2 = .ok (.putfield 203, 3) := by decide +kernel
theorem dX12_compare_5 : decode cX12_compare 5 = .ok (.aload_n 0, 1) := by decide +kernel
theorem dX12_compare_6 : decode cX12_compare 6 = .ok (.iload_n 1, 1) := by decide +kernel
theorem dX12_compare_7 : decode cX12_compare 7 = .ok (.invokevirtual 474, 3) := by decide +kernel
theorem dX12_compare_10 : decode cX12_compare 10 = .ok (.ifCond .eq 30, 3) := by decide +kernel
theorem dX12_compare_40 : decode cX12_compare 40 = .ok (.aload_n 0, 1) := by decide +kernel
theorem dX12_compare_41 : decode cX12_compare 41 = .ok (.iconst 1, 1) := by decide +kernel
theorem dX12_compare_42 : decode cX12_compare 42 = .ok (.invokevirtual 248, 3) := by decide +kernel
theorem dX12_compare_45 : decode cX12_compare 45 = .ok (.ireturn, 1) := by decide +kernel
theorem dX12_conflict_0 : decode cX12_conflict 0 = .ok (.aload_n 0, 1) := by decide +kernel
theorem dX12_conflict_1 : decode cX12_conflict 1 = .ok (.iconst 0, 1) := by decide +kernel
theorem dX12_conflict_2 : decode cX12_conflict 2 = .ok (.putfield 203, 3) := by decide +kernel
theorem dX12_conflict_5 : decode cX12_conflict 5 = .ok (.aload_n 0, 1) := by decide +kernel
theorem dX12_conflict_6 : decode cX12_conflict 6 = .ok (.invokevirtual 505, 3) := by decide +kernel
theorem dX12_conflict_9 : decode cX12_conflict 9 = .ok (.istore_n 1, 1) := by decide +kernel
theorem dX12_conflict_10 : decode cX12_conflict 10 = .ok (.iload_n 1, 1) := by decide +kernel
theorem dX12_conflict_11 : decode cX12_conflict 11 = .ok (.iconst (-1), 1) := by decide +kernel
theorem dX12_conflict_12 : decode cX12_conflict 12 = .ok (.if_icmp .ne 11, 3) := by decide +kernel
theorem dX12_conflict_15 : decode cX12_conflict 15 = .ok (.aload_n 0, 1) := by decide +kernel
theorem dX12_conflict_16 : decode cX12_conflict 16 = .ok (.iconst 1, 1) := by decide +kernel
theorem dX12_conflict_17 : decode cX12_conflict 17 = .ok (.invokevirtual 248, 3) := by decide +kernel
theorem dX12_conflict_20 : decode cX12_conflict 20 = .ok (.goto 4, 3) := by decide +kernel
theorem dX12_conflict_24 : decode cX12_conflict 24 = .ok (.ireturn, 1) := by decide +kernel
theorem dX12_countOfSize_0 : decode cX12_countOfSize 0 = .ok (.aload_n 0, 1) := by decide +kernel
theorem dX12_countOfSize_1 : decode cX12_countOfSize 1 = .ok (.iconst 0, 1) := by decide +kernel
theorem dX12_countOfSize_2 : decode cX12_countOfSize 2 = .ok (.putfield 203, 3) := by decide +kernel
theorem dX12_countOfSize_5 : decode cX12_countOfSize 5 = .ok (.aload_n 0, 1) := by decide +kernel
theorem dX12_countOfSize_6 : decode cX12_countOfSize 6 = .ok (.iload_n 1, 1) := by decide +kernel
theorem dX12_countOfSize_7 : decode cX12_countOfSize 7 = .ok (.invokevirtual 474, 3) := by decide +kernel
theorem dX12_countOfSize_10 : decode cX12_countOfSize 10 = .ok (.ifCond .ne 10, 3) := by decide +kernel
theorem dX12_countOfSize_13 : decode cX12_countOfSize 13 = .ok (.aload_n 0, 1) := by decide +kernel
theorem dX12_countOfSize_14 : decode cX12_countOfSize 14 = .ok (.iconst 1, 1) := by decide +kernel
theorem dX12_countOfSize_15 : decode cX12_countOfSize 15 = .ok (.invokevirtual 248, 3) := by decide +kernel
theorem dX12_countOfSize_18 : decode cX12_countOfSize 18 = .ok (.i2l, 1) := by decide +kernel
theorem dX12_countOfSize_19 : decode cX12_countOfSize 19 = .ok (.lreturn, 1) := by decide +kernel
theorem dX12_declare_0 : decode cX12_declare 0 = .ok (.aload_n 0, 1) := by decide +kernel
theorem dX12_declare_1 : decode cX12_declare 1 = .ok (.iconst 0, 1) := by decide +kernel
theorem dX12_declare_2 : decode cX12_declare 2 = .ok (.putfield 203, 3) := by decide +kernel
theorem dX12_declare_5 : decode cX12_declare 5 = .ok (.aload_n 0, 1) := by decide +kernel
theorem dX12_declare_6 : decode cX12_declare 6 = .ok (.getfield 430, 3) := by decide +kernel
theorem dX12_declare_9 : decode cX12_declare 9 = .ok (.istore_n 3, 1) := by decide +kernel
theorem dX12_declare_10 : decode cX12_declare 10 = .ok (.aload_n 0, 1) := by decide +kernel
theorem dX12_declare_11 : decode cX12_declare 11 = .ok (.iconst 0, 1) := by decide +kernel
theorem dX12_declare_12 : decode cX12_declare 12 = .ok (.putfield 430, 3) := by decide +kernel
theorem dX12_declare_15 : decode cX12_declare 15 = .ok (.iload_n 1, 1) := by decide +kernel
theorem dX12_declare_16 : decode cX12_declare 16 = .ok (.ifCond .lt 27, 3) := by decide +kernel
theorem dX12_declare_19 : decode cX12_declare 19 = .ok (.iload_n 1, 1) := by decide +kernel
theorem dX12_declare_20 : decode cX12_declare 20 = .ok (.iconst 3, 1) := by decide +kernel
theorem dX12_declare_21 : decode cX12_declare 21 = .ok (.if_icmp .gt 22, 3) := by decide +kernel
theorem dX12_declare_24 : decode cX12_declare 24 = .ok (.iload_n 2, 1) := by decide +kernel
theorem dX12_declare_25 : decode cX12_declare 25 = .ok (.iconst 1, 1) := by decide +kernel
theorem dX12_declare_26 : decode cX12_declare 26 = .ok (.if_icmp .lt 17, 3) := by decide +kernel
theorem dX12_declare_29 : decode cX12_declare 29 = .ok (.iload_n 2, 1) := by decide +kernel
theorem dX12_declare_30 : decode cX12_declare 30 = .ok (.bipush 9, 2) := by decide +kernel
theorem dX12_declare_32 : decode cX12_declare 32 = .ok (.if_icmp .gt 11, 3) := by decide +kernel
theorem dX12_declare_35 : decode cX12_declare 35 = .ok (.aload_n 0, 1) := by decide +kernel
theorem dX12_declare_36 : decode cX12_declare 36 = .ok (.iload_n 3, 1) := by decide +kernel
theorem dX12_declare_37 : decode cX12_declare 37 = .ok (.invokevirtual 461, 3) := by decide +kernel
theorem dX12_declare_40 : decode cX12_declare 40 = .ok (.ifCond .ne 9, 3) := by decide +kernel
theorem dX12_declare_43 : decode cX12_declare 43 = .ok (.aload_n 0, 1) := by decide +kernel
theorem dX12_declare_44 : decode cX12_declare 44 = .ok (.iconst 1, 1) := by decide +kernel
theorem dX12_declare_45 : decode cX12_declare 45 = .ok (.invokevirtual 248, 3) := by decide +kernel
theorem dX12_declare_48 : decode cX12_declare 48 = .ok (.ireturn, 1) := by decide +kernel
theorem dX12_declareVariable_0 : decode cX12_declareVariable 0 = .ok (.aload_n 0, 1) := by decide +kernel
theorem dX12_declareVariable_1 : decode cX12_declareVariable 1 = .ok (.iconst 0, 1) := by decide +kernel
theorem dX12_declareVariable_2 : decode cX12_declareVariable 2 = .ok (.putfield 203, 3) := by decide +kernel
theorem dX12_declareVariable_5 : decode cX12_declareVariable 5 = .ok (.aload_n 0, 1) := by decide +kernel
theorem dX12_declareVariable_6 : decode cX12_declareVariable 6 = .ok (.getfield 430, 3) := by decide +kernel
theorem dX12_declareVariable_9 : decode cX12_declareVariable 9 = .ok (.istore_n 1, 1) := by decide +kernel
theorem dX12_declareVariable_10 : decode cX12_declareVariable 10 = .ok (.aload_n 0, 1) := by decide +kernel
theorem dX12_declareVariable_11 : decode cX12_declareVariable 11 = .ok (.iconst 0, 1) := by decide +kernel
theorem dX12_declareVariable_12 : decode cX12_declareVariable 12 = .ok (.putfield 430, 3) := by decide +kernel
theorem dX12_declareVariable_15 : decode cX12_declareVariable 15 = .ok (.aload_n 0, 1) := by decide +kernel
theorem dX12_declareVariable_16 : decode cX12_declareVariable 16 = .ok (.iload_n 1, 1) := by decide +kernel
theorem dX12_declareVariable_17 : decode cX12_declareVariable 17 = .ok (.invokevirtual 461, 3) := by decide +kernel
theorem dX12_declareVariable_20 : decode cX12_declareVariable 20 = .ok (.ifCond .ne 9, 3) := by decide +kernel
theorem dX12_declareVariable_23 : decode cX12_declareVariable 23 = .ok (.aload_n 0, 1) := by decide +kernel
theorem dX12_declareVariable_24 : decode cX12_declareVariable 24 = .ok (.iconst 1, 1) := by decide +kernel
theorem dX12_declareVariable_25 : decode cX12_declareVariable 25 = .ok (.invokevirtual 248, 3) := by decide +kernel
theorem dX12_declareVariable_28 : decode cX12_declareVariable 28 = .ok (.ireturn, 1) := by decide +kernel
theorem dX12_dependsOn_0 : decode cX12_dependsOn 0 = .ok (.aload_n 0, 1) := by decide +kernel
theorem dX12_dependsOn_1 : decode cX12_dependsOn 1 = .ok (.iconst 0, 1) := by decide +kernel
theorem dX12_dependsOn_2 : decode cX12_dependsOn 2 = .ok (.putfield 203, 3) := by decide +kernel
theorem dX12_dependsOn_5 : decode cX12_dependsOn 5 = .ok (.aload_n 0, 1) := by decide +kernel
theorem dX12_dependsOn_6 : decode cX12_dependsOn 6 = .ok (.iload_n 1, 1) := by decide +kernel
theorem dX12_dependsOn_7 : decode cX12_dependsOn 7 = .ok (.invokevirtual 474, 3) := by decide +kernel
theorem dX12_dependsOn_10 : decode cX12_dependsOn 10 = .ok (.ifCond .eq 23, 3) := by decide +kernel
theorem dX12_dependsOn_33 : decode cX12_dependsOn 33 = .ok (.aload_n 0, 1) := by decide +kernel
theorem dX12_dependsOn_34 : decode cX12_dependsOn 34 = .ok (.iconst 1, 1) := by decide +kernel
theorem dX12_dependsOn_35 : decode cX12_dependsOn 35 = .ok (.invokevirtual 248, 3) := by decide +kernel
theorem dX12_dependsOn_38 : decode cX12_dependsOn 38 = .ok (.ifCond .eq 7, 3) := by decide +kernel
theorem dX12_dependsOn_45 : decode cX12_dependsOn 45 = .ok (.iconst 0, 1) := by decide +kernel
theorem dX12_dependsOn_46 : decode cX12_dependsOn 46 = .ok (.ireturn, 1) := by decide +kernel
theorem dX12_depth_0 : decode cX12_depth 0 = .ok (.aload_n 0, 1) := by decide +kernel
theorem dX12_depth_1 : decode cX12_depth 1 = .ok (.iconst 0, 1) := by decide +kernel
theorem dX12_depth_2 : decode cX12_depth 2 = .ok (.putfield 203, 3) := by decide +kernel
theorem dX12_depth_5 : decode cX12_depth 5 = .ok (.aload_n 0, 1) := by decide +kernel
theorem dX12_depth_6 : decode cX12_depth 6 = .ok (.iload_n 1, 1) := by decide +kernel
theorem dX12_depth_7 : decode cX12_depth 7 = .ok (.invokevirtual 474, 3) := by decide +kernel
theorem dX12_depth_10 : decode cX12_depth 10 = .ok (.ifCond .eq 17, 3) := by decide +kernel
theorem dX12_depth_27 : decode cX12_depth 27 = .ok (.aload_n 0, 1) := by decide +kernel
theorem dX12_depth_28 : decode cX12_depth 28 = .ok (.iconst 1, 1) := by decide +kernel
theorem dX12_depth_29 : decode cX12_depth 29 = .ok (.invokevirtual 248, 3) := by decide +kernel
theorem dX12_depth_32 : decode cX12_depth 32 = .ok (.ireturn, 1) := by decide +kernel
theorem dX12_digest_0 : decode cX12_digest 0 = .ok (.aload_n 0, 1) := by decide +kernel
theorem dX12_digest_1 : decode cX12_digest 1 = .ok (.iconst 0, 1) := by decide +kernel
theorem dX12_digest_2 : decode cX12_digest 2 = .ok (.putfield 203, 3) := by decide +kernel
theorem dX12_digest_5 : decode cX12_digest 5 = .ok (.ldc2_w 534, 3) := by decide +kernel
theorem dX12_digest_8 : decode cX12_digest 8 = .ok (.aload_n 0, 1) := by decide +kernel
theorem dX12_digest_9 : decode cX12_digest 9 = .ok (.getfield 392, 3) := by decide +kernel
theorem dX12_digest_12 : decode cX12_digest 12 = .ok (.i2l, 1) := by decide +kernel
theorem dX12_digest_13 : decode cX12_digest 13 = .ok (.ladd, 1) := by decide +kernel
theorem dX12_digest_14 : decode cX12_digest 14 = .ok (.lstore_n 1, 1) := by decide +kernel
theorem dX12_digest_15 : decode cX12_digest 15 = .ok (.iconst 0, 1) := by decide +kernel
theorem dX12_digest_16 : decode cX12_digest 16 = .ok (.istore_n 3, 1) := by decide +kernel
theorem dX12_digest_17 : decode cX12_digest 17 = .ok (.iload_n 3, 1) := by decide +kernel
theorem dX12_digest_18 : decode cX12_digest 18 = .ok (.aload_n 0, 1) := by decide +kernel
theorem dX12_digest_19 : decode cX12_digest 19 = .ok (.getfield 392, 3) := by decide +kernel
theorem dX12_digest_22 : decode cX12_digest 22 = .ok (.if_icmp .ge 23, 3) := by decide +kernel
theorem dX12_digest_45 : decode cX12_digest 45 = .ok (.lload_n 1, 1) := by decide +kernel
theorem dX12_digest_46 : decode cX12_digest 46 = .ok (.ldc2_w 536, 3) := by decide +kernel
theorem dX12_digest_49 : decode cX12_digest 49 = .ok (.lmul, 1) := by decide +kernel
theorem dX12_digest_50 : decode cX12_digest 50 = .ok (.aload_n 0, 1) := by decide +kernel
theorem dX12_digest_51 : decode cX12_digest 51 = .ok (.getfield 241, 3) := by decide +kernel
theorem dX12_digest_54 : decode cX12_digest 54 = .ok (.i2l, 1) := by decide +kernel
theorem dX12_digest_55 : decode cX12_digest 55 = .ok (.ladd, 1) := by decide +kernel
theorem dX12_digest_56 : decode cX12_digest 56 = .ok (.ldc2_w 536, 3) := by decide +kernel
theorem dX12_digest_59 : decode cX12_digest 59 = .ok (.lmul, 1) := by decide +kernel
theorem dX12_digest_60 : decode cX12_digest 60 = .ok (.aload_n 0, 1) := by decide +kernel
theorem dX12_digest_61 : decode cX12_digest 61 = .ok (.getfield 404, 3) := by decide +kernel
theorem dX12_digest_64 : decode cX12_digest 64 = .ok (.i2l, 1) := by decide +kernel
theorem dX12_digest_65 : decode cX12_digest 65 = .ok (.ladd, 1) := by decide +kernel
theorem dX12_digest_66 : decode cX12_digest 66 = .ok (.ldc2_w 536, 3) := by decide +kernel
theorem dX12_digest_69 : decode cX12_digest 69 = .ok (.lmul, 1) := by decide +kernel
theorem dX12_digest_70 : decode cX12_digest 70 = .ok (.aload_n 0, 1) := by decide +kernel
theorem dX12_digest_71 : decode cX12_digest 71 = .ok (.getfield 489, 3) := by decide +kernel
theorem dX12_digest_74 : decode cX12_digest 74 = .ok (.i2l, 1) := by decide +kernel
theorem dX12_digest_75 : decode cX12_digest 75 = .ok (.ladd, 1) := by decide +kernel
theorem dX12_digest_76 : decode cX12_digest 76 = .ok (.ldc2_w 536, 3) := by decide +kernel
theorem dX12_digest_79 : decode cX12_digest 79 = .ok (.lmul, 1) := by decide +kernel
theorem dX12_digest_80 : decode cX12_digest 80 = .ok (.aload_n 0, 1) := by decide +kernel
theorem dX12_digest_81 : decode cX12_digest 81 = .ok (.getfield 508, 3) := by decide +kernel
theorem dX12_digest_84 : decode cX12_digest 84 = .ok (.i2l, 1) := by decide +kernel
theorem dX12_digest_85 : decode cX12_digest 85 = .ok (.ladd, 1) := by decide +kernel
theorem dX12_digest_86 : decode cX12_digest 86 = .ok (.ldc2_w 536, 3) := by decide +kernel
theorem dX12_digest_89 : decode cX12_digest 89 = .ok (.lmul, 1) := by decide +kernel
theorem dX12_digest_90 : decode cX12_digest 90 = .ok (.aload_n 0, 1) := by decide +kernel
theorem dX12_digest_91 : decode cX12_digest 91 = .ok (.getfield 333, 3) := by decide +kernel
theorem dX12_digest_94 : decode cX12_digest 94 = .ok (.i2l, 1) := by decide +kernel
theorem dX12_digest_95 : decode cX12_digest 95 = .ok (.ladd, 1) := by decide +kernel
theorem dX12_digest_96 : decode cX12_digest 96 = .ok (.lstore_n 1, 1) := by decide +kernel
theorem dX12_digest_97 : decode cX12_digest 97 = .ok (.iconst 0, 1) := by decide +kernel
theorem dX12_digest_98 : decode cX12_digest 98 = .ok (.istore_n 3, 1) := by decide +kernel
theorem dX12_digest_99 : decode cX12_digest 99 = .ok (.iload_n 3, 1) := by decide +kernel
theorem dX12_digest_100 : decode cX12_digest 100 = .ok (.aload_n 0, 1) := by decide +kernel
theorem dX12_digest_101 : decode cX12_digest 101 = .ok (.getfield 333, 3) := by decide +kernel
theorem dX12_digest_104 : decode cX12_digest 104 = .ok (.if_icmp .ge 45, 3) := by decide +kernel
theorem dX12_digest_149 : decode cX12_digest 149 = .ok (.lload_n 1, 1) := by decide +kernel
theorem dX12_digest_150 : decode cX12_digest 150 = .ok (.lreturn, 1) := by decide +kernel
theorem dX12_equate_0 : decode cX12_equate 0 = .ok (.aload_n 0, 1) := by decide +kernel
theorem dX12_equate_1 : decode cX12_equate 1 = .ok (.iconst 0, 1) := by decide +kernel
theorem dX12_equate_2 : decode cX12_equate 2 = .ok (.putfield 203, 3) := by decide +kernel
theorem dX12_equate_5 : decode cX12_equate 5 = .ok (.aload_n 0, 1) := by decide +kernel
theorem dX12_equate_6 : decode cX12_equate 6 = .ok (.iload_n 1, 1) := by decide +kernel
theorem dX12_equate_7 : decode cX12_equate 7 = .ok (.invokevirtual 474, 3) := by decide +kernel
theorem dX12_equate_10 : decode cX12_equate 10 = .ok (.ifCond .eq 11, 3) := by decide +kernel
theorem dX12_equate_21 : decode cX12_equate 21 = .ok (.aload_n 0, 1) := by decide +kernel
theorem dX12_equate_22 : decode cX12_equate 22 = .ok (.iconst 1, 1) := by decide +kernel
theorem dX12_equate_23 : decode cX12_equate 23 = .ok (.invokevirtual 248, 3) := by decide +kernel
theorem dX12_equate_26 : decode cX12_equate 26 = .ok (.ireturn, 1) := by decide +kernel
theorem dX12_equationCount_0 : decode cX12_equationCount 0 = .ok (.aload_n 0, 1) := by decide +kernel
theorem dX12_equationCount_1 : decode cX12_equationCount 1 = .ok (.iconst 0, 1) := by decide +kernel
theorem dX12_equationCount_2 : decode cX12_equationCount 2 = .ok (.putfield 203, 3) := by decide +kernel
theorem dX12_equationCount_5 : decode cX12_equationCount 5 = .ok (.aload_n 0, 1) := by decide +kernel
theorem dX12_equationCount_6 : decode cX12_equationCount 6 = .ok (.getfield 404, 3) := by decide +kernel
theorem dX12_equationCount_9 : decode cX12_equationCount 9 = .ok (.ireturn, 1) := by decide +kernel
theorem dX12_error_0 : decode cX12_error 0 = .ok (.aload_n 0, 1) := by decide +kernel
theorem dX12_error_1 : decode cX12_error 1 = .ok (.iload_n 1, 1) := by decide +kernel
theorem dX12_error_2 : decode cX12_error 2 = .ok (.putfield 424, 3) := by decide +kernel
theorem dX12_error_5 : decode cX12_error 5 = .ok (.aload_n 0, 1) := by decide +kernel
theorem dX12_error_6 : decode cX12_error 6 = .ok (.iload_n 2, 1) := by decide +kernel
theorem dX12_error_7 : decode cX12_error 7 = .ok (.putfield 39, 3) := by decide +kernel
theorem dX12_error_10 : decode cX12_error 10 = .ok (.iconst 0, 1) := by decide +kernel
theorem dX12_error_11 : decode cX12_error 11 = .ok (.ireturn, 1) := by decide +kernel
theorem dX12_errorKind_0 : decode cX12_errorKind 0 = .ok (.aload_n 0, 1) := by decide +kernel
theorem dX12_errorKind_1 : decode cX12_errorKind 1 = .ok (.iconst 0, 1) := by decide +kernel
theorem dX12_errorKind_2 : decode cX12_errorKind 2 = .ok (.putfield 203, 3) := by decide +kernel
theorem dX12_errorKind_5 : decode cX12_errorKind 5 = .ok (.aload_n 0, 1) := by decide +kernel
theorem dX12_errorKind_6 : decode cX12_errorKind 6 = .ok (.getfield 424, 3) := by decide +kernel
theorem dX12_errorKind_9 : decode cX12_errorKind 9 = .ok (.ireturn, 1) := by decide +kernel
theorem dX12_errorPosition_0 : decode cX12_errorPosition 0 = .ok (.aload_n 0, 1) := by decide +kernel
theorem dX12_errorPosition_1 : decode cX12_errorPosition 1 = .ok (.iconst 0, 1) := by decide +kernel
theorem dX12_errorPosition_2 : decode cX12_errorPosition 2 = .ok (.putfield 203, 3) := by decide +kernel
theorem dX12_errorPosition_5 : decode cX12_errorPosition 5 = .ok (.aload_n 0, 1) := by decide +kernel
theorem dX12_errorPosition_6 : decode cX12_errorPosition 6 = .ok (.getfield 39, 3) := by decide +kernel
theorem dX12_errorPosition_9 : decode cX12_errorPosition 9 = .ok (.ireturn, 1) := by decide +kernel
theorem dX12_fail_0 : decode cX12_fail 0 = .ok (.aload_n 0, 1) := by decide +kernel
theorem dX12_fail_1 : decode cX12_fail 1 = .ok (.iload_n 1, 1) := by decide +kernel
theorem dX12_fail_2 : decode cX12_fail 2 = .ok (.putfield 203, 3) := by decide +kernel
theorem dX12_fail_5 : decode cX12_fail 5 = .ok (.iconst 0, 1) := by decide +kernel
theorem dX12_fail_6 : decode cX12_fail 6 = .ok (.ireturn, 1) := by decide +kernel
theorem dX12_feed_0 : decode cX12_feed 0 = .ok (.aload_n 0, 1) := by decide +kernel
theorem dX12_feed_1 : decode cX12_feed 1 = .ok (.iconst 0, 1) := by decide +kernel
theorem dX12_feed_2 : decode cX12_feed 2 = .ok (.putfield 203, 3) := by decide +kernel
theorem dX12_feed_5 : decode cX12_feed 5 = .ok (.aload_n 0, 1) := by decide +kernel
theorem dX12_feed_6 : decode cX12_feed 6 = .ok (.getfield 430, 3) := by decide +kernel
theorem dX12_feed_9 : decode cX12_feed 9 = .ok (.bipush 20, 2) := by decide +kernel
theorem dX12_feed_11 : decode cX12_feed 11 = .ok (.iadd, 1) := by decide +kernel
theorem dX12_feed_12 : decode cX12_feed 12 = .ok (.sipush 400, 3) := by decide +kernel
theorem dX12_feed_15 : decode cX12_feed 15 = .ok (.if_icmp .le 9, 3) := by decide +kernel
theorem dX12_feed_24 : decode cX12_feed 24 = .ok (.aload_n 0, 1) := by decide +kernel
theorem dX12_feed_25 : decode cX12_feed 25 = .ok (.iload_n 1, 1) := by decide +kernel
theorem dX12_feed_26 : decode cX12_feed 26 = .ok (.invokevirtual 458, 3) := by decide +kernel
theorem dX12_feed_29 : decode cX12_feed 29 = .ok (.aload_n 0, 1) := by decide +kernel
theorem dX12_feed_30 : decode cX12_feed 30 = .ok (.iload_n 2, 1) := by decide +kernel
theorem dX12_feed_31 : decode cX12_feed 31 = .ok (.invokevirtual 458, 3) := by decide +kernel
theorem dX12_feed_34 : decode cX12_feed 34 = .ok (.aload_n 0, 1) := by decide +kernel
theorem dX12_feed_35 : decode cX12_feed 35 = .ok (.iload_n 3, 1) := by decide +kernel
theorem dX12_feed_36 : decode cX12_feed 36 = .ok (.invokevirtual 458, 3) := by decide +kernel
theorem dX12_feed_39 : decode cX12_feed 39 = .ok (.aload_n 0, 1) := by decide +kernel
theorem dX12_feed_40 : decode cX12_feed 40 = .ok (.iload 4, 2) := by decide +kernel
theorem dX12_feed_42 : decode cX12_feed 42 = .ok (.invokevirtual 458, 3) := by decide +kernel
theorem dX12_feed_45 : decode cX12_feed 45 = .ok (.aload_n 0, 1) := by decide +kernel
theorem dX12_feed_46 : decode cX12_feed 46 = .ok (.iload 5, 2) := by decide +kernel
theorem dX12_feed_48 : decode cX12_feed 48 = .ok (.invokevirtual 458, 3) := by decide +kernel
theorem dX12_feed_51 : decode cX12_feed 51 = .ok (.aload_n 0, 1) := by decide +kernel
theorem dX12_feed_52 : decode cX12_feed 52 = .ok (.getfield 430, 3) := by decide +kernel
theorem dX12_feed_55 : decode cX12_feed 55 = .ok (.ireturn, 1) := by decide +kernel
theorem dX12_firstConflict_0 : decode cX12_firstConflict 0 = .ok (.iconst 0, 1) := by decide +kernel
theorem dX12_firstConflict_1 : decode cX12_firstConflict 1 = .ok (.istore_n 1, 1) := by decide +kernel
theorem dX12_firstConflict_2 : decode cX12_firstConflict 2 = .ok (.iload_n 1, 1) := by decide +kernel
theorem dX12_firstConflict_3 : decode cX12_firstConflict 3 = .ok (.aload_n 0, 1) := by decide +kernel
theorem dX12_firstConflict_4 : decode cX12_firstConflict 4 = .ok (.getfield 489, 3) := by decide +kernel
theorem dX12_firstConflict_7 : decode cX12_firstConflict 7 = .ok (.if_icmp .ge 40, 3) := by decide +kernel
theorem dX12_firstConflict_47 : decode cX12_firstConflict 47 = .ok (.iconst (-1), 1) := by decide +kernel
theorem dX12_firstConflict_48 : decode cX12_firstConflict 48 = .ok (.ireturn, 1) := by decide +kernel
theorem dX12_four_0 : decode cX12_four 0 = .ok (.bipush 24, 2) := by decide +kernel
theorem dX12_four_2 : decode cX12_four 2 = .ok (.istore_n 2, 1) := by decide +kernel
theorem dX12_four_3 : decode cX12_four 3 = .ok (.iload_n 2, 1) := by decide +kernel
theorem dX12_four_4 : decode cX12_four 4 = .ok (.ifCond .lt 32, 3) := by decide +kernel
theorem dX12_four_7 : decode cX12_four 7 = .ok (.aload_n 0, 1) := by decide +kernel
theorem dX12_four_8 : decode cX12_four 8 = .ok (.getfield 33, 3) := by decide +kernel
theorem dX12_four_11 : decode cX12_four 11 = .ok (.aload_n 0, 1) := by decide +kernel
theorem dX12_four_12 : decode cX12_four 12 = .ok (.getfield 430, 3) := by decide +kernel
theorem dX12_four_15 : decode cX12_four 15 = .ok (.iload_n 1, 1) := by decide +kernel
theorem dX12_four_16 : decode cX12_four 16 = .ok (.iload_n 2, 1) := by decide +kernel
theorem dX12_four_17 : decode cX12_four 17 = .ok (.ishr, 1) := by decide +kernel
theorem dX12_four_18 : decode cX12_four 18 = .ok (.i2b, 1) := by decide +kernel
theorem dX12_four_19 : decode cX12_four 19 = .ok (.bastore, 1) := by decide +kernel
theorem dX12_four_20 : decode cX12_four 20 = .ok (.aload_n 0, 1) := by decide +kernel
theorem dX12_four_21 : decode cX12_four 21 = .ok (.dup, 1) := by decide +kernel
theorem dX12_four_22 : decode cX12_four 22 = .ok (.getfield 430, 3) := by decide +kernel
theorem dX12_four_25 : decode cX12_four 25 = .ok (.iconst 1, 1) := by decide +kernel
theorem dX12_four_26 : decode cX12_four 26 = .ok (.iadd, 1) := by decide +kernel
theorem dX12_four_27 : decode cX12_four 27 = .ok (.putfield 430, 3) := by decide +kernel
theorem dX12_four_30 : decode cX12_four 30 = .ok (.iinc 2 (-8), 3) := by decide +kernel
theorem dX12_four_33 : decode cX12_four 33 = .ok (.goto (-30), 3) := by decide +kernel
theorem dX12_four_36 : decode cX12_four 36 = .ok (.return_, 1) := by decide +kernel
theorem dX12_init_0 : decode cX12_init 0 = .ok (.aload_n 0, 1) := by decide +kernel
theorem dX12_init_1 : decode cX12_init 1 = .ok (.invokespecial 1, 3) := by decide +kernel
theorem dX12_init_4 : decode cX12_init 4 = .ok (.aload_n 0, 1) := by decide +kernel
theorem dX12_init_5 : decode cX12_init 5 = .ok (.sipush 192, 3) := by decide +kernel
theorem dX12_init_8 : decode cX12_init 8 = .ok (.newarray .byte, 2) := by decide +kernel
theorem dX12_init_10 : decode cX12_init 10 = .ok (.putfield 9, 3) := by decide +kernel
theorem dX12_init_13 : decode cX12_init 13 = .ok (.aload_n 0, 1) := by decide +kernel
theorem dX12_init_14 : decode cX12_init 14 = .ok (.bipush 24, 2) := by decide +kernel
theorem dX12_init_16 : decode cX12_init 16 = .ok (.newarray .int, 2) := by decide +kernel
theorem dX12_init_18 : decode cX12_init 18 = .ok (.putfield 13, 3) := by decide +kernel
theorem dX12_init_21 : decode cX12_init 21 = .ok (.aload_n 0, 1) := by decide +kernel
theorem dX12_init_22 : decode cX12_init 22 = .ok (.bipush 24, 2) := by decide +kernel
theorem dX12_init_24 : decode cX12_init 24 = .ok (.newarray .int, 2) := by decide +kernel
theorem dX12_init_26 : decode cX12_init 26 = .ok (.putfield 17, 3) := by decide +kernel
theorem dX12_init_29 : decode cX12_init 29 = .ok (.aload_n 0, 1) := by decide +kernel
theorem dX12_init_30 : decode cX12_init 30 = .ok (.bipush 24, 2) := by decide +kernel
theorem dX12_init_32 : decode cX12_init 32 = .ok (.newarray .int, 2) := by decide +kernel
theorem dX12_init_34 : decode cX12_init 34 = .ok (.putfield 20, 3) := by decide +kernel
theorem dX12_init_37 : decode cX12_init 37 = .ok (.aload_n 0, 1) := by decide +kernel
theorem dX12_init_38 : decode cX12_init 38 = .ok (.bipush 24, 2) := by decide +kernel
theorem dX12_init_40 : decode cX12_init 40 = .ok (.newarray .int, 2) := by decide +kernel
theorem dX12_init_42 : decode cX12_init 42 = .ok (.putfield 23, 3) := by decide +kernel
theorem dX12_init_45 : decode cX12_init 45 = .ok (.aload_n 0, 1) := by decide +kernel
theorem dX12_init_46 : decode cX12_init 46 = .ok (.bipush 24, 2) := by decide +kernel
theorem dX12_init_48 : decode cX12_init 48 = .ok (.newarray .boolean, 2) := by decide +kernel
theorem dX12_init_50 : decode cX12_init 50 = .ok (.putfield 26, 3) := by decide +kernel
theorem dX12_init_53 : decode cX12_init 53 = .ok (.aload_n 0, 1) := by decide +kernel
theorem dX12_init_54 : decode cX12_init 54 = .ok (.bipush 24, 2) := by decide +kernel
theorem dX12_init_56 : decode cX12_init 56 = .ok (.newarray .boolean, 2) := by decide +kernel
theorem dX12_init_58 : decode cX12_init 58 = .ok (.putfield 30, 3) := by decide +kernel
theorem dX12_init_61 : decode cX12_init 61 = .ok (.aload_n 0, 1) := by decide +kernel
theorem dX12_init_62 : decode cX12_init 62 = .ok (.sipush 400, 3) := by decide +kernel
theorem dX12_init_65 : decode cX12_init 65 = .ok (.newarray .byte, 2) := by decide +kernel
theorem dX12_init_67 : decode cX12_init 67 = .ok (.putfield 33, 3) := by decide +kernel
theorem dX12_init_70 : decode cX12_init 70 = .ok (.aload_n 0, 1) := by decide +kernel
theorem dX12_init_71 : decode cX12_init 71 = .ok (.sipush 2000, 3) := by decide +kernel
theorem dX12_init_74 : decode cX12_init 74 = .ok (.newarray .byte, 2) := by decide +kernel
theorem dX12_init_76 : decode cX12_init 76 = .ok (.putfield 36, 3) := by decide +kernel
theorem dX12_init_79 : decode cX12_init 79 = .ok (.aload_n 0, 1) := by decide +kernel
theorem dX12_init_80 : decode cX12_init 80 = .ok (.iconst (-1), 1) := by decide +kernel
theorem dX12_init_81 : decode cX12_init 81 = .ok (.putfield 39, 3) := by decide +kernel
theorem dX12_init_84 : decode cX12_init 84 = .ok (.aload_n 0, 1) := by decide +kernel
theorem dX12_init_85 : decode cX12_init 85 = .ok (.sipush 256, 3) := by decide +kernel
theorem dX12_init_88 : decode cX12_init 88 = .ok (.putfield 43, 3) := by decide +kernel
theorem dX12_init_91 : decode cX12_init 91 = .ok (.aload_n 0, 1) := by decide +kernel
theorem dX12_init_92 : decode cX12_init 92 = .ok (.aload_n 0, 1) := by decide +kernel
theorem dX12_init_93 : decode cX12_init 93 = .ok (.getfield 43, 3) := by decide +kernel
theorem dX12_init_96 : decode cX12_init 96 = .ok (.newarray .int, 2) := by decide +kernel
theorem dX12_init_98 : decode cX12_init 98 = .ok (.putfield 46, 3) := by decide +kernel
theorem dX12_init_101 : decode cX12_init 101 = .ok (.aload_n 0, 1) := by decide +kernel
theorem dX12_init_102 : decode cX12_init 102 = .ok (.iconst 3, 1) := by decide +kernel
theorem dX12_init_103 : decode cX12_init 103 = .ok (.aload_n 0, 1) := by decide +kernel
theorem dX12_init_104 : decode cX12_init 104 = .ok (.getfield 43, 3) := by decide +kernel
theorem dX12_init_107 : decode cX12_init 107 = .ok (.imul, 1) := by decide +kernel
theorem dX12_init_108 : decode cX12_init 108 = .ok (.newarray .int, 2) := by decide +kernel
theorem dX12_init_110 : decode cX12_init 110 = .ok (.putfield 49, 3) := by decide +kernel
theorem dX12_init_113 : decode cX12_init 113 = .ok (.aload_n 0, 1) := by decide +kernel
theorem dX12_init_114 : decode cX12_init 114 = .ok (.aload_n 0, 1) := by decide +kernel
theorem dX12_init_115 : decode cX12_init 115 = .ok (.getfield 43, 3) := by decide +kernel
theorem dX12_init_118 : decode cX12_init 118 = .ok (.newarray .int, 2) := by decide +kernel
theorem dX12_init_120 : decode cX12_init 120 = .ok (.putfield 52, 3) := by decide +kernel
theorem dX12_init_123 : decode cX12_init 123 = .ok (.aload_n 0, 1) := by decide +kernel
theorem dX12_init_124 : decode cX12_init 124 = .ok (.aload_n 0, 1) := by decide +kernel
theorem dX12_init_125 : decode cX12_init 125 = .ok (.getfield 43, 3) := by decide +kernel
theorem dX12_init_128 : decode cX12_init 128 = .ok (.newarray .int, 2) := by decide +kernel
theorem dX12_init_130 : decode cX12_init 130 = .ok (.putfield 55, 3) := by decide +kernel
theorem dX12_init_133 : decode cX12_init 133 = .ok (.aload_n 0, 1) := by decide +kernel
theorem dX12_init_134 : decode cX12_init 134 = .ok (.aload_n 0, 1) := by decide +kernel
theorem dX12_init_135 : decode cX12_init 135 = .ok (.getfield 43, 3) := by decide +kernel
theorem dX12_init_138 : decode cX12_init 138 = .ok (.newarray .long, 2) := by decide +kernel
theorem dX12_init_140 : decode cX12_init 140 = .ok (.putfield 58, 3) := by decide +kernel
theorem dX12_init_143 : decode cX12_init 143 = .ok (.aload_n 0, 1) := by decide +kernel
theorem dX12_init_144 : decode cX12_init 144 = .ok (.aload_n 0, 1) := by decide +kernel
theorem dX12_init_145 : decode cX12_init 145 = .ok (.getfield 43, 3) := by decide +kernel
theorem dX12_init_148 : decode cX12_init 148 = .ok (.newarray .boolean, 2) := by decide +kernel
theorem dX12_init_150 : decode cX12_init 150 = .ok (.putfield 62, 3) := by decide +kernel
theorem dX12_init_153 : decode cX12_init 153 = .ok (.aload_n 0, 1) := by decide +kernel
theorem dX12_init_154 : decode cX12_init 154 = .ok (.aload_n 0, 1) := by decide +kernel
theorem dX12_init_155 : decode cX12_init 155 = .ok (.getfield 43, 3) := by decide +kernel
theorem dX12_init_158 : decode cX12_init 158 = .ok (.newarray .int, 2) := by decide +kernel
theorem dX12_init_160 : decode cX12_init 160 = .ok (.putfield 65, 3) := by decide +kernel
theorem dX12_init_163 : decode cX12_init 163 = .ok (.aload_n 0, 1) := by decide +kernel
theorem dX12_init_164 : decode cX12_init 164 = .ok (.sipush 256, 3) := by decide +kernel
theorem dX12_init_167 : decode cX12_init 167 = .ok (.newarray .int, 2) := by decide +kernel
theorem dX12_init_169 : decode cX12_init 169 = .ok (.putfield 68, 3) := by decide +kernel
theorem dX12_init_172 : decode cX12_init 172 = .ok (.aload_n 0, 1) := by decide +kernel
theorem dX12_init_173 : decode cX12_init 173 = .ok (.sipush 1024, 3) := by decide +kernel
theorem dX12_init_176 : decode cX12_init 176 = .ok (.newarray .int, 2) := by decide +kernel
theorem dX12_init_178 : decode cX12_init 178 = .ok (.putfield 71, 3) := by decide +kernel
theorem dX12_init_181 : decode cX12_init 181 = .ok (.aload_n 0, 1) := by decide +kernel
theorem dX12_init_182 : decode cX12_init 182 = .ok (.aload_n 0, 1) := by decide +kernel
theorem dX12_init_183 : decode cX12_init 183 = .ok (.getfield 43, 3) := by decide +kernel
theorem dX12_init_186 : decode cX12_init 186 = .ok (.newarray .int, 2) := by decide +kernel
theorem dX12_init_188 : decode cX12_init 188 = .ok (.putfield 74, 3) := by decide +kernel
theorem dX12_init_191 : decode cX12_init 191 = .ok (.aload_n 0, 1) := by decide +kernel
theorem dX12_init_192 : decode cX12_init 192 = .ok (.aload_n 0, 1) := by decide +kernel
theorem dX12_init_193 : decode cX12_init 193 = .ok (.getfield 43, 3) := by decide +kernel
theorem dX12_init_196 : decode cX12_init 196 = .ok (.newarray .int, 2) := by decide +kernel
theorem dX12_init_198 : decode cX12_init 198 = .ok (.putfield 77, 3) := by decide +kernel
theorem dX12_init_201 : decode cX12_init 201 = .ok (.aload_n 0, 1) := by decide +kernel
theorem dX12_init_202 : decode cX12_init 202 = .ok (.aload_n 0, 1) := by decide +kernel
theorem dX12_init_203 : decode cX12_init 203 = .ok (.getfield 43, 3) := by decide +kernel
theorem dX12_init_206 : decode cX12_init 206 = .ok (.newarray .int, 2) := by decide +kernel
theorem dX12_init_208 : decode cX12_init 208 = .ok (.putfield 80, 3) := by decide +kernel
theorem dX12_init_211 : decode cX12_init 211 = .ok (.aload_n 0, 1) := by decide +kernel
theorem dX12_init_212 : decode cX12_init 212 = .ok (.bipush 64, 2) := by decide +kernel
theorem dX12_init_214 : decode cX12_init 214 = .ok (.newarray .int, 2) := by decide +kernel
theorem dX12_init_216 : decode cX12_init 216 = .ok (.putfield 83, 3) := by decide +kernel
theorem dX12_init_219 : decode cX12_init 219 = .ok (.aload_n 0, 1) := by decide +kernel
theorem dX12_init_220 : decode cX12_init 220 = .ok (.bipush 64, 2) := by decide +kernel
theorem dX12_init_222 : decode cX12_init 222 = .ok (.newarray .int, 2) := by decide +kernel
theorem dX12_init_224 : decode cX12_init 224 = .ok (.putfield 86, 3) := by decide +kernel
theorem dX12_init_227 : decode cX12_init 227 = .ok (.aload_n 0, 1) := by decide +kernel
theorem dX12_init_228 : decode cX12_init 228 = .ok (.bipush 64, 2) := by decide +kernel
theorem dX12_init_230 : decode cX12_init 230 = .ok (.newarray .int, 2) := by decide +kernel
theorem dX12_init_232 : decode cX12_init 232 = .ok (.putfield 89, 3) := by decide +kernel
theorem dX12_init_235 : decode cX12_init 235 = .ok (.aload_n 0, 1) := by decide +kernel
theorem dX12_init_236 : decode cX12_init 236 = .ok (.bipush 64, 2) := by decide +kernel
theorem dX12_init_238 : decode cX12_init 238 = .ok (.newarray .int, 2) := by decide +kernel
theorem dX12_init_240 : decode cX12_init 240 = .ok (.putfield 92, 3) := by decide +kernel
theorem dX12_init_243 : decode cX12_init 243 = .ok (.aload_n 0, 1) := by decide +kernel
theorem dX12_init_244 : decode cX12_init 244 = .ok (.bipush 64, 2) := by decide +kernel
theorem dX12_init_246 : decode cX12_init 246 = .ok (.newarray .boolean, 2) := by decide +kernel
theorem dX12_init_248 : decode cX12_init 248 = .ok (.putfield 95, 3) := by decide +kernel
theorem dX12_init_251 : decode cX12_init 251 = .ok (.aload_n 0, 1) := by decide +kernel
theorem dX12_init_252 : decode cX12_init 252 = .ok (.bipush 60, 2) := by decide +kernel
theorem dX12_init_254 : decode cX12_init 254 = .ok (.newarray .int, 2) := by decide +kernel
theorem dX12_init_256 : decode cX12_init 256 = .ok (.putfield 98, 3) := by decide +kernel
theorem dX12_init_259 : decode cX12_init 259 = .ok (.aload_n 0, 1) := by decide +kernel
theorem dX12_init_260 : decode cX12_init 260 = .ok (.bipush 60, 2) := by decide +kernel
theorem dX12_init_262 : decode cX12_init 262 = .ok (.newarray .int, 2) := by decide +kernel
theorem dX12_init_264 : decode cX12_init 264 = .ok (.putfield 101, 3) := by decide +kernel
theorem dX12_init_267 : decode cX12_init 267 = .ok (.aload_n 0, 1) := by decide +kernel
theorem dX12_init_268 : decode cX12_init 268 = .ok (.bipush 16, 2) := by decide +kernel
theorem dX12_init_270 : decode cX12_init 270 = .ok (.newarray .int, 2) := by decide +kernel
theorem dX12_init_272 : decode cX12_init 272 = .ok (.putfield 104, 3) := by decide +kernel
theorem dX12_init_275 : decode cX12_init 275 = .ok (.aload_n 0, 1) := by decide +kernel
theorem dX12_init_276 : decode cX12_init 276 = .ok (.sipush 256, 3) := by decide +kernel
theorem dX12_init_279 : decode cX12_init 279 = .ok (.newarray .int, 2) := by decide +kernel
theorem dX12_init_281 : decode cX12_init 281 = .ok (.putfield 107, 3) := by decide +kernel
theorem dX12_init_284 : decode cX12_init 284 = .ok (.aload_n 0, 1) := by decide +kernel
theorem dX12_init_285 : decode cX12_init 285 = .ok (.sipush 256, 3) := by decide +kernel
theorem dX12_init_288 : decode cX12_init 288 = .ok (.newarray .int, 2) := by decide +kernel
theorem dX12_init_290 : decode cX12_init 290 = .ok (.putfield 110, 3) := by decide +kernel
theorem dX12_init_293 : decode cX12_init 293 = .ok (.aload_n 0, 1) := by decide +kernel
theorem dX12_init_294 : decode cX12_init 294 = .ok (.sipush 256, 3) := by decide +kernel
theorem dX12_init_297 : decode cX12_init 297 = .ok (.newarray .int, 2) := by decide +kernel
theorem dX12_init_299 : decode cX12_init 299 = .ok (.putfield 113, 3) := by decide +kernel
theorem dX12_init_302 : decode cX12_init 302 = .ok (.aload_n 0, 1) := by decide +kernel
theorem dX12_init_303 : decode cX12_init 303 = .ok (.aload_n 0, 1) := by decide +kernel
theorem dX12_init_304 : decode cX12_init 304 = .ok (.getfield 43, 3) := by decide +kernel
theorem dX12_init_307 : decode cX12_init 307 = .ok (.newarray .int, 2) := by decide +kernel
theorem dX12_init_309 : decode cX12_init 309 = .ok (.putfield 116, 3) := by decide +kernel
theorem dX12_init_312 : decode cX12_init 312 = .ok (.aload_n 0, 1) := by decide +kernel
theorem dX12_init_313 : decode cX12_init 313 = .ok (.aload_n 0, 1) := by decide +kernel
theorem dX12_init_314 : decode cX12_init 314 = .ok (.getfield 43, 3) := by decide +kernel
theorem dX12_init_317 : decode cX12_init 317 = .ok (.newarray .int, 2) := by decide +kernel
theorem dX12_init_319 : decode cX12_init 319 = .ok (.putfield 119, 3) := by decide +kernel
theorem dX12_init_322 : decode cX12_init 322 = .ok (.aload_n 0, 1) := by decide +kernel
theorem dX12_init_323 : decode cX12_init 323 = .ok (.iconst 1, 1) := by decide +kernel
theorem dX12_init_324 : decode cX12_init 324 = .ok (.putfield 122, 3) := by decide +kernel
theorem dX12_init_327 : decode cX12_init 327 = .ok (.aload_n 0, 1) := by decide +kernel
theorem dX12_init_328 : decode cX12_init 328 = .ok (.bipush 64, 2) := by decide +kernel
theorem dX12_init_330 : decode cX12_init 330 = .ok (.newarray .int, 2) := by decide +kernel
theorem dX12_init_332 : decode cX12_init 332 = .ok (.putfield 125, 3) := by decide +kernel
theorem dX12_init_335 : decode cX12_init 335 = .ok (.aload_n 0, 1) := by decide +kernel
theorem dX12_init_336 : decode cX12_init 336 = .ok (.bipush 64, 2) := by decide +kernel
theorem dX12_init_338 : decode cX12_init 338 = .ok (.newarray .int, 2) := by decide +kernel
theorem dX12_init_340 : decode cX12_init 340 = .ok (.putfield 128, 3) := by decide +kernel
theorem dX12_init_343 : decode cX12_init 343 = .ok (.aload_n 0, 1) := by decide +kernel
theorem dX12_init_344 : decode cX12_init 344 = .ok (.aload_n 0, 1) := by decide +kernel
theorem dX12_init_345 : decode cX12_init 345 = .ok (.getfield 43, 3) := by decide +kernel
theorem dX12_init_348 : decode cX12_init 348 = .ok (.newarray .int, 2) := by decide +kernel
theorem dX12_init_350 : decode cX12_init 350 = .ok (.putfield 131, 3) := by decide +kernel
theorem dX12_init_353 : decode cX12_init 353 = .ok (.aload_n 0, 1) := by decide +kernel
theorem dX12_init_354 : decode cX12_init 354 = .ok (.aload_n 0, 1) := by decide +kernel
theorem dX12_init_355 : decode cX12_init 355 = .ok (.getfield 43, 3) := by decide +kernel
theorem dX12_init_358 : decode cX12_init 358 = .ok (.newarray .int, 2) := by decide +kernel
theorem dX12_init_360 : decode cX12_init 360 = .ok (.putfield 134, 3) := by decide +kernel
theorem dX12_init_363 : decode cX12_init 363 = .ok (.aload_n 0, 1) := by decide +kernel
theorem dX12_init_364 : decode cX12_init 364 = .ok (.aload_n 0, 1) := by decide +kernel
theorem dX12_init_365 : decode cX12_init 365 = .ok (.getfield 43, 3) := by decide +kernel
theorem dX12_init_368 : decode cX12_init 368 = .ok (.newarray .int, 2) := by decide +kernel
theorem dX12_init_370 : decode cX12_init 370 = .ok (.putfield 137, 3) := by decide +kernel
theorem dX12_init_373 : decode cX12_init 373 = .ok (.aload_n 0, 1) := by decide +kernel
theorem dX12_init_374 : decode cX12_init 374 = .ok (.aload_n 0, 1) := by decide +kernel
theorem dX12_init_375 : decode cX12_init 375 = .ok (.getfield 43, 3) := by decide +kernel
theorem dX12_init_378 : decode cX12_init 378 = .ok (.newarray .int, 2) := by decide +kernel
theorem dX12_init_380 : decode cX12_init 380 = .ok (.putfield 140, 3) := by decide +kernel
theorem dX12_init_383 : decode cX12_init 383 = .ok (.aload_n 0, 1) := by decide +kernel
theorem dX12_init_384 : decode cX12_init 384 = .ok (.sipush 256, 3) := by decide +kernel
theorem dX12_init_387 : decode cX12_init 387 = .ok (.newarray .int, 2) := by decide +kernel
theorem dX12_init_389 : decode cX12_init 389 = .ok (.putfield 143, 3) := by decide +kernel
theorem dX12_init_392 : decode cX12_init 392 = .ok (.aload_n 0, 1) := by decide +kernel
theorem dX12_init_393 : decode cX12_init 393 = .ok (.sipush 256, 3) := by decide +kernel
theorem dX12_init_396 : decode cX12_init 396 = .ok (.newarray .int, 2) := by decide +kernel
theorem dX12_init_398 : decode cX12_init 398 = .ok (.putfield 146, 3) := by decide +kernel
theorem dX12_init_401 : decode cX12_init 401 = .ok (.aload_n 0, 1) := by decide +kernel
theorem dX12_init_402 : decode cX12_init 402 = .ok (.bipush 64, 2) := by decide +kernel
theorem dX12_init_404 : decode cX12_init 404 = .ok (.newarray .int, 2) := by decide +kernel
theorem dX12_init_406 : decode cX12_init 406 = .ok (.putfield 149, 3) := by decide +kernel
theorem dX12_init_409 : decode cX12_init 409 = .ok (.aload_n 0, 1) := by decide +kernel
theorem dX12_init_410 : decode cX12_init 410 = .ok (.bipush 64, 2) := by decide +kernel
theorem dX12_init_412 : decode cX12_init 412 = .ok (.newarray .int, 2) := by decide +kernel
theorem dX12_init_414 : decode cX12_init 414 = .ok (.putfield 152, 3) := by decide +kernel
theorem dX12_init_417 : decode cX12_init 417 = .ok (.aload_n 0, 1) := by decide +kernel
theorem dX12_init_418 : decode cX12_init 418 = .ok (.bipush 64, 2) := by decide +kernel
theorem dX12_init_420 : decode cX12_init 420 = .ok (.newarray .int, 2) := by decide +kernel
theorem dX12_init_422 : decode cX12_init 422 = .ok (.putfield 155, 3) := by decide +kernel
theorem dX12_init_425 : decode cX12_init 425 = .ok (.aload_n 0, 1) := by decide +kernel
theorem dX12_init_426 : decode cX12_init 426 = .ok (.bipush 64, 2) := by decide +kernel
theorem dX12_init_428 : decode cX12_init 428 = .ok (.newarray .int, 2) := by decide +kernel
theorem dX12_init_430 : decode cX12_init 430 = .ok (.putfield 158, 3) := by decide +kernel
theorem dX12_init_433 : decode cX12_init 433 = .ok (.aload_n 0, 1) := by decide +kernel
theorem dX12_init_434 : decode cX12_init 434 = .ok (.sipush 1503, 3) := by decide +kernel
theorem dX12_init_437 : decode cX12_init 437 = .ok (.newarray .int, 2) := by decide +kernel
theorem dX12_init_439 : decode cX12_init 439 = .ok (.putfield 161, 3) := by decide +kernel
theorem dX12_init_442 : decode cX12_init 442 = .ok (.aload_n 0, 1) := by decide +kernel
theorem dX12_init_443 : decode cX12_init 443 = .ok (.iconst 3, 1) := by decide +kernel
theorem dX12_init_444 : decode cX12_init 444 = .ok (.newarray .int, 2) := by decide +kernel
theorem dX12_init_446 : decode cX12_init 446 = .ok (.putfield 164, 3) := by decide +kernel
theorem dX12_init_449 : decode cX12_init 449 = .ok (.aload_n 0, 1) := by decide +kernel
theorem dX12_init_450 : decode cX12_init 450 = .ok (.sipush 1503, 3) := by decide +kernel
theorem dX12_init_453 : decode cX12_init 453 = .ok (.newarray .int, 2) := by decide +kernel
theorem dX12_init_455 : decode cX12_init 455 = .ok (.putfield 167, 3) := by decide +kernel
theorem dX12_init_458 : decode cX12_init 458 = .ok (.aload_n 0, 1) := by decide +kernel
theorem dX12_init_459 : decode cX12_init 459 = .ok (.iconst 3, 1) := by decide +kernel
theorem dX12_init_460 : decode cX12_init 460 = .ok (.newarray .int, 2) := by decide +kernel
theorem dX12_init_462 : decode cX12_init 462 = .ok (.putfield 170, 3) := by decide +kernel
theorem dX12_init_465 : decode cX12_init 465 = .ok (.aload_n 0, 1) := by decide +kernel
theorem dX12_init_466 : decode cX12_init 466 = .ok (.iconst 3, 1) := by decide +kernel
theorem dX12_init_467 : decode cX12_init 467 = .ok (.newarray .int, 2) := by decide +kernel
theorem dX12_init_469 : decode cX12_init 469 = .ok (.putfield 173, 3) := by decide +kernel
theorem dX12_init_472 : decode cX12_init 472 = .ok (.aload_n 0, 1) := by decide +kernel
theorem dX12_init_473 : decode cX12_init 473 = .ok (.bipush 64, 2) := by decide +kernel
theorem dX12_init_475 : decode cX12_init 475 = .ok (.newarray .int, 2) := by decide +kernel
theorem dX12_init_477 : decode cX12_init 477 = .ok (.putfield 176, 3) := by decide +kernel
theorem dX12_init_480 : decode cX12_init 480 = .ok (.aload_n 0, 1) := by decide +kernel
theorem dX12_init_481 : decode cX12_init 481 = .ok (.bipush 64, 2) := by decide +kernel
theorem dX12_init_483 : decode cX12_init 483 = .ok (.newarray .int, 2) := by decide +kernel
theorem dX12_init_485 : decode cX12_init 485 = .ok (.putfield 179, 3) := by decide +kernel
theorem dX12_init_488 : decode cX12_init 488 = .ok (.aload_n 0, 1) := by decide +kernel
theorem dX12_init_489 : decode cX12_init 489 = .ok (.bipush 64, 2) := by decide +kernel
theorem dX12_init_491 : decode cX12_init 491 = .ok (.newarray .int, 2) := by decide +kernel
theorem dX12_init_493 : decode cX12_init 493 = .ok (.putfield 182, 3) := by decide +kernel
theorem dX12_init_496 : decode cX12_init 496 = .ok (.aload_n 0, 1) := by decide +kernel
theorem dX12_init_497 : decode cX12_init 497 = .ok (.bipush 61, 2) := by decide +kernel
theorem dX12_init_499 : decode cX12_init 499 = .ok (.newarray .int, 2) := by decide +kernel
theorem dX12_init_501 : decode cX12_init 501 = .ok (.putfield 185, 3) := by decide +kernel
theorem dX12_init_504 : decode cX12_init 504 = .ok (.aload_n 0, 1) := by decide +kernel
theorem dX12_init_505 : decode cX12_init 505 = .ok (.bipush 61, 2) := by decide +kernel
theorem dX12_init_507 : decode cX12_init 507 = .ok (.newarray .int, 2) := by decide +kernel
theorem dX12_init_509 : decode cX12_init 509 = .ok (.putfield 188, 3) := by decide +kernel
theorem dX12_init_512 : decode cX12_init 512 = .ok (.aload_n 0, 1) := by decide +kernel
theorem dX12_init_513 : decode cX12_init 513 = .ok (.bipush 61, 2) := by decide +kernel
theorem dX12_init_515 : decode cX12_init 515 = .ok (.newarray .int, 2) := by decide +kernel
theorem dX12_init_517 : decode cX12_init 517 = .ok (.putfield 191, 3) := by decide +kernel
theorem dX12_init_520 : decode cX12_init 520 = .ok (.aload_n 0, 1) := by decide +kernel
theorem dX12_init_521 : decode cX12_init 521 = .ok (.sipush 183, 3) := by decide +kernel
theorem dX12_init_524 : decode cX12_init 524 = .ok (.newarray .int, 2) := by decide +kernel
theorem dX12_init_526 : decode cX12_init 526 = .ok (.putfield 194, 3) := by decide +kernel
theorem dX12_init_529 : decode cX12_init 529 = .ok (.aload_n 0, 1) := by decide +kernel
theorem dX12_init_530 : decode cX12_init 530 = .ok (.sipush 1200, 3) := by decide +kernel
theorem dX12_init_533 : decode cX12_init 533 = .ok (.newarray .int, 2) := by decide +kernel
theorem dX12_init_535 : decode cX12_init 535 = .ok (.putfield 197, 3) := by decide +kernel
theorem dX12_init_538 : decode cX12_init 538 = .ok (.aload_n 0, 1) := by decide +kernel
theorem dX12_init_539 : decode cX12_init 539 = .ok (.sipush 2000, 3) := by decide +kernel
theorem dX12_init_542 : decode cX12_init 542 = .ok (.newarray .byte, 2) := by decide +kernel
theorem dX12_init_544 : decode cX12_init 544 = .ok (.putfield 200, 3) := by decide +kernel
theorem dX12_init_547 : decode cX12_init 547 = .ok (.iconst 0, 1) := by decide +kernel
theorem dX12_init_548 : decode cX12_init 548 = .ok (.istore_n 1, 1) := by decide +kernel
theorem dX12_init_549 : decode cX12_init 549 = .ok (.iload_n 1, 1) := by decide +kernel
theorem dX12_init_550 : decode cX12_init 550 = .ok (.aload_n 0, 1) := by decide +kernel
theorem dX12_init_551 : decode cX12_init 551 = .ok (.getfield 71, 3) := by decide +kernel
theorem dX12_init_554 : decode cX12_init 554 = .ok (.arraylength, 1) := by decide +kernel
theorem dX12_init_555 : decode cX12_init 555 = .ok (.if_icmp .ge 16, 3) := by decide +kernel
theorem dX12_init_558 : decode cX12_init 558 = .ok (.aload_n 0, 1) := by decide +kernel
theorem dX12_init_559 : decode cX12_init 559 = .ok (.getfield 71, 3) := by decide +kernel
theorem dX12_init_562 : decode cX12_init 562 = .ok (.iload_n 1, 1) := by decide +kernel
theorem dX12_init_563 : decode cX12_init 563 = .ok (.iconst (-1), 1) := by decide +kernel
theorem dX12_init_564 : decode cX12_init 564 = .ok (.iastore, 1) := by decide +kernel
theorem dX12_init_565 : decode cX12_init 565 = .ok (.iinc 1 1, 3) := by decide +kernel
theorem dX12_init_568 : decode cX12_init 568 = .ok (.goto (-19), 3) := by decide +kernel
theorem dX12_init_571 : decode cX12_init 571 = .ok (.return_, 1) := by decide +kernel
theorem dX12_isConsistent_0 : decode cX12_isConsistent 0 = .ok (.aload_n 0, 1) := by decide +kernel
theorem dX12_isConsistent_1 : decode cX12_isConsistent 1 = .ok (.iconst 0, 1) := by decide +kernel
theorem dX12_isConsistent_2 : decode cX12_isConsistent 2 = .ok (.putfield 203, 3) := by decide +kernel
theorem dX12_isConsistent_5 : decode cX12_isConsistent 5 = .ok (.aload_n 0, 1) := by decide +kernel
theorem dX12_isConsistent_6 : decode cX12_isConsistent 6 = .ok (.invokevirtual 505, 3) := by decide +kernel
theorem dX12_isConsistent_9 : decode cX12_isConsistent 9 = .ok (.iconst (-1), 1) := by decide +kernel
theorem dX12_isConsistent_10 : decode cX12_isConsistent 10 = .ok (.if_icmp .ne 7, 3) := by decide +kernel
theorem dX12_isConsistent_13 : decode cX12_isConsistent 13 = .ok (.iconst 1, 1) := by decide +kernel
theorem dX12_isConsistent_14 : decode cX12_isConsistent 14 = .ok (.goto 4, 3) := by decide +kernel
theorem dX12_isConsistent_18 : decode cX12_isConsistent 18 = .ok (.ireturn, 1) := by decide +kernel
theorem dX12_isFinite_0 : decode cX12_isFinite 0 = .ok (.aload_n 0, 1) := by decide +kernel
theorem dX12_isFinite_1 : decode cX12_isFinite 1 = .ok (.iconst 0, 1) := by decide +kernel
theorem dX12_isFinite_2 : decode cX12_isFinite 2 = .ok (.putfield 203, 3) := by decide +kernel
theorem dX12_isFinite_5 : decode cX12_isFinite 5 = .ok (.aload_n 0, 1) := by decide +kernel
theorem dX12_isFinite_6 : decode cX12_isFinite 6 = .ok (.iload_n 1, 1) := by decide +kernel
theorem dX12_isFinite_7 : decode cX12_isFinite 7 = .ok (.invokevirtual 474, 3) := by decide +kernel
theorem dX12_isFinite_10 : decode cX12_isFinite 10 = .ok (.ifCond .eq 20, 3) := by decide +kernel
theorem dX12_isFinite_30 : decode cX12_isFinite 30 = .ok (.aload_n 0, 1) := by decide +kernel
theorem dX12_isFinite_31 : decode cX12_isFinite 31 = .ok (.iconst 1, 1) := by decide +kernel
theorem dX12_isFinite_32 : decode cX12_isFinite 32 = .ok (.invokevirtual 248, 3) := by decide +kernel
theorem dX12_isFinite_35 : decode cX12_isFinite 35 = .ok (.ifCond .eq 7, 3) := by decide +kernel
theorem dX12_isFinite_42 : decode cX12_isFinite 42 = .ok (.iconst 0, 1) := by decide +kernel
theorem dX12_isFinite_43 : decode cX12_isFinite 43 = .ok (.ireturn, 1) := by decide +kernel
theorem dX12_isLetter_0 : decode cX12_isLetter 0 = .ok (.iload_n 0, 1) := by decide +kernel
theorem dX12_isLetter_1 : decode cX12_isLetter 1 = .ok (.bipush 97, 2) := by decide +kernel
theorem dX12_isLetter_3 : decode cX12_isLetter 3 = .ok (.if_icmp .lt 13, 3) := by decide +kernel
theorem dX12_isLetter_16 : decode cX12_isLetter 16 = .ok (.iconst 0, 1) := by decide +kernel
theorem dX12_isLetter_17 : decode cX12_isLetter 17 = .ok (.ireturn, 1) := by decide +kernel
theorem dX12_isName_0 : decode cX12_isName 0 = .ok (.iload_n 1, 1) := by decide +kernel
theorem dX12_isName_1 : decode cX12_isName 1 = .ok (.iconst 1, 1) := by decide +kernel
theorem dX12_isName_2 : decode cX12_isName 2 = .ok (.if_icmp .lt 29, 3) := by decide +kernel
theorem dX12_isName_31 : decode cX12_isName 31 = .ok (.iconst 0, 1) := by decide +kernel
theorem dX12_isName_32 : decode cX12_isName 32 = .ok (.istore_n 2, 1) := by decide +kernel
theorem dX12_isName_33 : decode cX12_isName 33 = .ok (.iconst 0, 1) := by decide +kernel
theorem dX12_isName_34 : decode cX12_isName 34 = .ok (.istore_n 3, 1) := by decide +kernel
theorem dX12_isName_35 : decode cX12_isName 35 = .ok (.iload_n 3, 1) := by decide +kernel
theorem dX12_isName_36 : decode cX12_isName 36 = .ok (.iload_n 1, 1) := by decide +kernel
theorem dX12_isName_37 : decode cX12_isName 37 = .ok (.if_icmp .ge 27, 3) := by decide +kernel
theorem dX12_isName_64 : decode cX12_isName 64 = .ok (.iload_n 2, 1) := by decide +kernel
theorem dX12_isName_65 : decode cX12_isName 65 = .ok (.ireturn, 1) := by decide +kernel
theorem dX12_isNumber_0 : decode cX12_isNumber 0 = .ok (.iload_n 1, 1) := by decide +kernel
theorem dX12_isNumber_1 : decode cX12_isNumber 1 = .ok (.ifCond .lt 15, 3) := by decide +kernel
theorem dX12_isNumber_4 : decode cX12_isNumber 4 = .ok (.iload_n 1, 1) := by decide +kernel
theorem dX12_isNumber_5 : decode cX12_isNumber 5 = .ok (.aload_n 0, 1) := by decide +kernel
theorem dX12_isNumber_6 : decode cX12_isNumber 6 = .ok (.getfield 241, 3) := by decide +kernel
theorem dX12_isNumber_9 : decode cX12_isNumber 9 = .ok (.if_icmp .ge 7, 3) := by decide +kernel
theorem dX12_isNumber_16 : decode cX12_isNumber 16 = .ok (.iconst 0, 1) := by decide +kernel
theorem dX12_isNumber_17 : decode cX12_isNumber 17 = .ok (.ireturn, 1) := by decide +kernel
theorem dX12_isSymbol_0 : decode cX12_isSymbol 0 = .ok (.iload_n 1, 1) := by decide +kernel
theorem dX12_isSymbol_1 : decode cX12_isSymbol 1 = .ok (.ifCond .lt 15, 3) := by decide +kernel
theorem dX12_isSymbol_4 : decode cX12_isSymbol 4 = .ok (.iload_n 1, 1) := by decide +kernel
theorem dX12_isSymbol_5 : decode cX12_isSymbol 5 = .ok (.aload_n 0, 1) := by decide +kernel
theorem dX12_isSymbol_6 : decode cX12_isSymbol 6 = .ok (.getfield 392, 3) := by decide +kernel
theorem dX12_isSymbol_9 : decode cX12_isSymbol 9 = .ok (.if_icmp .ge 7, 3) := by decide +kernel
theorem dX12_isSymbol_16 : decode cX12_isSymbol 16 = .ok (.iconst 0, 1) := by decide +kernel
theorem dX12_isSymbol_17 : decode cX12_isSymbol 17 = .ok (.ireturn, 1) := by decide +kernel
theorem dX12_look_0 : decode cX12_look 0 = .ok (.aload_n 0, 1) := by decide +kernel
theorem dX12_look_1 : decode cX12_look 1 = .ok (.getfield 427, 3) := by decide +kernel
theorem dX12_look_4 : decode cX12_look 4 = .ok (.aload_n 0, 1) := by decide +kernel
theorem dX12_look_5 : decode cX12_look 5 = .ok (.getfield 430, 3) := by decide +kernel
theorem dX12_look_8 : decode cX12_look 8 = .ok (.if_icmp .ge 44, 3) := by decide +kernel
theorem dX12_look_52 : decode cX12_look 52 = .ok (.aload_n 0, 1) := by decide +kernel
theorem dX12_look_53 : decode cX12_look 53 = .ok (.getfield 427, 3) := by decide +kernel
theorem dX12_look_56 : decode cX12_look 56 = .ok (.aload_n 0, 1) := by decide +kernel
theorem dX12_look_57 : decode cX12_look 57 = .ok (.getfield 430, 3) := by decide +kernel
theorem dX12_look_60 : decode cX12_look 60 = .ok (.if_icmp .ge 19, 3) := by decide +kernel
theorem dX12_look_79 : decode cX12_look 79 = .ok (.iconst (-1), 1) := by decide +kernel
theorem dX12_look_80 : decode cX12_look 80 = .ok (.ireturn, 1) := by decide +kernel
theorem dX12_match_0 : decode cX12_match 0 = .ok (.aload_n 0, 1) := by decide +kernel
theorem dX12_match_1 : decode cX12_match 1 = .ok (.iconst 0, 1) := by decide +kernel
theorem dX12_match_2 : decode cX12_match 2 = .ok (.putfield 203, 3) := by decide +kernel
theorem dX12_match_5 : decode cX12_match 5 = .ok (.aload_n 0, 1) := by decide +kernel
theorem dX12_match_6 : decode cX12_match 6 = .ok (.iload_n 1, 1) := by decide +kernel
theorem dX12_match_7 : decode cX12_match 7 = .ok (.invokevirtual 474, 3) := by decide +kernel
theorem dX12_match_10 : decode cX12_match 10 = .ok (.ifCond .eq 11, 3) := by decide +kernel
theorem dX12_match_21 : decode cX12_match 21 = .ok (.aload_n 0, 1) := by decide +kernel
theorem dX12_match_22 : decode cX12_match 22 = .ok (.iconst 1, 1) := by decide +kernel
theorem dX12_match_23 : decode cX12_match 23 = .ok (.invokevirtual 248, 3) := by decide +kernel
theorem dX12_match_26 : decode cX12_match 26 = .ok (.ireturn, 1) := by decide +kernel
theorem dX12_normalForm_0 : decode cX12_normalForm 0 = .ok (.aload_n 0, 1) := by decide +kernel
theorem dX12_normalForm_1 : decode cX12_normalForm 1 = .ok (.iconst 0, 1) := by decide +kernel
theorem dX12_normalForm_2 : decode cX12_normalForm 2 = .ok (.putfield 203, 3) := by decide +kernel
theorem dX12_normalForm_5 : decode cX12_normalForm 5 = .ok (.aload_n 0, 1) := by decide +kernel
theorem dX12_normalForm_6 : decode cX12_normalForm 6 = .ok (.iload_n 1, 1) := by decide +kernel
theorem dX12_normalForm_7 : decode cX12_normalForm 7 = .ok (.invokevirtual 474, 3) := by decide +kernel
theorem dX12_normalForm_10 : decode cX12_normalForm 10 = .ok (.ifCond .eq 21, 3) := by decide +kernel
theorem dX12_normalForm_31 : decode cX12_normalForm 31 = .ok (.aload_n 0, 1) := by decide +kernel
theorem dX12_normalForm_32 : decode cX12_normalForm 32 = .ok (.iconst 1, 1) := by decide +kernel
theorem dX12_normalForm_33 : decode cX12_normalForm 33 = .ok (.invokevirtual 248, 3) := by decide +kernel
theorem dX12_normalForm_36 : decode cX12_normalForm 36 = .ok (.ireturn, 1) := by decide +kernel
theorem dX12_occurrences_0 : decode cX12_occurrences 0 = .ok (.aload_n 0, 1) := by decide +kernel
theorem dX12_occurrences_1 : decode cX12_occurrences 1 = .ok (.iconst 0, 1) := by decide +kernel
theorem dX12_occurrences_2 : decode cX12_occurrences 2 = .ok (.putfield 203, 3) := by decide +kernel
theorem dX12_occurrences_5 : decode cX12_occurrences 5 = .ok (.aload_n 0, 1) := by decide +kernel
theorem dX12_occurrences_6 : decode cX12_occurrences 6 = .ok (.iload_n 1, 1) := by decide +kernel
theorem dX12_occurrences_7 : decode cX12_occurrences 7 = .ok (.invokevirtual 474, 3) := by decide +kernel
theorem dX12_occurrences_10 : decode cX12_occurrences 10 = .ok (.ifCond .eq 11, 3) := by decide +kernel
theorem dX12_occurrences_21 : decode cX12_occurrences 21 = .ok (.aload_n 0, 1) := by decide +kernel
theorem dX12_occurrences_22 : decode cX12_occurrences 22 = .ok (.iconst 1, 1) := by decide +kernel
theorem dX12_occurrences_23 : decode cX12_occurrences 23 = .ok (.invokevirtual 248, 3) := by decide +kernel
theorem dX12_occurrences_26 : decode cX12_occurrences 26 = .ok (.ireturn, 1) := by decide +kernel
theorem dX12_orderByWeight_0 : decode cX12_orderByWeight 0 = .ok (.aload_n 0, 1) := by decide +kernel
theorem dX12_orderByWeight_1 : decode cX12_orderByWeight 1 = .ok (.iconst 0, 1) := by decide +kernel
theorem dX12_orderByWeight_2 : decode cX12_orderByWeight 2 = .ok (.putfield 203, 3) := by decide +kernel
theorem dX12_orderByWeight_5 : decode cX12_orderByWeight 5 = .ok (.aload_n 0, 1) := by decide +kernel
theorem dX12_orderByWeight_6 : decode cX12_orderByWeight 6 = .ok (.getfield 265, 3) := by decide +kernel
theorem dX12_orderByWeight_9 : decode cX12_orderByWeight 9 = .ok (.istore_n 2, 1) := by decide +kernel
theorem dX12_orderByWeight_10 : decode cX12_orderByWeight 10 = .ok (.aload_n 0, 1) := by decide +kernel
theorem dX12_orderByWeight_11 : decode cX12_orderByWeight 11 = .ok (.getfield 252, 3) := by decide +kernel
theorem dX12_orderByWeight_14 : decode cX12_orderByWeight 14 = .ok (.ifCond .eq 17, 3) := by decide +kernel
theorem dX12_orderByWeight_31 : decode cX12_orderByWeight 31 = .ok (.aload_n 0, 1) := by decide +kernel
theorem dX12_orderByWeight_32 : decode cX12_orderByWeight 32 = .ok (.iload_n 1, 1) := by decide +kernel
theorem dX12_orderByWeight_33 : decode cX12_orderByWeight 33 = .ok (.putfield 265, 3) := by decide +kernel
theorem dX12_orderByWeight_36 : decode cX12_orderByWeight 36 = .ok (.iload_n 2, 1) := by decide +kernel
theorem dX12_orderByWeight_37 : decode cX12_orderByWeight 37 = .ok (.ireturn, 1) := by decide +kernel
theorem dX12_outputByte_0 : decode cX12_outputByte 0 = .ok (.aload_n 0, 1) := by decide +kernel
theorem dX12_outputByte_1 : decode cX12_outputByte 1 = .ok (.iconst 0, 1) := by decide +kernel
theorem dX12_outputByte_2 : decode cX12_outputByte 2 = .ok (.putfield 203, 3) := by decide +kernel
theorem dX12_outputByte_5 : decode cX12_outputByte 5 = .ok (.iload_n 1, 1) := by decide +kernel
theorem dX12_outputByte_6 : decode cX12_outputByte 6 = .ok (.ifCond .lt 20, 3) := by decide +kernel
theorem dX12_outputByte_9 : decode cX12_outputByte 9 = .ok (.iload_n 1, 1) := by decide +kernel
theorem dX12_outputByte_10 : decode cX12_outputByte 10 = .ok (.aload_n 0, 1) := by decide +kernel
theorem dX12_outputByte_11 : decode cX12_outputByte 11 = .ok (.getfield 483, 3) := by decide +kernel
theorem dX12_outputByte_14 : decode cX12_outputByte 14 = .ok (.if_icmp .ge 12, 3) := by decide +kernel
theorem dX12_outputByte_26 : decode cX12_outputByte 26 = .ok (.aload_n 0, 1) := by decide +kernel
theorem dX12_outputByte_27 : decode cX12_outputByte 27 = .ok (.iconst 1, 1) := by decide +kernel
theorem dX12_outputByte_28 : decode cX12_outputByte 28 = .ok (.invokevirtual 248, 3) := by decide +kernel
theorem dX12_outputByte_31 : decode cX12_outputByte 31 = .ok (.ireturn, 1) := by decide +kernel
theorem dX12_pop_0 : decode cX12_pop 0 = .ok (.aload_n 0, 1) := by decide +kernel
theorem dX12_pop_1 : decode cX12_pop 1 = .ok (.iconst 0, 1) := by decide +kernel
theorem dX12_pop_2 : decode cX12_pop 2 = .ok (.putfield 203, 3) := by decide +kernel
theorem dX12_pop_5 : decode cX12_pop 5 = .ok (.aload_n 0, 1) := by decide +kernel
theorem dX12_pop_6 : decode cX12_pop 6 = .ok (.getfield 508, 3) := by decide +kernel
theorem dX12_pop_9 : decode cX12_pop 9 = .ok (.ifCond .ne 9, 3) := by decide +kernel
theorem dX12_pop_12 : decode cX12_pop 12 = .ok (.aload_n 0, 1) := by decide +kernel
theorem dX12_pop_13 : decode cX12_pop 13 = .ok (.iconst 1, 1) := by decide +kernel
theorem dX12_pop_14 : decode cX12_pop 14 = .ok (.invokevirtual 248, 3) := by decide +kernel
theorem dX12_pop_17 : decode cX12_pop 17 = .ok (.ireturn, 1) := by decide +kernel
theorem dX12_promote_0 : decode cX12_promote 0 = .ok (.aload_n 0, 1) := by decide +kernel
theorem dX12_promote_1 : decode cX12_promote 1 = .ok (.iconst 0, 1) := by decide +kernel
theorem dX12_promote_2 : decode cX12_promote 2 = .ok (.putfield 203, 3) := by decide +kernel
theorem dX12_promote_5 : decode cX12_promote 5 = .ok (.aload_n 0, 1) := by decide +kernel
theorem dX12_promote_6 : decode cX12_promote 6 = .ok (.iload_n 1, 1) := by decide +kernel
theorem dX12_promote_7 : decode cX12_promote 7 = .ok (.invokevirtual 471, 3) := by decide +kernel
theorem dX12_promote_10 : decode cX12_promote 10 = .ok (.ifCond .eq 11, 3) := by decide +kernel
theorem dX12_promote_21 : decode cX12_promote 21 = .ok (.aload_n 0, 1) := by decide +kernel
theorem dX12_promote_22 : decode cX12_promote 22 = .ok (.iconst 1, 1) := by decide +kernel
theorem dX12_promote_23 : decode cX12_promote 23 = .ok (.invokevirtual 248, 3) := by decide +kernel
theorem dX12_promote_26 : decode cX12_promote 26 = .ok (.ireturn, 1) := by decide +kernel
theorem dX12_push__0 : decode cX12_push_ 0 = .ok (.aload_n 0, 1) := by decide +kernel
theorem dX12_push__1 : decode cX12_push_ 1 = .ok (.iconst 0, 1) := by decide +kernel
theorem dX12_push__2 : decode cX12_push_ 2 = .ok (.putfield 203, 3) := by decide +kernel
theorem dX12_push__5 : decode cX12_push_ 5 = .ok (.aload_n 0, 1) := by decide +kernel
theorem dX12_push__6 : decode cX12_push_ 6 = .ok (.getfield 508, 3) := by decide +kernel
theorem dX12_push__9 : decode cX12_push_ 9 = .ok (.bipush 8, 2) := by decide +kernel
theorem dX12_push__11 : decode cX12_push_ 11 = .ok (.if_icmp .ne 9, 3) := by decide +kernel
theorem dX12_push__20 : decode cX12_push_ 20 = .ok (.aload_n 0, 1) := by decide +kernel
theorem dX12_push__21 : decode cX12_push_ 21 = .ok (.getfield 104, 3) := by decide +kernel
theorem dX12_push__24 : decode cX12_push_ 24 = .ok (.iconst 2, 1) := by decide +kernel
theorem dX12_push__25 : decode cX12_push_ 25 = .ok (.aload_n 0, 1) := by decide +kernel
theorem dX12_push__26 : decode cX12_push_ 26 = .ok (.getfield 508, 3) := by decide +kernel
theorem dX12_push__29 : decode cX12_push_ 29 = .ok (.imul, 1) := by decide +kernel
theorem dX12_push__30 : decode cX12_push_ 30 = .ok (.aload_n 0, 1) := by decide +kernel
theorem dX12_push__31 : decode cX12_push_ 31 = .ok (.getfield 404, 3) := by decide +kernel
theorem dX12_push__34 : decode cX12_push_ 34 = .ok (.iastore, 1) := by decide +kernel
theorem dX12_push__35 : decode cX12_push_ 35 = .ok (.aload_n 0, 1) := by decide +kernel
theorem dX12_push__36 : decode cX12_push_ 36 = .ok (.getfield 104, 3) := by decide +kernel
theorem dX12_push__39 : decode cX12_push_ 39 = .ok (.iconst 2, 1) := by decide +kernel
theorem dX12_push__40 : decode cX12_push_ 40 = .ok (.aload_n 0, 1) := by decide +kernel
theorem dX12_push__41 : decode cX12_push_ 41 = .ok (.getfield 508, 3) := by decide +kernel
theorem dX12_push__44 : decode cX12_push_ 44 = .ok (.imul, 1) := by decide +kernel
theorem dX12_push__45 : decode cX12_push_ 45 = .ok (.iconst 1, 1) := by decide +kernel
theorem dX12_push__46 : decode cX12_push_ 46 = .ok (.iadd, 1) := by decide +kernel
theorem dX12_push__47 : decode cX12_push_ 47 = .ok (.aload_n 0, 1) := by decide +kernel
theorem dX12_push__48 : decode cX12_push_ 48 = .ok (.getfield 489, 3) := by decide +kernel
theorem dX12_push__51 : decode cX12_push_ 51 = .ok (.iastore, 1) := by decide +kernel
theorem dX12_push__52 : decode cX12_push_ 52 = .ok (.aload_n 0, 1) := by decide +kernel
theorem dX12_push__53 : decode cX12_push_ 53 = .ok (.dup, 1) := by decide +kernel
theorem dX12_push__54 : decode cX12_push_ 54 = .ok (.getfield 508, 3) := by decide +kernel
theorem dX12_push__57 : decode cX12_push_ 57 = .ok (.iconst 1, 1) := by decide +kernel
theorem dX12_push__58 : decode cX12_push_ 58 = .ok (.iadd, 1) := by decide +kernel
theorem dX12_push__59 : decode cX12_push_ 59 = .ok (.putfield 508, 3) := by decide +kernel
theorem dX12_push__62 : decode cX12_push_ 62 = .ok (.aload_n 0, 1) := by decide +kernel
theorem dX12_push__63 : decode cX12_push_ 63 = .ok (.getfield 508, 3) := by decide +kernel
theorem dX12_push__66 : decode cX12_push_ 66 = .ok (.ireturn, 1) := by decide +kernel
theorem dX12_rankOf_0 : decode cX12_rankOf 0 = .ok (.aload_n 0, 1) := by decide +kernel
theorem dX12_rankOf_1 : decode cX12_rankOf 1 = .ok (.iconst 0, 1) := by decide +kernel
theorem dX12_rankOf_2 : decode cX12_rankOf 2 = .ok (.putfield 203, 3) := by decide +kernel
theorem dX12_rankOf_5 : decode cX12_rankOf 5 = .ok (.aload_n 0, 1) := by decide +kernel
theorem dX12_rankOf_6 : decode cX12_rankOf 6 = .ok (.iload_n 1, 1) := by decide +kernel
theorem dX12_rankOf_7 : decode cX12_rankOf 7 = .ok (.invokevirtual 471, 3) := by decide +kernel
theorem dX12_rankOf_10 : decode cX12_rankOf 10 = .ok (.ifCond .eq 12, 3) := by decide +kernel
theorem dX12_rankOf_22 : decode cX12_rankOf 22 = .ok (.aload_n 0, 1) := by decide +kernel
theorem dX12_rankOf_23 : decode cX12_rankOf 23 = .ok (.iconst 1, 1) := by decide +kernel
theorem dX12_rankOf_24 : decode cX12_rankOf 24 = .ok (.invokevirtual 248, 3) := by decide +kernel
theorem dX12_rankOf_27 : decode cX12_rankOf 27 = .ok (.ireturn, 1) := by decide +kernel
theorem dX12_read_0 : decode cX12_read 0 = .ok (.aload_n 0, 1) := by decide +kernel
theorem dX12_read_1 : decode cX12_read 1 = .ok (.iconst 0, 1) := by decide +kernel
theorem dX12_read_2 : decode cX12_read 2 = .ok (.putfield 203, 3) := by decide +kernel
theorem dX12_read_5 : decode cX12_read 5 = .ok (.aload_n 0, 1) := by decide +kernel
theorem dX12_read_6 : decode cX12_read 6 = .ok (.invokevirtual 480, 3) := by decide +kernel
theorem dX12_read_9 : decode cX12_read 9 = .ok (.aload_n 0, 1) := by decide +kernel
theorem dX12_read_10 : decode cX12_read 10 = .ok (.iconst 0, 1) := by decide +kernel
theorem dX12_read_11 : decode cX12_read 11 = .ok (.invokevirtual 454, 3) := by decide +kernel
theorem dX12_read_14 : decode cX12_read 14 = .ok (.istore_n 1, 1) := by decide +kernel
theorem dX12_read_15 : decode cX12_read 15 = .ok (.iload_n 1, 1) := by decide +kernel
theorem dX12_read_16 : decode cX12_read 16 = .ok (.ifCond .eq 21, 3) := by decide +kernel
theorem dX12_read_37 : decode cX12_read 37 = .ok (.aload_n 0, 1) := by decide +kernel
theorem dX12_read_38 : decode cX12_read 38 = .ok (.iconst 0, 1) := by decide +kernel
theorem dX12_read_39 : decode cX12_read 39 = .ok (.putfield 430, 3) := by decide +kernel
theorem dX12_read_42 : decode cX12_read 42 = .ok (.iload_n 1, 1) := by decide +kernel
theorem dX12_read_43 : decode cX12_read 43 = .ok (.ifCond .eq 15, 3) := by decide +kernel
theorem dX12_read_58 : decode cX12_read 58 = .ok (.aload_n 0, 1) := by decide +kernel
theorem dX12_read_59 : decode cX12_read 59 = .ok (.iconst 1, 1) := by decide +kernel
theorem dX12_read_60 : decode cX12_read 60 = .ok (.invokevirtual 248, 3) := by decide +kernel
theorem dX12_read_63 : decode cX12_read 63 = .ok (.ireturn, 1) := by decide +kernel
theorem dX12_readTheory_0 : decode cX12_readTheory 0 = .ok (.aload_n 0, 1) := by decide +kernel
theorem dX12_readTheory_1 : decode cX12_readTheory 1 = .ok (.iconst 0, 1) := by decide +kernel
theorem dX12_readTheory_2 : decode cX12_readTheory 2 = .ok (.putfield 203, 3) := by decide +kernel
theorem dX12_readTheory_5 : decode cX12_readTheory 5 = .ok (.aload_n 0, 1) := by decide +kernel
theorem dX12_readTheory_6 : decode cX12_readTheory 6 = .ok (.invokevirtual 480, 3) := by decide +kernel
theorem dX12_readTheory_9 : decode cX12_readTheory 9 = .ok (.aload_n 0, 1) := by decide +kernel
theorem dX12_readTheory_10 : decode cX12_readTheory 10 = .ok (.invokevirtual 501, 3) := by decide +kernel
theorem dX12_readTheory_13 : decode cX12_readTheory 13 = .ok (.istore_n 1, 1) := by decide +kernel
theorem dX12_readTheory_14 : decode cX12_readTheory 14 = .ok (.aload_n 0, 1) := by decide +kernel
theorem dX12_readTheory_15 : decode cX12_readTheory 15 = .ok (.iconst 0, 1) := by decide +kernel
theorem dX12_readTheory_16 : decode cX12_readTheory 16 = .ok (.putfield 430, 3) := by decide +kernel
theorem dX12_readTheory_19 : decode cX12_readTheory 19 = .ok (.iload_n 1, 1) := by decide +kernel
theorem dX12_readTheory_20 : decode cX12_readTheory 20 = .ok (.ifCond .ne 9, 3) := by decide +kernel
theorem dX12_readTheory_29 : decode cX12_readTheory 29 = .ok (.aload_n 0, 1) := by decide +kernel
theorem dX12_readTheory_30 : decode cX12_readTheory 30 = .ok (.getfield 404, 3) := by decide +kernel
theorem dX12_readTheory_33 : decode cX12_readTheory 33 = .ok (.istore_n 2, 1) := by decide +kernel
theorem dX12_readTheory_34 : decode cX12_readTheory 34 = .ok (.aload_n 0, 1) := by decide +kernel
theorem dX12_readTheory_35 : decode cX12_readTheory 35 = .ok (.getfield 489, 3) := by decide +kernel
theorem dX12_readTheory_38 : decode cX12_readTheory 38 = .ok (.istore_n 3, 1) := by decide +kernel
theorem dX12_readTheory_39 : decode cX12_readTheory 39 = .ok (.iconst 0, 1) := by decide +kernel
theorem dX12_readTheory_40 : decode cX12_readTheory 40 = .ok (.istore 4, 2) := by decide +kernel
theorem dX12_readTheory_42 : decode cX12_readTheory 42 = .ok (.iload 4, 2) := by decide +kernel
theorem dX12_readTheory_44 : decode cX12_readTheory 44 = .ok (.aload_n 0, 1) := by decide +kernel
theorem dX12_readTheory_45 : decode cX12_readTheory 45 = .ok (.getfield 451, 3) := by decide +kernel
theorem dX12_readTheory_48 : decode cX12_readTheory 48 = .ok (.if_icmp .ge 107, 3) := by decide +kernel
theorem dX12_readTheory_155 : decode cX12_readTheory 155 = .ok (.aload_n 0, 1) := by decide +kernel
theorem dX12_readTheory_156 : decode cX12_readTheory 156 = .ok (.aload_n 0, 1) := by decide +kernel
theorem dX12_readTheory_157 : decode cX12_readTheory 157 = .ok (.getfield 252, 3) := by decide +kernel
theorem dX12_readTheory_160 : decode cX12_readTheory 160 = .ok (.ifCond .ne 10, 3) := by decide +kernel
theorem dX12_readTheory_163 : decode cX12_readTheory 163 = .ok (.aload_n 0, 1) := by decide +kernel
theorem dX12_readTheory_164 : decode cX12_readTheory 164 = .ok (.getfield 451, 3) := by decide +kernel
theorem dX12_readTheory_167 : decode cX12_readTheory 167 = .ok (.ifCond .le 7, 3) := by decide +kernel
theorem dX12_readTheory_174 : decode cX12_readTheory 174 = .ok (.iconst 0, 1) := by decide +kernel
theorem dX12_readTheory_175 : decode cX12_readTheory 175 = .ok (.putfield 252, 3) := by decide +kernel
theorem dX12_readTheory_178 : decode cX12_readTheory 178 = .ok (.aload_n 0, 1) := by decide +kernel
theorem dX12_readTheory_179 : decode cX12_readTheory 179 = .ok (.getfield 451, 3) := by decide +kernel
theorem dX12_readTheory_182 : decode cX12_readTheory 182 = .ok (.ireturn, 1) := by decide +kernel
theorem dX12_readsTerm_0 : decode cX12_readsTerm 0 = .ok (.iconst 0, 1) := by decide +kernel
theorem dX12_readsTerm_1 : decode cX12_readsTerm 1 = .ok (.istore_n 2, 1) := by decide +kernel
theorem dX12_readsTerm_2 : decode cX12_readsTerm 2 = .ok (.aload_n 0, 1) := by decide +kernel
theorem dX12_readsTerm_3 : decode cX12_readsTerm 3 = .ok (.invokevirtual 436, 3) := by decide +kernel
theorem dX12_readsTerm_6 : decode cX12_readsTerm 6 = .ok (.invokestatic 433, 3) := by decide +kernel
theorem dX12_readsTerm_9 : decode cX12_readsTerm 9 = .ok (.ifCond .ne 13, 3) := by decide +kernel
theorem dX12_readsTerm_12 : decode cX12_readsTerm 12 = .ok (.aload_n 0, 1) := by decide +kernel
theorem dX12_readsTerm_13 : decode cX12_readsTerm 13 = .ok (.iconst 1, 1) := by decide +kernel
theorem dX12_readsTerm_14 : decode cX12_readsTerm 14 = .ok (.aload_n 0, 1) := by decide +kernel
theorem dX12_readsTerm_15 : decode cX12_readsTerm 15 = .ok (.getfield 427, 3) := by decide +kernel
theorem dX12_readsTerm_18 : decode cX12_readsTerm 18 = .ok (.invokevirtual 439, 3) := by decide +kernel
theorem dX12_readsTerm_21 : decode cX12_readsTerm 21 = .ok (.ireturn, 1) := by decide +kernel
theorem dX12_readsTheory_0 : decode cX12_readsTheory 0 = .ok (.aload_n 0, 1) := by decide +kernel
theorem dX12_readsTheory_1 : decode cX12_readsTheory 1 = .ok (.iconst 0, 1) := by decide +kernel
theorem dX12_readsTheory_2 : decode cX12_readsTheory 2 = .ok (.putfield 451, 3) := by decide +kernel
theorem dX12_readsTheory_5 : decode cX12_readsTheory 5 = .ok (.aload_n 0, 1) := by decide +kernel
theorem dX12_readsTheory_6 : decode cX12_readsTheory 6 = .ok (.invokevirtual 436, 3) := by decide +kernel
theorem dX12_readsTheory_9 : decode cX12_readsTheory 9 = .ok (.iconst (-1), 1) := by decide +kernel
theorem dX12_readsTheory_10 : decode cX12_readsTheory 10 = .ok (.if_icmp .eq 201, 3) := by decide +kernel
theorem dX12_readsTheory_211 : decode cX12_readsTheory 211 = .ok (.iconst 1, 1) := by decide +kernel
theorem dX12_readsTheory_212 : decode cX12_readsTheory 212 = .ok (.ireturn, 1) := by decide +kernel
theorem dX12_replace_0 : decode cX12_replace 0 = .ok (.aload_n 0, 1) := by decide +kernel
theorem dX12_replace_1 : decode cX12_replace 1 = .ok (.iconst 0, 1) := by decide +kernel
theorem dX12_replace_2 : decode cX12_replace 2 = .ok (.putfield 203, 3) := by decide +kernel
theorem dX12_replace_5 : decode cX12_replace 5 = .ok (.aload_n 0, 1) := by decide +kernel
theorem dX12_replace_6 : decode cX12_replace 6 = .ok (.iload_n 1, 1) := by decide +kernel
theorem dX12_replace_7 : decode cX12_replace 7 = .ok (.invokevirtual 474, 3) := by decide +kernel
theorem dX12_replace_10 : decode cX12_replace 10 = .ok (.ifCond .eq 19, 3) := by decide +kernel
theorem dX12_replace_29 : decode cX12_replace 29 = .ok (.aload_n 0, 1) := by decide +kernel
theorem dX12_replace_30 : decode cX12_replace 30 = .ok (.iconst 1, 1) := by decide +kernel
theorem dX12_replace_31 : decode cX12_replace 31 = .ok (.invokevirtual 248, 3) := by decide +kernel
theorem dX12_replace_34 : decode cX12_replace 34 = .ok (.ireturn, 1) := by decide +kernel
theorem dX12_ruleCount_0 : decode cX12_ruleCount 0 = .ok (.aload_n 0, 1) := by decide +kernel
theorem dX12_ruleCount_1 : decode cX12_ruleCount 1 = .ok (.iconst 0, 1) := by decide +kernel
theorem dX12_ruleCount_2 : decode cX12_ruleCount 2 = .ok (.putfield 203, 3) := by decide +kernel
theorem dX12_ruleCount_5 : decode cX12_ruleCount 5 = .ok (.aload_n 0, 1) := by decide +kernel
theorem dX12_ruleCount_6 : decode cX12_ruleCount 6 = .ok (.getfield 333, 3) := by decide +kernel
theorem dX12_ruleCount_9 : decode cX12_ruleCount 9 = .ok (.ireturn, 1) := by decide +kernel
theorem dX12_ruleLeft_0 : decode cX12_ruleLeft 0 = .ok (.aload_n 0, 1) := by decide +kernel
theorem dX12_ruleLeft_1 : decode cX12_ruleLeft 1 = .ok (.iconst 0, 1) := by decide +kernel
theorem dX12_ruleLeft_2 : decode cX12_ruleLeft 2 = .ok (.putfield 203, 3) := by decide +kernel
theorem dX12_ruleLeft_5 : decode cX12_ruleLeft 5 = .ok (.iload_n 1, 1) := by decide +kernel
theorem dX12_ruleLeft_6 : decode cX12_ruleLeft 6 = .ok (.ifCond .lt 25, 3) := by decide +kernel
theorem dX12_ruleLeft_9 : decode cX12_ruleLeft 9 = .ok (.iload_n 1, 1) := by decide +kernel
theorem dX12_ruleLeft_10 : decode cX12_ruleLeft 10 = .ok (.aload_n 0, 1) := by decide +kernel
theorem dX12_ruleLeft_11 : decode cX12_ruleLeft 11 = .ok (.getfield 333, 3) := by decide +kernel
theorem dX12_ruleLeft_14 : decode cX12_ruleLeft 14 = .ok (.if_icmp .ge 17, 3) := by decide +kernel
theorem dX12_ruleLeft_31 : decode cX12_ruleLeft 31 = .ok (.aload_n 0, 1) := by decide +kernel
theorem dX12_ruleLeft_32 : decode cX12_ruleLeft 32 = .ok (.iconst 1, 1) := by decide +kernel
theorem dX12_ruleLeft_33 : decode cX12_ruleLeft 33 = .ok (.invokevirtual 248, 3) := by decide +kernel
theorem dX12_ruleLeft_36 : decode cX12_ruleLeft 36 = .ok (.ireturn, 1) := by decide +kernel
theorem dX12_ruleRight_0 : decode cX12_ruleRight 0 = .ok (.aload_n 0, 1) := by decide +kernel
theorem dX12_ruleRight_1 : decode cX12_ruleRight 1 = .ok (.iconst 0, 1) := by decide +kernel
theorem dX12_ruleRight_2 : decode cX12_ruleRight 2 = .ok (.putfield 203, 3) := by decide +kernel
theorem dX12_ruleRight_5 : decode cX12_ruleRight 5 = .ok (.iload_n 1, 1) := by decide +kernel
theorem dX12_ruleRight_6 : decode cX12_ruleRight 6 = .ok (.ifCond .lt 25, 3) := by decide +kernel
theorem dX12_ruleRight_9 : decode cX12_ruleRight 9 = .ok (.iload_n 1, 1) := by decide +kernel
theorem dX12_ruleRight_10 : decode cX12_ruleRight 10 = .ok (.aload_n 0, 1) := by decide +kernel
theorem dX12_ruleRight_11 : decode cX12_ruleRight 11 = .ok (.getfield 333, 3) := by decide +kernel
theorem dX12_ruleRight_14 : decode cX12_ruleRight 14 = .ok (.if_icmp .ge 17, 3) := by decide +kernel
theorem dX12_ruleRight_31 : decode cX12_ruleRight 31 = .ok (.aload_n 0, 1) := by decide +kernel
theorem dX12_ruleRight_32 : decode cX12_ruleRight 32 = .ok (.iconst 1, 1) := by decide +kernel
theorem dX12_ruleRight_33 : decode cX12_ruleRight 33 = .ok (.invokevirtual 248, 3) := by decide +kernel
theorem dX12_ruleRight_36 : decode cX12_ruleRight 36 = .ok (.ireturn, 1) := by decide +kernel
theorem dX12_separate_0 : decode cX12_separate 0 = .ok (.aload_n 0, 1) := by decide +kernel
theorem dX12_separate_1 : decode cX12_separate 1 = .ok (.iconst 0, 1) := by decide +kernel
theorem dX12_separate_2 : decode cX12_separate 2 = .ok (.putfield 203, 3) := by decide +kernel
theorem dX12_separate_5 : decode cX12_separate 5 = .ok (.aload_n 0, 1) := by decide +kernel
theorem dX12_separate_6 : decode cX12_separate 6 = .ok (.iload_n 1, 1) := by decide +kernel
theorem dX12_separate_7 : decode cX12_separate 7 = .ok (.invokevirtual 474, 3) := by decide +kernel
theorem dX12_separate_10 : decode cX12_separate 10 = .ok (.ifCond .eq 11, 3) := by decide +kernel
theorem dX12_separate_21 : decode cX12_separate 21 = .ok (.aload_n 0, 1) := by decide +kernel
theorem dX12_separate_22 : decode cX12_separate 22 = .ok (.iconst 1, 1) := by decide +kernel
theorem dX12_separate_23 : decode cX12_separate 23 = .ok (.invokevirtual 248, 3) := by decide +kernel
theorem dX12_separate_26 : decode cX12_separate 26 = .ok (.ireturn, 1) := by decide +kernel
theorem dX12_separationCount_0 : decode cX12_separationCount 0 = .ok (.aload_n 0, 1) := by decide +kernel
theorem dX12_separationCount_1 : decode cX12_separationCount 1 = .ok (.iconst 0, 1) := by decide +kernel
theorem dX12_separationCount_2 : decode cX12_separationCount 2 = .ok (.putfield 203, 3) := by decide +kernel
theorem dX12_separationCount_5 : decode cX12_separationCount 5 = .ok (.aload_n 0, 1) := by decide +kernel
theorem dX12_separationCount_6 : decode cX12_separationCount 6 = .ok (.getfield 489, 3) := by decide +kernel
theorem dX12_separationCount_9 : decode cX12_separationCount 9 = .ok (.ireturn, 1) := by decide +kernel
theorem dX12_setDirection_0 : decode cX12_setDirection 0 = .ok (.aload_n 0, 1) := by decide +kernel
theorem dX12_setDirection_1 : decode cX12_setDirection 1 = .ok (.iconst 0, 1) := by decide +kernel
theorem dX12_setDirection_2 : decode cX12_setDirection 2 = .ok (.putfield 203, 3) := by decide +kernel
theorem dX12_setDirection_5 : decode cX12_setDirection 5 = .ok (.aload_n 0, 1) := by decide +kernel
theorem dX12_setDirection_6 : decode cX12_setDirection 6 = .ok (.iload_n 1, 1) := by decide +kernel
theorem dX12_setDirection_7 : decode cX12_setDirection 7 = .ok (.invokevirtual 471, 3) := by decide +kernel
theorem dX12_setDirection_10 : decode cX12_setDirection 10 = .ok (.ifCond .ne 17, 3) := by decide +kernel
theorem dX12_setDirection_13 : decode cX12_setDirection 13 = .ok (.aload_n 0, 1) := by decide +kernel
theorem dX12_setDirection_14 : decode cX12_setDirection 14 = .ok (.iconst 1, 1) := by decide +kernel
theorem dX12_setDirection_15 : decode cX12_setDirection 15 = .ok (.invokevirtual 248, 3) := by decide +kernel
theorem dX12_setDirection_18 : decode cX12_setDirection 18 = .ok (.ifCond .eq 7, 3) := by decide +kernel
theorem dX12_setDirection_25 : decode cX12_setDirection 25 = .ok (.iconst 0, 1) := by decide +kernel
theorem dX12_setDirection_26 : decode cX12_setDirection 26 = .ok (.ireturn, 1) := by decide +kernel
theorem dX12_size_0 : decode cX12_size 0 = .ok (.aload_n 0, 1) := by decide +kernel
theorem dX12_size_1 : decode cX12_size 1 = .ok (.iconst 0, 1) := by decide +kernel
theorem dX12_size_2 : decode cX12_size 2 = .ok (.putfield 203, 3) := by decide +kernel
theorem dX12_size_5 : decode cX12_size 5 = .ok (.aload_n 0, 1) := by decide +kernel
theorem dX12_size_6 : decode cX12_size 6 = .ok (.iload_n 1, 1) := by decide +kernel
theorem dX12_size_7 : decode cX12_size 7 = .ok (.invokevirtual 474, 3) := by decide +kernel
theorem dX12_size_10 : decode cX12_size 10 = .ok (.ifCond .eq 17, 3) := by decide +kernel
theorem dX12_size_27 : decode cX12_size 27 = .ok (.aload_n 0, 1) := by decide +kernel
theorem dX12_size_28 : decode cX12_size 28 = .ok (.iconst 1, 1) := by decide +kernel
theorem dX12_size_29 : decode cX12_size 29 = .ok (.invokevirtual 248, 3) := by decide +kernel
theorem dX12_size_32 : decode cX12_size 32 = .ok (.ireturn, 1) := by decide +kernel
theorem dX12_smallest_0 : decode cX12_smallest 0 = .ok (.aload_n 0, 1) := by decide +kernel
theorem dX12_smallest_1 : decode cX12_smallest 1 = .ok (.iconst 0, 1) := by decide +kernel
theorem dX12_smallest_2 : decode cX12_smallest 2 = .ok (.putfield 203, 3) := by decide +kernel
theorem dX12_smallest_5 : decode cX12_smallest 5 = .ok (.aload_n 0, 1) := by decide +kernel
theorem dX12_smallest_6 : decode cX12_smallest 6 = .ok (.iload_n 1, 1) := by decide +kernel
theorem dX12_smallest_7 : decode cX12_smallest 7 = .ok (.invokevirtual 474, 3) := by decide +kernel
theorem dX12_smallest_10 : decode cX12_smallest 10 = .ok (.ifCond .eq 25, 3) := by decide +kernel
theorem dX12_smallest_35 : decode cX12_smallest 35 = .ok (.aload_n 0, 1) := by decide +kernel
theorem dX12_smallest_36 : decode cX12_smallest 36 = .ok (.iconst 1, 1) := by decide +kernel
theorem dX12_smallest_37 : decode cX12_smallest 37 = .ok (.invokevirtual 248, 3) := by decide +kernel
theorem dX12_smallest_40 : decode cX12_smallest 40 = .ok (.ireturn, 1) := by decide +kernel
theorem dX12_solution_0 : decode cX12_solution 0 = .ok (.aload_n 0, 1) := by decide +kernel
theorem dX12_solution_1 : decode cX12_solution 1 = .ok (.iconst 0, 1) := by decide +kernel
theorem dX12_solution_2 : decode cX12_solution 2 = .ok (.putfield 203, 3) := by decide +kernel
theorem dX12_solution_5 : decode cX12_solution 5 = .ok (.iload_n 1, 1) := by decide +kernel
theorem dX12_solution_6 : decode cX12_solution 6 = .ok (.ifCond .lt 19, 3) := by decide +kernel
theorem dX12_solution_9 : decode cX12_solution 9 = .ok (.iload_n 1, 1) := by decide +kernel
theorem dX12_solution_10 : decode cX12_solution 10 = .ok (.aload_n 0, 1) := by decide +kernel
theorem dX12_solution_11 : decode cX12_solution 11 = .ok (.getfield 528, 3) := by decide +kernel
theorem dX12_solution_14 : decode cX12_solution 14 = .ok (.if_icmp .ge 11, 3) := by decide +kernel
theorem dX12_solution_25 : decode cX12_solution 25 = .ok (.aload_n 0, 1) := by decide +kernel
theorem dX12_solution_26 : decode cX12_solution 26 = .ok (.iconst 1, 1) := by decide +kernel
theorem dX12_solution_27 : decode cX12_solution 27 = .ok (.invokevirtual 248, 3) := by decide +kernel
theorem dX12_solution_30 : decode cX12_solution 30 = .ok (.ireturn, 1) := by decide +kernel
theorem dX12_stepCount_0 : decode cX12_stepCount 0 = .ok (.aload_n 0, 1) := by decide +kernel
theorem dX12_stepCount_1 : decode cX12_stepCount 1 = .ok (.iconst 0, 1) := by decide +kernel
theorem dX12_stepCount_2 : decode cX12_stepCount 2 = .ok (.putfield 203, 3) := by decide +kernel
theorem dX12_stepCount_5 : decode cX12_stepCount 5 = .ok (.aload_n 0, 1) := by decide +kernel
theorem dX12_stepCount_6 : decode cX12_stepCount 6 = .ok (.iload_n 1, 1) := by decide +kernel
theorem dX12_stepCount_7 : decode cX12_stepCount 7 = .ok (.invokevirtual 474, 3) := by decide +kernel
theorem dX12_stepCount_10 : decode cX12_stepCount 10 = .ok (.ifCond .ne 9, 3) := by decide +kernel
theorem dX12_stepCount_13 : decode cX12_stepCount 13 = .ok (.aload_n 0, 1) := by decide +kernel
theorem dX12_stepCount_14 : decode cX12_stepCount 14 = .ok (.iconst 1, 1) := by decide +kernel
theorem dX12_stepCount_15 : decode cX12_stepCount 15 = .ok (.invokevirtual 248, 3) := by decide +kernel
theorem dX12_stepCount_18 : decode cX12_stepCount 18 = .ok (.ireturn, 1) := by decide +kernel
theorem dX12_symbolCount_0 : decode cX12_symbolCount 0 = .ok (.aload_n 0, 1) := by decide +kernel
theorem dX12_symbolCount_1 : decode cX12_symbolCount 1 = .ok (.iconst 0, 1) := by decide +kernel
theorem dX12_symbolCount_2 : decode cX12_symbolCount 2 = .ok (.putfield 203, 3) := by decide +kernel
theorem dX12_symbolCount_5 : decode cX12_symbolCount 5 = .ok (.aload_n 0, 1) := by decide +kernel
theorem dX12_symbolCount_6 : decode cX12_symbolCount 6 = .ok (.getfield 392, 3) := by decide +kernel
theorem dX12_symbolCount_9 : decode cX12_symbolCount 9 = .ok (.ireturn, 1) := by decide +kernel
theorem dX12_symbolOf_0 : decode cX12_symbolOf 0 = .ok (.aload_n 0, 1) := by decide +kernel
theorem dX12_symbolOf_1 : decode cX12_symbolOf 1 = .ok (.iconst 0, 1) := by decide +kernel
theorem dX12_symbolOf_2 : decode cX12_symbolOf 2 = .ok (.putfield 203, 3) := by decide +kernel
theorem dX12_symbolOf_5 : decode cX12_symbolOf 5 = .ok (.aload_n 0, 1) := by decide +kernel
theorem dX12_symbolOf_6 : decode cX12_symbolOf 6 = .ok (.iload_n 1, 1) := by decide +kernel
theorem dX12_symbolOf_7 : decode cX12_symbolOf 7 = .ok (.invokevirtual 474, 3) := by decide +kernel
theorem dX12_symbolOf_10 : decode cX12_symbolOf 10 = .ok (.ifCond .eq 17, 3) := by decide +kernel
theorem dX12_symbolOf_27 : decode cX12_symbolOf 27 = .ok (.aload_n 0, 1) := by decide +kernel
theorem dX12_symbolOf_28 : decode cX12_symbolOf 28 = .ok (.iconst 1, 1) := by decide +kernel
theorem dX12_symbolOf_29 : decode cX12_symbolOf 29 = .ok (.invokevirtual 248, 3) := by decide +kernel
theorem dX12_symbolOf_32 : decode cX12_symbolOf 32 = .ok (.ireturn, 1) := by decide +kernel
theorem dX12_term_0 : decode cX12_term 0 = .ok (.aload_n 0, 1) := by decide +kernel
theorem dX12_term_1 : decode cX12_term 1 = .ok (.iconst 0, 1) := by decide +kernel
theorem dX12_term_2 : decode cX12_term 2 = .ok (.putfield 203, 3) := by decide +kernel
theorem dX12_term_5 : decode cX12_term 5 = .ok (.aload_n 0, 1) := by decide +kernel
theorem dX12_term_6 : decode cX12_term 6 = .ok (.iload_n 1, 1) := by decide +kernel
theorem dX12_term_7 : decode cX12_term 7 = .ok (.invokevirtual 471, 3) := by decide +kernel
theorem dX12_term_10 : decode cX12_term 10 = .ok (.ifCond .ne 9, 3) := by decide +kernel
theorem dX12_term_13 : decode cX12_term 13 = .ok (.aload_n 0, 1) := by decide +kernel
theorem dX12_term_14 : decode cX12_term 14 = .ok (.iconst 1, 1) := by decide +kernel
theorem dX12_term_15 : decode cX12_term 15 = .ok (.invokevirtual 248, 3) := by decide +kernel
theorem dX12_term_18 : decode cX12_term 18 = .ok (.ireturn, 1) := by decide +kernel
theorem dX12_termCount_0 : decode cX12_termCount 0 = .ok (.aload_n 0, 1) := by decide +kernel
theorem dX12_termCount_1 : decode cX12_termCount 1 = .ok (.iconst 0, 1) := by decide +kernel
theorem dX12_termCount_2 : decode cX12_termCount 2 = .ok (.putfield 203, 3) := by decide +kernel
theorem dX12_termCount_5 : decode cX12_termCount 5 = .ok (.aload_n 0, 1) := by decide +kernel
theorem dX12_termCount_6 : decode cX12_termCount 6 = .ok (.getfield 241, 3) := by decide +kernel
theorem dX12_termCount_9 : decode cX12_termCount 9 = .ok (.ireturn, 1) := by decide +kernel
theorem dX12_thrown_0 : decode cX12_thrown 0 = .ok (.aload_n 0, 1) := by decide +kernel
theorem dX12_thrown_1 : decode cX12_thrown 1 = .ok (.getfield 203, 3) := by decide +kernel
theorem dX12_thrown_4 : decode cX12_thrown 4 = .ok (.ireturn, 1) := by decide +kernel
theorem dX12_trim_0 : decode cX12_trim 0 = .ok (.aload_n 0, 1) := by decide +kernel
theorem dX12_trim_1 : decode cX12_trim 1 = .ok (.iconst 0, 1) := by decide +kernel
theorem dX12_trim_2 : decode cX12_trim 2 = .ok (.putfield 203, 3) := by decide +kernel
theorem dX12_trim_5 : decode cX12_trim 5 = .ok (.iload_n 1, 1) := by decide +kernel
theorem dX12_trim_6 : decode cX12_trim 6 = .ok (.ifCond .lt 11, 3) := by decide +kernel
theorem dX12_trim_9 : decode cX12_trim 9 = .ok (.iload_n 1, 1) := by decide +kernel
theorem dX12_trim_10 : decode cX12_trim 10 = .ok (.aload_n 0, 1) := by decide +kernel
theorem dX12_trim_11 : decode cX12_trim 11 = .ok (.getfield 430, 3) := by decide +kernel
theorem dX12_trim_14 : decode cX12_trim 14 = .ok (.if_icmp .le 9, 3) := by decide +kernel
theorem dX12_trim_17 : decode cX12_trim 17 = .ok (.aload_n 0, 1) := by decide +kernel
theorem dX12_trim_18 : decode cX12_trim 18 = .ok (.iconst 1, 1) := by decide +kernel
theorem dX12_trim_19 : decode cX12_trim 19 = .ok (.invokevirtual 248, 3) := by decide +kernel
theorem dX12_trim_22 : decode cX12_trim 22 = .ok (.ireturn, 1) := by decide +kernel
theorem dX12_trim_23 : decode cX12_trim 23 = .ok (.aload_n 0, 1) := by decide +kernel
theorem dX12_trim_24 : decode cX12_trim 24 = .ok (.iload_n 1, 1) := by decide +kernel
theorem dX12_trim_25 : decode cX12_trim 25 = .ok (.putfield 430, 3) := by decide +kernel
theorem dX12_trim_28 : decode cX12_trim 28 = .ok (.iload_n 1, 1) := by decide +kernel
theorem dX12_trim_29 : decode cX12_trim 29 = .ok (.ireturn, 1) := by decide +kernel
theorem dX12_write_0 : decode cX12_write 0 = .ok (.aload_n 0, 1) := by decide +kernel
theorem dX12_write_1 : decode cX12_write 1 = .ok (.iconst 0, 1) := by decide +kernel
theorem dX12_write_2 : decode cX12_write 2 = .ok (.putfield 203, 3) := by decide +kernel
theorem dX12_write_5 : decode cX12_write 5 = .ok (.aload_n 0, 1) := by decide +kernel
theorem dX12_write_6 : decode cX12_write 6 = .ok (.iload_n 1, 1) := by decide +kernel
theorem dX12_write_7 : decode cX12_write 7 = .ok (.invokevirtual 474, 3) := by decide +kernel
theorem dX12_write_10 : decode cX12_write 10 = .ok (.ifCond .ne 9, 3) := by decide +kernel
theorem dX12_write_13 : decode cX12_write 13 = .ok (.aload_n 0, 1) := by decide +kernel
theorem dX12_write_14 : decode cX12_write 14 = .ok (.iconst 1, 1) := by decide +kernel
theorem dX12_write_15 : decode cX12_write 15 = .ok (.invokevirtual 248, 3) := by decide +kernel
theorem dX12_write_18 : decode cX12_write 18 = .ok (.ireturn, 1) := by decide +kernel
theorem dX1_init_0 : decode cX1_init 0 = .ok (.aload_n 0, 1) := by decide +kernel
theorem dX1_init_1 : decode cX1_init 1 = .ok (.invokespecial 3, 3) := by decide +kernel
theorem dX1_init_4 : decode cX1_init 4 = .ok (.aload_n 0, 1) := by decide +kernel
theorem dX1_init_5 : decode cX1_init 5 = .ok (.new 9, 3) := by decide +kernel
theorem dX1_init_8 : decode cX1_init 8 = .ok (.dup, 1) := by decide +kernel
theorem dX1_init_9 : decode cX1_init 9 = .ok (.ldc 11, 2) := by decide +kernel
theorem dX1_init_11 : decode cX1_init 11 = .ok (.invokespecial 12, 3) := by decide +kernel
theorem dX1_init_14 : decode cX1_init 14 = .ok (.putfield 15, 3) := by decide +kernel
theorem dX1_init_17 : decode cX1_init 17 = .ok (.aload_n 0, 1) := by decide +kernel
theorem dX1_init_18 : decode cX1_init 18 = .ok (.new 9, 3) := by decide +kernel
theorem dX1_init_21 : decode cX1_init 21 = .ok (.dup, 1) := by decide +kernel
theorem dX1_init_22 : decode cX1_init 22 = .ok (.ldc 11, 2) := by decide +kernel
theorem dX1_init_24 : decode cX1_init 24 = .ok (.invokespecial 12, 3) := by decide +kernel
theorem dX1_init_27 : decode cX1_init 27 = .ok (.putfield 21, 3) := by decide +kernel
theorem dX1_init_30 : decode cX1_init 30 = .ok (.aload_n 0, 1) := by decide +kernel
theorem dX1_init_31 : decode cX1_init 31 = .ok (.new 9, 3) := by decide +kernel
theorem dX1_init_34 : decode cX1_init 34 = .ok (.dup, 1) := by decide +kernel
theorem dX1_init_35 : decode cX1_init 35 = .ok (.ldc 11, 2) := by decide +kernel
theorem dX1_init_37 : decode cX1_init 37 = .ok (.invokespecial 12, 3) := by decide +kernel
theorem dX1_init_40 : decode cX1_init 40 = .ok (.putfield 24, 3) := by decide +kernel
theorem dX1_init_43 : decode cX1_init 43 = .ok (.aload_n 0, 1) := by decide +kernel
theorem dX1_init_44 : decode cX1_init 44 = .ok (.new 9, 3) := by decide +kernel
theorem dX1_init_47 : decode cX1_init 47 = .ok (.dup, 1) := by decide +kernel
theorem dX1_init_48 : decode cX1_init 48 = .ok (.ldc 11, 2) := by decide +kernel
theorem dX1_init_50 : decode cX1_init 50 = .ok (.invokespecial 12, 3) := by decide +kernel
theorem dX1_init_53 : decode cX1_init 53 = .ok (.putfield 27, 3) := by decide +kernel
theorem dX1_init_56 : decode cX1_init 56 = .ok (.aload_n 0, 1) := by decide +kernel
theorem dX1_init_57 : decode cX1_init 57 = .ok (.new 9, 3) := by decide +kernel
theorem dX1_init_60 : decode cX1_init 60 = .ok (.dup, 1) := by decide +kernel
theorem dX1_init_61 : decode cX1_init 61 = .ok (.ldc 11, 2) := by decide +kernel
theorem dX1_init_63 : decode cX1_init 63 = .ok (.invokespecial 12, 3) := by decide +kernel
theorem dX1_init_66 : decode cX1_init 66 = .ok (.putfield 30, 3) := by decide +kernel
theorem dX1_init_69 : decode cX1_init 69 = .ok (.aload_n 0, 1) := by decide +kernel
theorem dX1_init_70 : decode cX1_init 70 = .ok (.new 9, 3) := by decide +kernel
theorem dX1_init_73 : decode cX1_init 73 = .ok (.dup, 1) := by decide +kernel
theorem dX1_init_74 : decode cX1_init 74 = .ok (.ldc 33, 2) := by decide +kernel
theorem dX1_init_76 : decode cX1_init 76 = .ok (.invokespecial 12, 3) := by decide +kernel
theorem dX1_init_79 : decode cX1_init 79 = .ok (.putfield 34, 3) := by decide +kernel
theorem dX1_init_82 : decode cX1_init 82 = .ok (.aload_n 0, 1) := by decide +kernel
theorem dX1_init_83 : decode cX1_init 83 = .ok (.new 9, 3) := by decide +kernel
theorem dX1_init_86 : decode cX1_init 86 = .ok (.dup, 1) := by decide +kernel
theorem dX1_init_87 : decode cX1_init 87 = .ok (.sipush 16384, 3) := by decide +kernel
theorem dX1_init_90 : decode cX1_init 90 = .ok (.invokespecial 12, 3) := by decide +kernel
theorem dX1_init_93 : decode cX1_init 93 = .ok (.putfield 37, 3) := by decide +kernel
theorem dX1_init_96 : decode cX1_init 96 = .ok (.aload_n 0, 1) := by decide +kernel
theorem dX1_init_97 : decode cX1_init 97 = .ok (.new 9, 3) := by decide +kernel
theorem dX1_init_100 : decode cX1_init 100 = .ok (.dup, 1) := by decide +kernel
theorem dX1_init_101 : decode cX1_init 101 = .ok (.ldc 11, 2) := by decide +kernel
theorem dX1_init_103 : decode cX1_init 103 = .ok (.invokespecial 12, 3) := by decide +kernel
theorem dX1_init_106 : decode cX1_init 106 = .ok (.putfield 40, 3) := by decide +kernel
theorem dX1_init_109 : decode cX1_init 109 = .ok (.aload_n 0, 1) := by decide +kernel
theorem dX1_init_110 : decode cX1_init 110 = .ok (.aload_n 1, 1) := by decide +kernel
theorem dX1_init_111 : decode cX1_init 111 = .ok (.putfield 43, 3) := by decide +kernel
theorem dX1_init_114 : decode cX1_init 114 = .ok (.aload_n 0, 1) := by decide +kernel
theorem dX1_init_115 : decode cX1_init 115 = .ok (.aload_n 2, 1) := by decide +kernel
theorem dX1_init_116 : decode cX1_init 116 = .ok (.putfield 47, 3) := by decide +kernel
theorem dX1_init_119 : decode cX1_init 119 = .ok (.return_, 1) := by decide +kernel
theorem dX2_init_0 : decode cX2_init 0 = .ok (.aload_n 0, 1) := by decide +kernel
theorem dX2_init_1 : decode cX2_init 1 = .ok (.invokespecial 3, 3) := by decide +kernel
theorem dX2_init_4 : decode cX2_init 4 = .ok (.aload_n 0, 1) := by decide +kernel
theorem dX2_init_5 : decode cX2_init 5 = .ok (.new 9, 3) := by decide +kernel
theorem dX2_init_8 : decode cX2_init 8 = .ok (.dup, 1) := by decide +kernel
theorem dX2_init_9 : decode cX2_init 9 = .ok (.ldc 11, 2) := by decide +kernel
theorem dX2_init_11 : decode cX2_init 11 = .ok (.invokespecial 12, 3) := by decide +kernel
theorem dX2_init_14 : decode cX2_init 14 = .ok (.putfield 15, 3) := by decide +kernel
theorem dX2_init_17 : decode cX2_init 17 = .ok (.aload_n 0, 1) := by decide +kernel
theorem dX2_init_18 : decode cX2_init 18 = .ok (.new 9, 3) := by decide +kernel
theorem dX2_init_21 : decode cX2_init 21 = .ok (.dup, 1) := by decide +kernel
theorem dX2_init_22 : decode cX2_init 22 = .ok (.ldc 11, 2) := by decide +kernel
theorem dX2_init_24 : decode cX2_init 24 = .ok (.invokespecial 12, 3) := by decide +kernel
theorem dX2_init_27 : decode cX2_init 27 = .ok (.putfield 21, 3) := by decide +kernel
theorem dX2_init_30 : decode cX2_init 30 = .ok (.aload_n 0, 1) := by decide +kernel
theorem dX2_init_31 : decode cX2_init 31 = .ok (.new 9, 3) := by decide +kernel
theorem dX2_init_34 : decode cX2_init 34 = .ok (.dup, 1) := by decide +kernel
theorem dX2_init_35 : decode cX2_init 35 = .ok (.ldc 24, 2) := by decide +kernel
theorem dX2_init_37 : decode cX2_init 37 = .ok (.invokespecial 12, 3) := by decide +kernel
theorem dX2_init_40 : decode cX2_init 40 = .ok (.putfield 25, 3) := by decide +kernel
theorem dX2_init_43 : decode cX2_init 43 = .ok (.aload_n 0, 1) := by decide +kernel
theorem dX2_init_44 : decode cX2_init 44 = .ok (.new 9, 3) := by decide +kernel
theorem dX2_init_47 : decode cX2_init 47 = .ok (.dup, 1) := by decide +kernel
theorem dX2_init_48 : decode cX2_init 48 = .ok (.ldc 11, 2) := by decide +kernel
theorem dX2_init_50 : decode cX2_init 50 = .ok (.invokespecial 12, 3) := by decide +kernel
theorem dX2_init_53 : decode cX2_init 53 = .ok (.putfield 28, 3) := by decide +kernel
theorem dX2_init_56 : decode cX2_init 56 = .ok (.aload_n 0, 1) := by decide +kernel
theorem dX2_init_57 : decode cX2_init 57 = .ok (.new 9, 3) := by decide +kernel
theorem dX2_init_60 : decode cX2_init 60 = .ok (.dup, 1) := by decide +kernel
theorem dX2_init_61 : decode cX2_init 61 = .ok (.ldc 11, 2) := by decide +kernel
theorem dX2_init_63 : decode cX2_init 63 = .ok (.invokespecial 12, 3) := by decide +kernel
theorem dX2_init_66 : decode cX2_init 66 = .ok (.putfield 31, 3) := by decide +kernel
theorem dX2_init_69 : decode cX2_init 69 = .ok (.aload_n 0, 1) := by decide +kernel
theorem dX2_init_70 : decode cX2_init 70 = .ok (.new 9, 3) := by decide +kernel
theorem dX2_init_73 : decode cX2_init 73 = .ok (.dup, 1) := by decide +kernel
theorem dX2_init_74 : decode cX2_init 74 = .ok (.ldc 24, 2) := by decide +kernel
theorem dX2_init_76 : decode cX2_init 76 = .ok (.invokespecial 12, 3) := by decide +kernel
theorem dX2_init_79 : decode cX2_init 79 = .ok (.putfield 34, 3) := by decide +kernel
theorem dX2_init_82 : decode cX2_init 82 = .ok (.aload_n 0, 1) := by decide +kernel
theorem dX2_init_83 : decode cX2_init 83 = .ok (.new 9, 3) := by decide +kernel
theorem dX2_init_86 : decode cX2_init 86 = .ok (.dup, 1) := by decide +kernel
theorem dX2_init_87 : decode cX2_init 87 = .ok (.ldc 11, 2) := by decide +kernel
theorem dX2_init_89 : decode cX2_init 89 = .ok (.invokespecial 12, 3) := by decide +kernel
theorem dX2_init_92 : decode cX2_init 92 = .ok (.putfield 37, 3) := by decide +kernel
theorem dX2_init_95 : decode cX2_init 95 = .ok (.aload_n 0, 1) := by decide +kernel
theorem dX2_init_96 : decode cX2_init 96 = .ok (.new 9, 3) := by decide +kernel
theorem dX2_init_99 : decode cX2_init 99 = .ok (.dup, 1) := by decide +kernel
theorem dX2_init_100 : decode cX2_init 100 = .ok (.ldc 11, 2) := by decide +kernel
theorem dX2_init_102 : decode cX2_init 102 = .ok (.invokespecial 12, 3) := by decide +kernel
theorem dX2_init_105 : decode cX2_init 105 = .ok (.putfield 40, 3) := by decide +kernel
theorem dX2_init_108 : decode cX2_init 108 = .ok (.aload_n 0, 1) := by decide +kernel
theorem dX2_init_109 : decode cX2_init 109 = .ok (.new 9, 3) := by decide +kernel
theorem dX2_init_112 : decode cX2_init 112 = .ok (.dup, 1) := by decide +kernel
theorem dX2_init_113 : decode cX2_init 113 = .ok (.ldc 11, 2) := by decide +kernel
theorem dX2_init_115 : decode cX2_init 115 = .ok (.invokespecial 12, 3) := by decide +kernel
theorem dX2_init_118 : decode cX2_init 118 = .ok (.putfield 43, 3) := by decide +kernel
theorem dX2_init_121 : decode cX2_init 121 = .ok (.aload_n 0, 1) := by decide +kernel
theorem dX2_init_122 : decode cX2_init 122 = .ok (.new 9, 3) := by decide +kernel
theorem dX2_init_125 : decode cX2_init 125 = .ok (.dup, 1) := by decide +kernel
theorem dX2_init_126 : decode cX2_init 126 = .ok (.ldc 11, 2) := by decide +kernel
theorem dX2_init_128 : decode cX2_init 128 = .ok (.invokespecial 12, 3) := by decide +kernel
theorem dX2_init_131 : decode cX2_init 131 = .ok (.putfield 46, 3) := by decide +kernel
theorem dX2_init_134 : decode cX2_init 134 = .ok (.aload_n 0, 1) := by decide +kernel
theorem dX2_init_135 : decode cX2_init 135 = .ok (.new 9, 3) := by decide +kernel
theorem dX2_init_138 : decode cX2_init 138 = .ok (.dup, 1) := by decide +kernel
theorem dX2_init_139 : decode cX2_init 139 = .ok (.ldc 11, 2) := by decide +kernel
theorem dX2_init_141 : decode cX2_init 141 = .ok (.invokespecial 12, 3) := by decide +kernel
theorem dX2_init_144 : decode cX2_init 144 = .ok (.putfield 49, 3) := by decide +kernel
theorem dX2_init_147 : decode cX2_init 147 = .ok (.aload_n 0, 1) := by decide +kernel
theorem dX2_init_148 : decode cX2_init 148 = .ok (.new 9, 3) := by decide +kernel
theorem dX2_init_151 : decode cX2_init 151 = .ok (.dup, 1) := by decide +kernel
theorem dX2_init_152 : decode cX2_init 152 = .ok (.ldc 11, 2) := by decide +kernel
theorem dX2_init_154 : decode cX2_init 154 = .ok (.invokespecial 12, 3) := by decide +kernel
theorem dX2_init_157 : decode cX2_init 157 = .ok (.putfield 52, 3) := by decide +kernel
theorem dX2_init_160 : decode cX2_init 160 = .ok (.aload_n 0, 1) := by decide +kernel
theorem dX2_init_161 : decode cX2_init 161 = .ok (.new 9, 3) := by decide +kernel
theorem dX2_init_164 : decode cX2_init 164 = .ok (.dup, 1) := by decide +kernel
theorem dX2_init_165 : decode cX2_init 165 = .ok (.ldc 11, 2) := by decide +kernel
theorem dX2_init_167 : decode cX2_init 167 = .ok (.invokespecial 12, 3) := by decide +kernel
theorem dX2_init_170 : decode cX2_init 170 = .ok (.putfield 55, 3) := by decide +kernel
theorem dX2_init_173 : decode cX2_init 173 = .ok (.aload_n 0, 1) := by decide +kernel
theorem dX2_init_174 : decode cX2_init 174 = .ok (.new 9, 3) := by decide +kernel
theorem dX2_init_177 : decode cX2_init 177 = .ok (.dup, 1) := by decide +kernel
theorem dX2_init_178 : decode cX2_init 178 = .ok (.ldc 11, 2) := by decide +kernel
theorem dX2_init_180 : decode cX2_init 180 = .ok (.invokespecial 12, 3) := by decide +kernel
theorem dX2_init_183 : decode cX2_init 183 = .ok (.putfield 58, 3) := by decide +kernel
theorem dX2_init_186 : decode cX2_init 186 = .ok (.aload_n 0, 1) := by decide +kernel
theorem dX2_init_187 : decode cX2_init 187 = .ok (.aload_n 1, 1) := by decide +kernel
theorem dX2_init_188 : decode cX2_init 188 = .ok (.putfield 61, 3) := by decide +kernel
theorem dX2_init_191 : decode cX2_init 191 = .ok (.return_, 1) := by decide +kernel
theorem dX3_init_0 : decode cX3_init 0 = .ok (.aload_n 0, 1) := by decide +kernel
theorem dX3_init_1 : decode cX3_init 1 = .ok (.invokespecial 5, 3) := by decide +kernel
theorem dX3_init_4 : decode cX3_init 4 = .ok (.aload_n 0, 1) := by decide +kernel
theorem dX3_init_5 : decode cX3_init 5 = .ok (.new 11, 3) := by decide +kernel
theorem dX3_init_8 : decode cX3_init 8 = .ok (.dup, 1) := by decide +kernel
theorem dX3_init_9 : decode cX3_init 9 = .ok (.sipush 1503, 3) := by decide +kernel
theorem dX3_init_12 : decode cX3_init 12 = .ok (.invokespecial 13, 3) := by decide +kernel
theorem dX3_init_15 : decode cX3_init 15 = .ok (.putfield 16, 3) := by decide +kernel
theorem dX3_init_18 : decode cX3_init 18 = .ok (.aload_n 0, 1) := by decide +kernel
theorem dX3_init_19 : decode cX3_init 19 = .ok (.new 11, 3) := by decide +kernel
theorem dX3_init_22 : decode cX3_init 22 = .ok (.dup, 1) := by decide +kernel
theorem dX3_init_23 : decode cX3_init 23 = .ok (.sipush 1503, 3) := by decide +kernel
theorem dX3_init_26 : decode cX3_init 26 = .ok (.invokespecial 13, 3) := by decide +kernel
theorem dX3_init_29 : decode cX3_init 29 = .ok (.putfield 20, 3) := by decide +kernel
theorem dX3_init_32 : decode cX3_init 32 = .ok (.aload_n 0, 1) := by decide +kernel
theorem dX3_init_33 : decode cX3_init 33 = .ok (.iconst 3, 1) := by decide +kernel
theorem dX3_init_34 : decode cX3_init 34 = .ok (.newarray .int, 2) := by decide +kernel
theorem dX3_init_36 : decode cX3_init 36 = .ok (.putfield 23, 3) := by decide +kernel
theorem dX3_init_39 : decode cX3_init 39 = .ok (.aload_n 0, 1) := by decide +kernel
theorem dX3_init_40 : decode cX3_init 40 = .ok (.bipush 12, 2) := by decide +kernel
theorem dX3_init_42 : decode cX3_init 42 = .ok (.newarray .int, 2) := by decide +kernel
theorem dX3_init_44 : decode cX3_init 44 = .ok (.putfield 27, 3) := by decide +kernel
theorem dX3_init_47 : decode cX3_init 47 = .ok (.aload_n 0, 1) := by decide +kernel
theorem dX3_init_48 : decode cX3_init 48 = .ok (.bipush 12, 2) := by decide +kernel
theorem dX3_init_50 : decode cX3_init 50 = .ok (.newarray .int, 2) := by decide +kernel
theorem dX3_init_52 : decode cX3_init 52 = .ok (.putfield 30, 3) := by decide +kernel
theorem dX3_init_55 : decode cX3_init 55 = .ok (.aload_n 0, 1) := by decide +kernel
theorem dX3_init_56 : decode cX3_init 56 = .ok (.sipush 500, 3) := by decide +kernel
theorem dX3_init_59 : decode cX3_init 59 = .ok (.newarray .long, 2) := by decide +kernel
theorem dX3_init_61 : decode cX3_init 61 = .ok (.putfield 33, 3) := by decide +kernel
theorem dX3_init_64 : decode cX3_init 64 = .ok (.aload_n 0, 1) := by decide +kernel
theorem dX3_init_65 : decode cX3_init 65 = .ok (.aload_n 1, 1) := by decide +kernel
theorem dX3_init_66 : decode cX3_init 66 = .ok (.putfield 37, 3) := by decide +kernel
theorem dX3_init_69 : decode cX3_init 69 = .ok (.aload_n 0, 1) := by decide +kernel
theorem dX3_init_70 : decode cX3_init 70 = .ok (.aload_n 2, 1) := by decide +kernel
theorem dX3_init_71 : decode cX3_init 71 = .ok (.putfield 41, 3) := by decide +kernel
theorem dX3_init_74 : decode cX3_init 74 = .ok (.aload_n 0, 1) := by decide +kernel
theorem dX3_init_75 : decode cX3_init 75 = .ok (.aload_n 3, 1) := by decide +kernel
theorem dX3_init_76 : decode cX3_init 76 = .ok (.putfield 45, 3) := by decide +kernel
theorem dX3_init_79 : decode cX3_init 79 = .ok (.aload_n 0, 1) := by decide +kernel
theorem dX3_init_80 : decode cX3_init 80 = .ok (.aload 4, 2) := by decide +kernel
theorem dX3_init_82 : decode cX3_init 82 = .ok (.putfield 49, 3) := by decide +kernel
theorem dX3_init_85 : decode cX3_init 85 = .ok (.return_, 1) := by decide +kernel
theorem dX4_init_0 : decode cX4_init 0 = .ok (.aload_n 0, 1) := by decide +kernel
theorem dX4_init_1 : decode cX4_init 1 = .ok (.invokespecial 3, 3) := by decide +kernel
theorem dX4_init_4 : decode cX4_init 4 = .ok (.aload_n 0, 1) := by decide +kernel
theorem dX4_init_5 : decode cX4_init 5 = .ok (.sipush 2000, 3) := by decide +kernel
theorem dX4_init_8 : decode cX4_init 8 = .ok (.newarray .byte, 2) := by decide +kernel
theorem dX4_init_10 : decode cX4_init 10 = .ok (.putfield 9, 3) := by decide +kernel
theorem dX4_init_13 : decode cX4_init 13 = .ok (.aload_n 0, 1) := by decide +kernel
theorem dX4_init_14 : decode cX4_init 14 = .ok (.aload_n 1, 1) := by decide +kernel
theorem dX4_init_15 : decode cX4_init 15 = .ok (.putfield 15, 3) := by decide +kernel
theorem dX4_init_18 : decode cX4_init 18 = .ok (.aload_n 0, 1) := by decide +kernel
theorem dX4_init_19 : decode cX4_init 19 = .ok (.aload_n 2, 1) := by decide +kernel
theorem dX4_init_20 : decode cX4_init 20 = .ok (.putfield 19, 3) := by decide +kernel
theorem dX4_init_23 : decode cX4_init 23 = .ok (.aload_n 0, 1) := by decide +kernel
theorem dX4_init_24 : decode cX4_init 24 = .ok (.aload_n 3, 1) := by decide +kernel
theorem dX4_init_25 : decode cX4_init 25 = .ok (.putfield 23, 3) := by decide +kernel
theorem dX4_init_28 : decode cX4_init 28 = .ok (.return_, 1) := by decide +kernel
theorem dX4_length_0 : decode cX4_length 0 = .ok (.aload_n 0, 1) := by decide +kernel
theorem dX4_length_1 : decode cX4_length 1 = .ok (.getfield 27, 3) := by decide +kernel
theorem dX4_length_4 : decode cX4_length 4 = .ok (.ireturn, 1) := by decide +kernel
theorem dX5_append_0 : decode cX5_append 0 = .ok (.bipush 24, 2) := by decide +kernel
theorem dX5_append_2 : decode cX5_append 2 = .ok (.istore_n 2, 1) := by decide +kernel
theorem dX5_append_3 : decode cX5_append 3 = .ok (.iload_n 2, 1) := by decide +kernel
theorem dX5_append_4 : decode cX5_append 4 = .ok (.ifCond .lt 49, 3) := by decide +kernel
theorem dX5_append_7 : decode cX5_append 7 = .ok (.aload_n 0, 1) := by decide +kernel
theorem dX5_append_8 : decode cX5_append 8 = .ok (.getfield 50, 3) := by decide +kernel
theorem dX5_append_11 : decode cX5_append 11 = .ok (.ifCond .lt 36, 3) := by decide +kernel
theorem dX5_append_14 : decode cX5_append 14 = .ok (.aload_n 0, 1) := by decide +kernel
theorem dX5_append_15 : decode cX5_append 15 = .ok (.getfield 50, 3) := by decide +kernel
theorem dX5_append_18 : decode cX5_append 18 = .ok (.sipush 400, 3) := by decide +kernel
theorem dX5_append_21 : decode cX5_append 21 = .ok (.if_icmp .ge 26, 3) := by decide +kernel
theorem dX5_append_24 : decode cX5_append 24 = .ok (.aload_n 0, 1) := by decide +kernel
theorem dX5_append_25 : decode cX5_append 25 = .ok (.getfield 9, 3) := by decide +kernel
theorem dX5_append_28 : decode cX5_append 28 = .ok (.aload_n 0, 1) := by decide +kernel
theorem dX5_append_29 : decode cX5_append 29 = .ok (.getfield 50, 3) := by decide +kernel
theorem dX5_append_32 : decode cX5_append 32 = .ok (.iload_n 1, 1) := by decide +kernel
theorem dX5_append_33 : decode cX5_append 33 = .ok (.iload_n 2, 1) := by decide +kernel
theorem dX5_append_34 : decode cX5_append 34 = .ok (.ishr, 1) := by decide +kernel
theorem dX5_append_35 : decode cX5_append 35 = .ok (.i2b, 1) := by decide +kernel
theorem dX5_append_36 : decode cX5_append 36 = .ok (.bastore, 1) := by decide +kernel
theorem dX5_append_37 : decode cX5_append 37 = .ok (.aload_n 0, 1) := by decide +kernel
theorem dX5_append_38 : decode cX5_append 38 = .ok (.dup, 1) := by decide +kernel
theorem dX5_append_39 : decode cX5_append 39 = .ok (.getfield 50, 3) := by decide +kernel
theorem dX5_append_42 : decode cX5_append 42 = .ok (.iconst 1, 1) := by decide +kernel
theorem dX5_append_43 : decode cX5_append 43 = .ok (.iadd, 1) := by decide +kernel
theorem dX5_append_44 : decode cX5_append 44 = .ok (.putfield 50, 3) := by decide +kernel
theorem dX5_append_47 : decode cX5_append 47 = .ok (.iinc 2 (-8), 3) := by decide +kernel
theorem dX5_append_50 : decode cX5_append 50 = .ok (.goto (-47), 3) := by decide +kernel
theorem dX5_append_53 : decode cX5_append 53 = .ok (.return_, 1) := by decide +kernel
theorem dX5_drain_0 : decode cX5_drain 0 = .ok (.aload_n 0, 1) := by decide +kernel
theorem dX5_drain_1 : decode cX5_drain 1 = .ok (.getfield 50, 3) := by decide +kernel
theorem dX5_drain_4 : decode cX5_drain 4 = .ok (.istore_n 1, 1) := by decide +kernel
theorem dX5_drain_5 : decode cX5_drain 5 = .ok (.aload_n 0, 1) := by decide +kernel
theorem dX5_drain_6 : decode cX5_drain 6 = .ok (.iconst 0, 1) := by decide +kernel
theorem dX5_drain_7 : decode cX5_drain 7 = .ok (.putfield 50, 3) := by decide +kernel
theorem dX5_drain_10 : decode cX5_drain 10 = .ok (.iload_n 1, 1) := by decide +kernel
theorem dX5_drain_11 : decode cX5_drain 11 = .ok (.ireturn, 1) := by decide +kernel
theorem dX5_fail_0 : decode cX5_fail 0 = .ok (.aload_n 0, 1) := by decide +kernel
theorem dX5_fail_1 : decode cX5_fail 1 = .ok (.iload_n 1, 1) := by decide +kernel
theorem dX5_fail_2 : decode cX5_fail 2 = .ok (.putfield 53, 3) := by decide +kernel
theorem dX5_fail_5 : decode cX5_fail 5 = .ok (.aload_n 0, 1) := by decide +kernel
theorem dX5_fail_6 : decode cX5_fail 6 = .ok (.iload_n 2, 1) := by decide +kernel
theorem dX5_fail_7 : decode cX5_fail 7 = .ok (.putfield 15, 3) := by decide +kernel
theorem dX5_fail_10 : decode cX5_fail 10 = .ok (.iconst (-1), 1) := by decide +kernel
theorem dX5_fail_11 : decode cX5_fail 11 = .ok (.ireturn, 1) := by decide +kernel
theorem dX5_heldSymbol_0 : decode cX5_heldSymbol 0 = .ok (.aload_n 0, 1) := by decide +kernel
theorem dX5_heldSymbol_1 : decode cX5_heldSymbol 1 = .ok (.getfield 42, 3) := by decide +kernel
theorem dX5_heldSymbol_4 : decode cX5_heldSymbol 4 = .ok (.aload_n 0, 1) := by decide +kernel
theorem dX5_heldSymbol_5 : decode cX5_heldSymbol 5 = .ok (.getfield 9, 3) := by decide +kernel
theorem dX5_heldSymbol_8 : decode cX5_heldSymbol 8 = .ok (.iconst 0, 1) := by decide +kernel
theorem dX5_heldSymbol_9 : decode cX5_heldSymbol 9 = .ok (.aload_n 0, 1) := by decide +kernel
theorem dX5_heldSymbol_10 : decode cX5_heldSymbol 10 = .ok (.getfield 50, 3) := by decide +kernel
theorem dX5_heldSymbol_13 : decode cX5_heldSymbol 13 = .ok (.invokevirtual 66, 3) := by decide +kernel
theorem dX5_heldSymbol_16 : decode cX5_heldSymbol 16 = .ok (.ireturn, 1) := by decide +kernel
theorem dX5_holdsName_0 : decode cX5_holdsName 0 = .ok (.aload_n 0, 1) := by decide +kernel
theorem dX5_holdsName_1 : decode cX5_holdsName 1 = .ok (.getfield 50, 3) := by decide +kernel
theorem dX5_holdsName_4 : decode cX5_holdsName 4 = .ok (.iconst 1, 1) := by decide +kernel
theorem dX5_holdsName_5 : decode cX5_holdsName 5 = .ok (.if_icmp .lt 25, 3) := by decide +kernel
theorem dX5_holdsName_30 : decode cX5_holdsName 30 = .ok (.iconst 0, 1) := by decide +kernel
theorem dX5_holdsName_31 : decode cX5_holdsName 31 = .ok (.ireturn, 1) := by decide +kernel
theorem dX5_init_0 : decode cX5_init 0 = .ok (.aload_n 0, 1) := by decide +kernel
theorem dX5_init_1 : decode cX5_init 1 = .ok (.invokespecial 3, 3) := by decide +kernel
theorem dX5_init_4 : decode cX5_init 4 = .ok (.aload_n 0, 1) := by decide +kernel
theorem dX5_init_5 : decode cX5_init 5 = .ok (.sipush 400, 3) := by decide +kernel
theorem dX5_init_8 : decode cX5_init 8 = .ok (.newarray .byte, 2) := by decide +kernel
theorem dX5_init_10 : decode cX5_init 10 = .ok (.putfield 9, 3) := by decide +kernel
theorem dX5_init_13 : decode cX5_init 13 = .ok (.aload_n 0, 1) := by decide +kernel
theorem dX5_init_14 : decode cX5_init 14 = .ok (.iconst (-1), 1) := by decide +kernel
theorem dX5_init_15 : decode cX5_init 15 = .ok (.putfield 15, 3) := by decide +kernel
theorem dX5_init_18 : decode cX5_init 18 = .ok (.aload_n 0, 1) := by decide +kernel
theorem dX5_init_19 : decode cX5_init 19 = .ok (.bipush 60, 2) := by decide +kernel
theorem dX5_init_21 : decode cX5_init 21 = .ok (.newarray .int, 2) := by decide +kernel
theorem dX5_init_23 : decode cX5_init 23 = .ok (.putfield 19, 3) := by decide +kernel
theorem dX5_init_26 : decode cX5_init 26 = .ok (.aload_n 0, 1) := by decide +kernel
theorem dX5_init_27 : decode cX5_init 27 = .ok (.bipush 60, 2) := by decide +kernel
theorem dX5_init_29 : decode cX5_init 29 = .ok (.newarray .int, 2) := by decide +kernel
theorem dX5_init_31 : decode cX5_init 31 = .ok (.putfield 23, 3) := by decide +kernel
theorem dX5_init_34 : decode cX5_init 34 = .ok (.aload_n 0, 1) := by decide +kernel
theorem dX5_init_35 : decode cX5_init 35 = .ok (.bipush 60, 2) := by decide +kernel
theorem dX5_init_37 : decode cX5_init 37 = .ok (.newarray .int, 2) := by decide +kernel
theorem dX5_init_39 : decode cX5_init 39 = .ok (.putfield 26, 3) := by decide +kernel
theorem dX5_init_42 : decode cX5_init 42 = .ok (.aload_n 0, 1) := by decide +kernel
theorem dX5_init_43 : decode cX5_init 43 = .ok (.sipush 180, 3) := by decide +kernel
theorem dX5_init_46 : decode cX5_init 46 = .ok (.newarray .int, 2) := by decide +kernel
theorem dX5_init_48 : decode cX5_init 48 = .ok (.putfield 29, 3) := by decide +kernel
theorem dX5_init_51 : decode cX5_init 51 = .ok (.aload_n 0, 1) := by decide +kernel
theorem dX5_init_52 : decode cX5_init 52 = .ok (.bipush 100, 2) := by decide +kernel
theorem dX5_init_54 : decode cX5_init 54 = .ok (.newarray .int, 2) := by decide +kernel
theorem dX5_init_56 : decode cX5_init 56 = .ok (.putfield 32, 3) := by decide +kernel
theorem dX5_init_59 : decode cX5_init 59 = .ok (.aload_n 0, 1) := by decide +kernel
theorem dX5_init_60 : decode cX5_init 60 = .ok (.bipush 100, 2) := by decide +kernel
theorem dX5_init_62 : decode cX5_init 62 = .ok (.newarray .int, 2) := by decide +kernel
theorem dX5_init_64 : decode cX5_init 64 = .ok (.putfield 35, 3) := by decide +kernel
theorem dX5_init_67 : decode cX5_init 67 = .ok (.aload_n 0, 1) := by decide +kernel
theorem dX5_init_68 : decode cX5_init 68 = .ok (.bipush 100, 2) := by decide +kernel
theorem dX5_init_70 : decode cX5_init 70 = .ok (.newarray .boolean, 2) := by decide +kernel
theorem dX5_init_72 : decode cX5_init 72 = .ok (.putfield 38, 3) := by decide +kernel
theorem dX5_init_75 : decode cX5_init 75 = .ok (.aload_n 0, 1) := by decide +kernel
theorem dX5_init_76 : decode cX5_init 76 = .ok (.aload_n 1, 1) := by decide +kernel
theorem dX5_init_77 : decode cX5_init 77 = .ok (.putfield 42, 3) := by decide +kernel
theorem dX5_init_80 : decode cX5_init 80 = .ok (.aload_n 0, 1) := by decide +kernel
theorem dX5_init_81 : decode cX5_init 81 = .ok (.aload_n 2, 1) := by decide +kernel
theorem dX5_init_82 : decode cX5_init 82 = .ok (.putfield 46, 3) := by decide +kernel
theorem dX5_init_85 : decode cX5_init 85 = .ok (.return_, 1) := by decide +kernel
theorem dX5_isLetter_0 : decode cX5_isLetter 0 = .ok (.iload_n 1, 1) := by decide +kernel
theorem dX5_isLetter_1 : decode cX5_isLetter 1 = .ok (.bipush 97, 2) := by decide +kernel
theorem dX5_isLetter_3 : decode cX5_isLetter 3 = .ok (.if_icmp .lt 13, 3) := by decide +kernel
theorem dX5_isLetter_16 : decode cX5_isLetter 16 = .ok (.iconst 0, 1) := by decide +kernel
theorem dX5_isLetter_17 : decode cX5_isLetter 17 = .ok (.ireturn, 1) := by decide +kernel
theorem dX5_kind_0 : decode cX5_kind 0 = .ok (.aload_n 0, 1) := by decide +kernel
theorem dX5_kind_1 : decode cX5_kind 1 = .ok (.getfield 53, 3) := by decide +kernel
theorem dX5_kind_4 : decode cX5_kind 4 = .ok (.ireturn, 1) := by decide +kernel
theorem dX5_length_0 : decode cX5_length 0 = .ok (.aload_n 0, 1) := by decide +kernel
theorem dX5_length_1 : decode cX5_length 1 = .ok (.getfield 50, 3) := by decide +kernel
theorem dX5_length_4 : decode cX5_length 4 = .ok (.ireturn, 1) := by decide +kernel
theorem dX5_peek_0 : decode cX5_peek 0 = .ok (.aload_n 0, 1) := by decide +kernel
theorem dX5_peek_1 : decode cX5_peek 1 = .ok (.getfield 83, 3) := by decide +kernel
theorem dX5_peek_4 : decode cX5_peek 4 = .ok (.ifCond .lt 40, 3) := by decide +kernel
theorem dX5_peek_7 : decode cX5_peek 7 = .ok (.aload_n 0, 1) := by decide +kernel
theorem dX5_peek_8 : decode cX5_peek 8 = .ok (.getfield 83, 3) := by decide +kernel
theorem dX5_peek_11 : decode cX5_peek 11 = .ok (.aload_n 0, 1) := by decide +kernel
theorem dX5_peek_12 : decode cX5_peek 12 = .ok (.getfield 86, 3) := by decide +kernel
theorem dX5_peek_15 : decode cX5_peek 15 = .ok (.if_icmp .ge 29, 3) := by decide +kernel
theorem dX5_peek_44 : decode cX5_peek 44 = .ok (.iconst (-1), 1) := by decide +kernel
theorem dX5_peek_45 : decode cX5_peek 45 = .ok (.ireturn, 1) := by decide +kernel
theorem dX5_position_0 : decode cX5_position 0 = .ok (.aload_n 0, 1) := by decide +kernel
theorem dX5_position_1 : decode cX5_position 1 = .ok (.getfield 15, 3) := by decide +kernel
theorem dX5_position_4 : decode cX5_position 4 = .ok (.ireturn, 1) := by decide +kernel
theorem dX5_readName_0 : decode cX5_readName 0 = .ok (.aload_n 0, 1) := by decide +kernel
theorem dX5_readName_1 : decode cX5_readName 1 = .ok (.invokevirtual 80, 3) := by decide +kernel
theorem dX5_readName_4 : decode cX5_readName 4 = .ok (.aload_n 0, 1) := by decide +kernel
theorem dX5_readName_5 : decode cX5_readName 5 = .ok (.aload_n 0, 1) := by decide +kernel
theorem dX5_readName_6 : decode cX5_readName 6 = .ok (.invokevirtual 111, 3) := by decide +kernel
theorem dX5_readName_9 : decode cX5_readName 9 = .ok (.invokevirtual 59, 3) := by decide +kernel
theorem dX5_readName_12 : decode cX5_readName 12 = .ok (.ifCond .ne 13, 3) := by decide +kernel
theorem dX5_readName_15 : decode cX5_readName 15 = .ok (.aload_n 0, 1) := by decide +kernel
theorem dX5_readName_16 : decode cX5_readName 16 = .ok (.iconst 1, 1) := by decide +kernel
theorem dX5_readName_17 : decode cX5_readName 17 = .ok (.aload_n 0, 1) := by decide +kernel
theorem dX5_readName_18 : decode cX5_readName 18 = .ok (.getfield 83, 3) := by decide +kernel
theorem dX5_readName_21 : decode cX5_readName 21 = .ok (.invokevirtual 89, 3) := by decide +kernel
theorem dX5_readName_24 : decode cX5_readName 24 = .ok (.ireturn, 1) := by decide +kernel
theorem dX5_readOne_0 : decode cX5_readOne 0 = .ok (.aload_n 0, 1) := by decide +kernel
theorem dX5_readOne_1 : decode cX5_readOne 1 = .ok (.iconst 0, 1) := by decide +kernel
theorem dX5_readOne_2 : decode cX5_readOne 2 = .ok (.putfield 114, 3) := by decide +kernel
theorem dX5_readOne_5 : decode cX5_readOne 5 = .ok (.iconst 0, 1) := by decide +kernel
theorem dX5_readOne_6 : decode cX5_readOne 6 = .ok (.istore_n 1, 1) := by decide +kernel
theorem dX5_readOne_7 : decode cX5_readOne 7 = .ok (.iload_n 1, 1) := by decide +kernel
theorem dX5_readOne_8 : decode cX5_readOne 8 = .ok (.aload_n 0, 1) := by decide +kernel
theorem dX5_readOne_9 : decode cX5_readOne 9 = .ok (.getfield 86, 3) := by decide +kernel
theorem dX5_readOne_12 : decode cX5_readOne 12 = .ok (.if_icmp .gt 103, 3) := by decide +kernel
theorem dX5_readOne_15 : decode cX5_readOne 15 = .ok (.aload_n 0, 1) := by decide +kernel
theorem dX5_readOne_16 : decode cX5_readOne 16 = .ok (.invokevirtual 117, 3) := by decide +kernel
theorem dX5_readOne_19 : decode cX5_readOne 19 = .ok (.istore_n 2, 1) := by decide +kernel
theorem dX5_readOne_20 : decode cX5_readOne 20 = .ok (.iload_n 2, 1) := by decide +kernel
theorem dX5_readOne_21 : decode cX5_readOne 21 = .ok (.ifCond .ge 5, 3) := by decide +kernel
theorem dX5_readOne_24 : decode cX5_readOne 24 = .ok (.iconst (-1), 1) := by decide +kernel
theorem dX5_readOne_25 : decode cX5_readOne 25 = .ok (.ireturn, 1) := by decide +kernel
theorem dX5_readTerm_0 : decode cX5_readTerm 0 = .ok (.aload_n 0, 1) := by decide +kernel
theorem dX5_readTerm_1 : decode cX5_readTerm 1 = .ok (.iconst 0, 1) := by decide +kernel
theorem dX5_readTerm_2 : decode cX5_readTerm 2 = .ok (.invokevirtual 72, 3) := by decide +kernel
theorem dX5_readTerm_5 : decode cX5_readTerm 5 = .ok (.aload_n 0, 1) := by decide +kernel
theorem dX5_readTerm_6 : decode cX5_readTerm 6 = .ok (.invokevirtual 76, 3) := by decide +kernel
theorem dX5_readTerm_9 : decode cX5_readTerm 9 = .ok (.istore_n 1, 1) := by decide +kernel
theorem dX5_readTerm_10 : decode cX5_readTerm 10 = .ok (.iload_n 1, 1) := by decide +kernel
theorem dX5_readTerm_11 : decode cX5_readTerm 11 = .ok (.ifCond .lt 28, 3) := by decide +kernel
theorem dX5_readTerm_39 : decode cX5_readTerm 39 = .ok (.iload_n 1, 1) := by decide +kernel
theorem dX5_readTerm_40 : decode cX5_readTerm 40 = .ok (.ireturn, 1) := by decide +kernel
theorem dX5_readTheoryText_0 : decode cX5_readTheoryText 0 = .ok (.aload_n 0, 1) := by decide +kernel
theorem dX5_readTheoryText_1 : decode cX5_readTheoryText 1 = .ok (.iconst 1, 1) := by decide +kernel
theorem dX5_readTheoryText_2 : decode cX5_readTheoryText 2 = .ok (.invokevirtual 72, 3) := by decide +kernel
theorem dX5_readTheoryText_5 : decode cX5_readTheoryText 5 = .ok (.aload_n 0, 1) := by decide +kernel
theorem dX5_readTheoryText_6 : decode cX5_readTheoryText 6 = .ok (.iconst 0, 1) := by decide +kernel
theorem dX5_readTheoryText_7 : decode cX5_readTheoryText 7 = .ok (.putfield 56, 3) := by decide +kernel
theorem dX5_readTheoryText_10 : decode cX5_readTheoryText 10 = .ok (.iconst 0, 1) := by decide +kernel
theorem dX5_readTheoryText_11 : decode cX5_readTheoryText 11 = .ok (.istore_n 1, 1) := by decide +kernel
theorem dX5_readTheoryText_12 : decode cX5_readTheoryText 12 = .ok (.iload_n 1, 1) := by decide +kernel
theorem dX5_readTheoryText_13 : decode cX5_readTheoryText 13 = .ok (.aload_n 0, 1) := by decide +kernel
theorem dX5_readTheoryText_14 : decode cX5_readTheoryText 14 = .ok (.getfield 86, 3) := by decide +kernel
theorem dX5_readTheoryText_17 : decode cX5_readTheoryText 17 = .ok (.if_icmp .gt 89, 3) := by decide +kernel
theorem dX5_readTheoryText_20 : decode cX5_readTheoryText 20 = .ok (.aload_n 0, 1) := by decide +kernel
theorem dX5_readTheoryText_21 : decode cX5_readTheoryText 21 = .ok (.invokevirtual 80, 3) := by decide +kernel
theorem dX5_readTheoryText_24 : decode cX5_readTheoryText 24 = .ok (.aload_n 0, 1) := by decide +kernel
theorem dX5_readTheoryText_25 : decode cX5_readTheoryText 25 = .ok (.getfield 83, 3) := by decide +kernel
theorem dX5_readTheoryText_28 : decode cX5_readTheoryText 28 = .ok (.aload_n 0, 1) := by decide +kernel
theorem dX5_readTheoryText_29 : decode cX5_readTheoryText 29 = .ok (.getfield 86, 3) := by decide +kernel
theorem dX5_readTheoryText_32 : decode cX5_readTheoryText 32 = .ok (.if_icmp .lt 5, 3) := by decide +kernel
theorem dX5_readTheoryText_35 : decode cX5_readTheoryText 35 = .ok (.iconst 1, 1) := by decide +kernel
theorem dX5_readTheoryText_36 : decode cX5_readTheoryText 36 = .ok (.ireturn, 1) := by decide +kernel
theorem dX5_shorten_0 : decode cX5_shorten 0 = .ok (.aload_n 0, 1) := by decide +kernel
theorem dX5_shorten_1 : decode cX5_shorten 1 = .ok (.iload_n 1, 1) := by decide +kernel
theorem dX5_shorten_2 : decode cX5_shorten 2 = .ok (.putfield 50, 3) := by decide +kernel
theorem dX5_shorten_5 : decode cX5_shorten 5 = .ok (.return_, 1) := by decide +kernel
theorem dX5_skipBlanks_0 : decode cX5_skipBlanks 0 = .ok (.iconst 0, 1) := by decide +kernel
theorem dX5_skipBlanks_1 : decode cX5_skipBlanks 1 = .ok (.istore_n 1, 1) := by decide +kernel
theorem dX5_skipBlanks_2 : decode cX5_skipBlanks 2 = .ok (.iload_n 1, 1) := by decide +kernel
theorem dX5_skipBlanks_3 : decode cX5_skipBlanks 3 = .ok (.aload_n 0, 1) := by decide +kernel
theorem dX5_skipBlanks_4 : decode cX5_skipBlanks 4 = .ok (.getfield 86, 3) := by decide +kernel
theorem dX5_skipBlanks_7 : decode cX5_skipBlanks 7 = .ok (.if_icmp .ge 37, 3) := by decide +kernel
theorem dX5_skipBlanks_44 : decode cX5_skipBlanks 44 = .ok (.return_, 1) := by decide +kernel
theorem dX5_start_0 : decode cX5_start 0 = .ok (.aload_n 0, 1) := by decide +kernel
theorem dX5_start_1 : decode cX5_start 1 = .ok (.iload_n 1, 1) := by decide +kernel
theorem dX5_start_2 : decode cX5_start 2 = .ok (.putfield 104, 3) := by decide +kernel
theorem dX5_start_5 : decode cX5_start 5 = .ok (.aload_n 0, 1) := by decide +kernel
theorem dX5_start_6 : decode cX5_start 6 = .ok (.aload_n 0, 1) := by decide +kernel
theorem dX5_start_7 : decode cX5_start 7 = .ok (.invokevirtual 108, 3) := by decide +kernel
theorem dX5_start_10 : decode cX5_start 10 = .ok (.putfield 86, 3) := by decide +kernel
theorem dX5_start_13 : decode cX5_start 13 = .ok (.aload_n 0, 1) := by decide +kernel
theorem dX5_start_14 : decode cX5_start 14 = .ok (.iconst 0, 1) := by decide +kernel
theorem dX5_start_15 : decode cX5_start 15 = .ok (.putfield 83, 3) := by decide +kernel
theorem dX5_start_18 : decode cX5_start 18 = .ok (.aload_n 0, 1) := by decide +kernel
theorem dX5_start_19 : decode cX5_start 19 = .ok (.iconst 0, 1) := by decide +kernel
theorem dX5_start_20 : decode cX5_start 20 = .ok (.putfield 53, 3) := by decide +kernel
theorem dX5_start_23 : decode cX5_start 23 = .ok (.aload_n 0, 1) := by decide +kernel
theorem dX5_start_24 : decode cX5_start 24 = .ok (.iconst (-1), 1) := by decide +kernel
theorem dX5_start_25 : decode cX5_start 25 = .ok (.putfield 15, 3) := by decide +kernel
theorem dX5_start_28 : decode cX5_start 28 = .ok (.return_, 1) := by decide +kernel
theorem dX5_statementCount_0 : decode cX5_statementCount 0 = .ok (.aload_n 0, 1) := by decide +kernel
theorem dX5_statementCount_1 : decode cX5_statementCount 1 = .ok (.getfield 56, 3) := by decide +kernel
theorem dX5_statementCount_4 : decode cX5_statementCount 4 = .ok (.ireturn, 1) := by decide +kernel
theorem dX6_init_0 : decode cX6_init 0 = .ok (.aload_n 0, 1) := by decide +kernel
theorem dX6_init_1 : decode cX6_init 1 = .ok (.invokespecial 3, 3) := by decide +kernel
theorem dX6_init_4 : decode cX6_init 4 = .ok (.aload_n 0, 1) := by decide +kernel
theorem dX6_init_5 : decode cX6_init 5 = .ok (.iload_n 1, 1) := by decide +kernel
theorem dX6_init_6 : decode cX6_init 6 = .ok (.iconst 0, 1) := by decide +kernel
theorem dX6_init_7 : decode cX6_init 7 = .ok (.invokestatic 9, 3) := by decide +kernel
theorem dX6_init_10 : decode cX6_init 10 = .ok (.bipush 10, 2) := by decide +kernel
theorem dX6_init_12 : decode cX6_init 12 = .ok (.ishr, 1) := by decide +kernel
theorem dX6_init_13 : decode cX6_init 13 = .ok (.iconst 1, 1) := by decide +kernel
theorem dX6_init_14 : decode cX6_init 14 = .ok (.iadd, 1) := by decide +kernel
theorem dX6_init_15 : decode cX6_init 15 = .ok (.anewarray 15, 3) := by decide +kernel
theorem dX6_init_18 : decode cX6_init 18 = .ok (.putfield 17, 3) := by decide +kernel
theorem dX6_init_21 : decode cX6_init 21 = .ok (.return_, 1) := by decide +kernel
theorem dX7_arity_0 : decode cX7_arity 0 = .ok (.iload_n 1, 1) := by decide +kernel
theorem dX7_arity_1 : decode cX7_arity 1 = .ok (.ifCond .lt 20, 3) := by decide +kernel
theorem dX7_arity_4 : decode cX7_arity 4 = .ok (.iload_n 1, 1) := by decide +kernel
theorem dX7_arity_5 : decode cX7_arity 5 = .ok (.aload_n 0, 1) := by decide +kernel
theorem dX7_arity_6 : decode cX7_arity 6 = .ok (.getfield 35, 3) := by decide +kernel
theorem dX7_arity_9 : decode cX7_arity 9 = .ok (.if_icmp .ge 12, 3) := by decide +kernel
theorem dX7_arity_21 : decode cX7_arity 21 = .ok (.iconst 0, 1) := by decide +kernel
theorem dX7_arity_22 : decode cX7_arity 22 = .ok (.ireturn, 1) := by decide +kernel
theorem dX7_chooseOrder_0 : decode cX7_chooseOrder 0 = .ok (.aload_n 0, 1) := by decide +kernel
theorem dX7_chooseOrder_1 : decode cX7_chooseOrder 1 = .ok (.iload_n 1, 1) := by decide +kernel
theorem dX7_chooseOrder_2 : decode cX7_chooseOrder 2 = .ok (.putfield 58, 3) := by decide +kernel
theorem dX7_chooseOrder_5 : decode cX7_chooseOrder 5 = .ok (.return_, 1) := by decide +kernel
theorem dX7_count_0 : decode cX7_count 0 = .ok (.aload_n 0, 1) := by decide +kernel
theorem dX7_count_1 : decode cX7_count 1 = .ok (.getfield 35, 3) := by decide +kernel
theorem dX7_count_4 : decode cX7_count 4 = .ok (.ireturn, 1) := by decide +kernel
theorem dX7_find_0 : decode cX7_find 0 = .ok (.iload_n 2, 1) := by decide +kernel
theorem dX7_find_1 : decode cX7_find 1 = .ok (.ifCond .lt 22, 3) := by decide +kernel
theorem dX7_find_4 : decode cX7_find 4 = .ok (.iload_n 3, 1) := by decide +kernel
theorem dX7_find_5 : decode cX7_find 5 = .ok (.iconst 1, 1) := by decide +kernel
theorem dX7_find_6 : decode cX7_find 6 = .ok (.if_icmp .lt 17, 3) := by decide +kernel
theorem dX7_find_23 : decode cX7_find 23 = .ok (.iconst (-1), 1) := by decide +kernel
theorem dX7_find_24 : decode cX7_find 24 = .ok (.ireturn, 1) := by decide +kernel
theorem dX7_has_0 : decode cX7_has 0 = .ok (.iload_n 1, 1) := by decide +kernel
theorem dX7_has_1 : decode cX7_has 1 = .ok (.ifCond .lt 15, 3) := by decide +kernel
theorem dX7_has_4 : decode cX7_has 4 = .ok (.iload_n 1, 1) := by decide +kernel
theorem dX7_has_5 : decode cX7_has 5 = .ok (.aload_n 0, 1) := by decide +kernel
theorem dX7_has_6 : decode cX7_has 6 = .ok (.getfield 35, 3) := by decide +kernel
theorem dX7_has_9 : decode cX7_has 9 = .ok (.if_icmp .ge 7, 3) := by decide +kernel
theorem dX7_has_16 : decode cX7_has 16 = .ok (.iconst 0, 1) := by decide +kernel
theorem dX7_has_17 : decode cX7_has 17 = .ok (.ireturn, 1) := by decide +kernel
theorem dX7_init_0 : decode cX7_init 0 = .ok (.aload_n 0, 1) := by decide +kernel
theorem dX7_init_1 : decode cX7_init 1 = .ok (.invokespecial 3, 3) := by decide +kernel
theorem dX7_init_4 : decode cX7_init 4 = .ok (.aload_n 0, 1) := by decide +kernel
theorem dX7_init_5 : decode cX7_init 5 = .ok (.sipush 192, 3) := by decide +kernel
theorem dX7_init_8 : decode cX7_init 8 = .ok (.newarray .byte, 2) := by decide +kernel
theorem dX7_init_10 : decode cX7_init 10 = .ok (.putfield 9, 3) := by decide +kernel
theorem dX7_init_13 : decode cX7_init 13 = .ok (.aload_n 0, 1) := by decide +kernel
theorem dX7_init_14 : decode cX7_init 14 = .ok (.bipush 24, 2) := by decide +kernel
theorem dX7_init_16 : decode cX7_init 16 = .ok (.newarray .int, 2) := by decide +kernel
theorem dX7_init_18 : decode cX7_init 18 = .ok (.putfield 15, 3) := by decide +kernel
theorem dX7_init_21 : decode cX7_init 21 = .ok (.aload_n 0, 1) := by decide +kernel
theorem dX7_init_22 : decode cX7_init 22 = .ok (.bipush 24, 2) := by decide +kernel
theorem dX7_init_24 : decode cX7_init 24 = .ok (.newarray .int, 2) := by decide +kernel
theorem dX7_init_26 : decode cX7_init 26 = .ok (.putfield 19, 3) := by decide +kernel
theorem dX7_init_29 : decode cX7_init 29 = .ok (.aload_n 0, 1) := by decide +kernel
theorem dX7_init_30 : decode cX7_init 30 = .ok (.bipush 24, 2) := by decide +kernel
theorem dX7_init_32 : decode cX7_init 32 = .ok (.newarray .int, 2) := by decide +kernel
theorem dX7_init_34 : decode cX7_init 34 = .ok (.putfield 22, 3) := by decide +kernel
theorem dX7_init_37 : decode cX7_init 37 = .ok (.aload_n 0, 1) := by decide +kernel
theorem dX7_init_38 : decode cX7_init 38 = .ok (.bipush 24, 2) := by decide +kernel
theorem dX7_init_40 : decode cX7_init 40 = .ok (.newarray .int, 2) := by decide +kernel
theorem dX7_init_42 : decode cX7_init 42 = .ok (.putfield 25, 3) := by decide +kernel
theorem dX7_init_45 : decode cX7_init 45 = .ok (.aload_n 0, 1) := by decide +kernel
theorem dX7_init_46 : decode cX7_init 46 = .ok (.bipush 24, 2) := by decide +kernel
theorem dX7_init_48 : decode cX7_init 48 = .ok (.newarray .int, 2) := by decide +kernel
theorem dX7_init_50 : decode cX7_init 50 = .ok (.putfield 28, 3) := by decide +kernel
theorem dX7_init_53 : decode cX7_init 53 = .ok (.aload_n 0, 1) := by decide +kernel
theorem dX7_init_54 : decode cX7_init 54 = .ok (.bipush 24, 2) := by decide +kernel
theorem dX7_init_56 : decode cX7_init 56 = .ok (.newarray .boolean, 2) := by decide +kernel
theorem dX7_init_58 : decode cX7_init 58 = .ok (.putfield 31, 3) := by decide +kernel
theorem dX7_init_61 : decode cX7_init 61 = .ok (.return_, 1) := by decide +kernel
theorem dX7_isByWeight_0 : decode cX7_isByWeight 0 = .ok (.aload_n 0, 1) := by decide +kernel
theorem dX7_isByWeight_1 : decode cX7_isByWeight 1 = .ok (.getfield 58, 3) := by decide +kernel
theorem dX7_isByWeight_4 : decode cX7_isByWeight 4 = .ok (.ireturn, 1) := by decide +kernel
theorem dX7_isOrderFixed_0 : decode cX7_isOrderFixed 0 = .ok (.aload_n 0, 1) := by decide +kernel
theorem dX7_isOrderFixed_1 : decode cX7_isOrderFixed 1 = .ok (.getfield 62, 3) := by decide +kernel
theorem dX7_isOrderFixed_4 : decode cX7_isOrderFixed 4 = .ok (.ireturn, 1) := by decide +kernel
theorem dX8_init_0 : decode cX8_init 0 = .ok (.aload_n 0, 1) := by decide +kernel
theorem dX8_init_1 : decode cX8_init 1 = .ok (.invokespecial 3, 3) := by decide +kernel
theorem dX8_init_4 : decode cX8_init 4 = .ok (.aload_n 0, 1) := by decide +kernel
theorem dX8_init_5 : decode cX8_init 5 = .ok (.new 9, 3) := by decide +kernel
theorem dX8_init_8 : decode cX8_init 8 = .ok (.dup, 1) := by decide +kernel
theorem dX8_init_9 : decode cX8_init 9 = .ok (.ldc 11, 2) := by decide +kernel
theorem dX8_init_11 : decode cX8_init 11 = .ok (.invokespecial 12, 3) := by decide +kernel
theorem dX8_init_14 : decode cX8_init 14 = .ok (.putfield 15, 3) := by decide +kernel
theorem dX8_init_17 : decode cX8_init 17 = .ok (.aload_n 0, 1) := by decide +kernel
theorem dX8_init_18 : decode cX8_init 18 = .ok (.new 9, 3) := by decide +kernel
theorem dX8_init_21 : decode cX8_init 21 = .ok (.dup, 1) := by decide +kernel
theorem dX8_init_22 : decode cX8_init 22 = .ok (.ldc 21, 2) := by decide +kernel
theorem dX8_init_24 : decode cX8_init 24 = .ok (.invokespecial 12, 3) := by decide +kernel
theorem dX8_init_27 : decode cX8_init 27 = .ok (.putfield 22, 3) := by decide +kernel
theorem dX8_init_30 : decode cX8_init 30 = .ok (.aload_n 0, 1) := by decide +kernel
theorem dX8_init_31 : decode cX8_init 31 = .ok (.new 9, 3) := by decide +kernel
theorem dX8_init_34 : decode cX8_init 34 = .ok (.dup, 1) := by decide +kernel
theorem dX8_init_35 : decode cX8_init 35 = .ok (.ldc 11, 2) := by decide +kernel
theorem dX8_init_37 : decode cX8_init 37 = .ok (.invokespecial 12, 3) := by decide +kernel
theorem dX8_init_40 : decode cX8_init 40 = .ok (.putfield 25, 3) := by decide +kernel
theorem dX8_init_43 : decode cX8_init 43 = .ok (.aload_n 0, 1) := by decide +kernel
theorem dX8_init_44 : decode cX8_init 44 = .ok (.new 9, 3) := by decide +kernel
theorem dX8_init_47 : decode cX8_init 47 = .ok (.dup, 1) := by decide +kernel
theorem dX8_init_48 : decode cX8_init 48 = .ok (.ldc 11, 2) := by decide +kernel
theorem dX8_init_50 : decode cX8_init 50 = .ok (.invokespecial 12, 3) := by decide +kernel
theorem dX8_init_53 : decode cX8_init 53 = .ok (.putfield 28, 3) := by decide +kernel
theorem dX8_init_56 : decode cX8_init 56 = .ok (.aload_n 0, 1) := by decide +kernel
theorem dX8_init_57 : decode cX8_init 57 = .ok (.new 9, 3) := by decide +kernel
theorem dX8_init_60 : decode cX8_init 60 = .ok (.dup, 1) := by decide +kernel
theorem dX8_init_61 : decode cX8_init 61 = .ok (.ldc 11, 2) := by decide +kernel
theorem dX8_init_63 : decode cX8_init 63 = .ok (.invokespecial 12, 3) := by decide +kernel
theorem dX8_init_66 : decode cX8_init 66 = .ok (.putfield 31, 3) := by decide +kernel
theorem dX8_init_69 : decode cX8_init 69 = .ok (.aload_n 0, 1) := by decide +kernel
theorem dX8_init_70 : decode cX8_init 70 = .ok (.new 9, 3) := by decide +kernel
theorem dX8_init_73 : decode cX8_init 73 = .ok (.dup, 1) := by decide +kernel
theorem dX8_init_74 : decode cX8_init 74 = .ok (.ldc 34, 2) := by decide +kernel
theorem dX8_init_76 : decode cX8_init 76 = .ok (.invokespecial 12, 3) := by decide +kernel
theorem dX8_init_79 : decode cX8_init 79 = .ok (.putfield 35, 3) := by decide +kernel
theorem dX8_init_82 : decode cX8_init 82 = .ok (.aload_n 0, 1) := by decide +kernel
theorem dX8_init_83 : decode cX8_init 83 = .ok (.sipush 768, 3) := by decide +kernel
theorem dX8_init_86 : decode cX8_init 86 = .ok (.newarray .int, 2) := by decide +kernel
theorem dX8_init_88 : decode cX8_init 88 = .ok (.putfield 38, 3) := by decide +kernel
theorem dX8_init_91 : decode cX8_init 91 = .ok (.aload_n 0, 1) := by decide +kernel
theorem dX8_init_92 : decode cX8_init 92 = .ok (.sipush 4096, 3) := by decide +kernel
theorem dX8_init_95 : decode cX8_init 95 = .ok (.putfield 42, 3) := by decide +kernel
theorem dX8_init_98 : decode cX8_init 98 = .ok (.aload_n 0, 1) := by decide +kernel
theorem dX8_init_99 : decode cX8_init 99 = .ok (.aload_n 1, 1) := by decide +kernel
theorem dX8_init_100 : decode cX8_init 100 = .ok (.putfield 46, 3) := by decide +kernel
theorem dX8_init_103 : decode cX8_init 103 = .ok (.return_, 1) := by decide +kernel
theorem dX8_isCrowded_0 : decode cX8_isCrowded 0 = .ok (.aload_n 0, 1) := by decide +kernel
theorem dX8_isCrowded_1 : decode cX8_isCrowded 1 = .ok (.getfield 88, 3) := by decide +kernel
theorem dX8_isCrowded_4 : decode cX8_isCrowded 4 = .ok (.aload_n 0, 1) := by decide +kernel
theorem dX8_isCrowded_5 : decode cX8_isCrowded 5 = .ok (.getfield 42, 3) := by decide +kernel
theorem dX8_isCrowded_8 : decode cX8_isCrowded 8 = .ok (.if_icmp .le 7, 3) := by decide +kernel
theorem dX8_isCrowded_15 : decode cX8_isCrowded 15 = .ok (.iconst 0, 1) := by decide +kernel
theorem dX8_isCrowded_16 : decode cX8_isCrowded 16 = .ok (.ireturn, 1) := by decide +kernel
theorem dX9_firstConflict_0 : decode cX9_firstConflict 0 = .ok (.iconst 0, 1) := by decide +kernel
theorem dX9_firstConflict_1 : decode cX9_firstConflict 1 = .ok (.istore_n 1, 1) := by decide +kernel
theorem dX9_firstConflict_2 : decode cX9_firstConflict 2 = .ok (.iload_n 1, 1) := by decide +kernel
theorem dX9_firstConflict_3 : decode cX9_firstConflict 3 = .ok (.aload_n 0, 1) := by decide +kernel
theorem dX9_firstConflict_4 : decode cX9_firstConflict 4 = .ok (.getfield 75, 3) := by decide +kernel
theorem dX9_firstConflict_7 : decode cX9_firstConflict 7 = .ok (.if_icmp .ge 40, 3) := by decide +kernel
theorem dX9_firstConflict_47 : decode cX9_firstConflict 47 = .ok (.iconst (-1), 1) := by decide +kernel
theorem dX9_firstConflict_48 : decode cX9_firstConflict 48 = .ok (.ireturn, 1) := by decide +kernel
theorem dX9_init_0 : decode cX9_init 0 = .ok (.aload_n 0, 1) := by decide +kernel
theorem dX9_init_1 : decode cX9_init 1 = .ok (.invokespecial 3, 3) := by decide +kernel
theorem dX9_init_4 : decode cX9_init 4 = .ok (.aload_n 0, 1) := by decide +kernel
theorem dX9_init_5 : decode cX9_init 5 = .ok (.bipush 30, 2) := by decide +kernel
theorem dX9_init_7 : decode cX9_init 7 = .ok (.newarray .int, 2) := by decide +kernel
theorem dX9_init_9 : decode cX9_init 9 = .ok (.putfield 9, 3) := by decide +kernel
theorem dX9_init_12 : decode cX9_init 12 = .ok (.aload_n 0, 1) := by decide +kernel
theorem dX9_init_13 : decode cX9_init 13 = .ok (.bipush 30, 2) := by decide +kernel
theorem dX9_init_15 : decode cX9_init 15 = .ok (.newarray .int, 2) := by decide +kernel
theorem dX9_init_17 : decode cX9_init 17 = .ok (.putfield 15, 3) := by decide +kernel
theorem dX9_init_20 : decode cX9_init 20 = .ok (.aload_n 0, 1) := by decide +kernel
theorem dX9_init_21 : decode cX9_init 21 = .ok (.bipush 30, 2) := by decide +kernel
theorem dX9_init_23 : decode cX9_init 23 = .ok (.newarray .int, 2) := by decide +kernel
theorem dX9_init_25 : decode cX9_init 25 = .ok (.putfield 18, 3) := by decide +kernel
theorem dX9_init_28 : decode cX9_init 28 = .ok (.aload_n 0, 1) := by decide +kernel
theorem dX9_init_29 : decode cX9_init 29 = .ok (.bipush 30, 2) := by decide +kernel
theorem dX9_init_31 : decode cX9_init 31 = .ok (.newarray .int, 2) := by decide +kernel
theorem dX9_init_33 : decode cX9_init 33 = .ok (.putfield 21, 3) := by decide +kernel
theorem dX9_init_36 : decode cX9_init 36 = .ok (.aload_n 0, 1) := by decide +kernel
theorem dX9_init_37 : decode cX9_init 37 = .ok (.bipush 8, 2) := by decide +kernel
theorem dX9_init_39 : decode cX9_init 39 = .ok (.newarray .int, 2) := by decide +kernel
theorem dX9_init_41 : decode cX9_init 41 = .ok (.putfield 24, 3) := by decide +kernel
theorem dX9_init_44 : decode cX9_init 44 = .ok (.aload_n 0, 1) := by decide +kernel
theorem dX9_init_45 : decode cX9_init 45 = .ok (.bipush 8, 2) := by decide +kernel
theorem dX9_init_47 : decode cX9_init 47 = .ok (.newarray .int, 2) := by decide +kernel
theorem dX9_init_49 : decode cX9_init 49 = .ok (.putfield 27, 3) := by decide +kernel
theorem dX9_init_52 : decode cX9_init 52 = .ok (.aload_n 0, 1) := by decide +kernel
theorem dX9_init_53 : decode cX9_init 53 = .ok (.bipush 30, 2) := by decide +kernel
theorem dX9_init_55 : decode cX9_init 55 = .ok (.newarray .int, 2) := by decide +kernel
theorem dX9_init_57 : decode cX9_init 57 = .ok (.putfield 30, 3) := by decide +kernel
theorem dX9_init_60 : decode cX9_init 60 = .ok (.aload_n 0, 1) := by decide +kernel
theorem dX9_init_61 : decode cX9_init 61 = .ok (.bipush 30, 2) := by decide +kernel
theorem dX9_init_63 : decode cX9_init 63 = .ok (.newarray .int, 2) := by decide +kernel
theorem dX9_init_65 : decode cX9_init 65 = .ok (.putfield 33, 3) := by decide +kernel
theorem dX9_init_68 : decode cX9_init 68 = .ok (.aload_n 0, 1) := by decide +kernel
theorem dX9_init_69 : decode cX9_init 69 = .ok (.new 36, 3) := by decide +kernel
theorem dX9_init_72 : decode cX9_init 72 = .ok (.dup, 1) := by decide +kernel
theorem dX9_init_73 : decode cX9_init 73 = .ok (.ldc 38, 2) := by decide +kernel
theorem dX9_init_75 : decode cX9_init 75 = .ok (.invokespecial 39, 3) := by decide +kernel
theorem dX9_init_78 : decode cX9_init 78 = .ok (.putfield 42, 3) := by decide +kernel
theorem dX9_init_81 : decode cX9_init 81 = .ok (.aload_n 0, 1) := by decide +kernel
theorem dX9_init_82 : decode cX9_init 82 = .ok (.aload_n 1, 1) := by decide +kernel
theorem dX9_init_83 : decode cX9_init 83 = .ok (.putfield 46, 3) := by decide +kernel
theorem dX9_init_86 : decode cX9_init 86 = .ok (.aload_n 0, 1) := by decide +kernel
theorem dX9_init_87 : decode cX9_init 87 = .ok (.aload_n 2, 1) := by decide +kernel
theorem dX9_init_88 : decode cX9_init 88 = .ok (.putfield 50, 3) := by decide +kernel
theorem dX9_init_91 : decode cX9_init 91 = .ok (.aload_n 0, 1) := by decide +kernel
theorem dX9_init_92 : decode cX9_init 92 = .ok (.aload_n 3, 1) := by decide +kernel
theorem dX9_init_93 : decode cX9_init 93 = .ok (.putfield 54, 3) := by decide +kernel
theorem dX9_init_96 : decode cX9_init 96 = .ok (.aload_n 0, 1) := by decide +kernel
theorem dX9_init_97 : decode cX9_init 97 = .ok (.aload 4, 2) := by decide +kernel
theorem dX9_init_99 : decode cX9_init 99 = .ok (.putfield 58, 3) := by decide +kernel
theorem dX9_init_102 : decode cX9_init 102 = .ok (.aload_n 0, 1) := by decide +kernel
theorem dX9_init_103 : decode cX9_init 103 = .ok (.new 62, 3) := by decide +kernel
theorem dX9_init_106 : decode cX9_init 106 = .ok (.dup, 1) := by decide +kernel
theorem dX9_init_107 : decode cX9_init 107 = .ok (.aload_n 2, 1) := by decide +kernel
theorem dX9_init_108 : decode cX9_init 108 = .ok (.aload_n 3, 1) := by decide +kernel
theorem dX9_init_109 : decode cX9_init 109 = .ok (.invokespecial 64, 3) := by decide +kernel
theorem dX9_init_112 : decode cX9_init 112 = .ok (.putfield 67, 3) := by decide +kernel
theorem dX9_init_115 : decode cX9_init 115 = .ok (.return_, 1) := by decide +kernel
theorem dX9_openLevel_0 : decode cX9_openLevel 0 = .ok (.aload_n 0, 1) := by decide +kernel
theorem dX9_openLevel_1 : decode cX9_openLevel 1 = .ok (.getfield 85, 3) := by decide +kernel
theorem dX9_openLevel_4 : decode cX9_openLevel 4 = .ok (.ifCond .lt 48, 3) := by decide +kernel
theorem dX9_openLevel_7 : decode cX9_openLevel 7 = .ok (.aload_n 0, 1) := by decide +kernel
theorem dX9_openLevel_8 : decode cX9_openLevel 8 = .ok (.getfield 85, 3) := by decide +kernel
theorem dX9_openLevel_11 : decode cX9_openLevel 11 = .ok (.bipush 8, 2) := by decide +kernel
theorem dX9_openLevel_13 : decode cX9_openLevel 13 = .ok (.if_icmp .ge 39, 3) := by decide +kernel
theorem dX9_openLevel_16 : decode cX9_openLevel 16 = .ok (.aload_n 0, 1) := by decide +kernel
theorem dX9_openLevel_17 : decode cX9_openLevel 17 = .ok (.getfield 24, 3) := by decide +kernel
theorem dX9_openLevel_20 : decode cX9_openLevel 20 = .ok (.aload_n 0, 1) := by decide +kernel
theorem dX9_openLevel_21 : decode cX9_openLevel 21 = .ok (.getfield 85, 3) := by decide +kernel
theorem dX9_openLevel_24 : decode cX9_openLevel 24 = .ok (.aload_n 0, 1) := by decide +kernel
theorem dX9_openLevel_25 : decode cX9_openLevel 25 = .ok (.getfield 71, 3) := by decide +kernel
theorem dX9_openLevel_28 : decode cX9_openLevel 28 = .ok (.iastore, 1) := by decide +kernel
theorem dX9_openLevel_29 : decode cX9_openLevel 29 = .ok (.aload_n 0, 1) := by decide +kernel
theorem dX9_openLevel_30 : decode cX9_openLevel 30 = .ok (.getfield 27, 3) := by decide +kernel
theorem dX9_openLevel_33 : decode cX9_openLevel 33 = .ok (.aload_n 0, 1) := by decide +kernel
theorem dX9_openLevel_34 : decode cX9_openLevel 34 = .ok (.getfield 85, 3) := by decide +kernel
theorem dX9_openLevel_37 : decode cX9_openLevel 37 = .ok (.aload_n 0, 1) := by decide +kernel
theorem dX9_openLevel_38 : decode cX9_openLevel 38 = .ok (.getfield 75, 3) := by decide +kernel
theorem dX9_openLevel_41 : decode cX9_openLevel 41 = .ok (.iastore, 1) := by decide +kernel
theorem dX9_openLevel_42 : decode cX9_openLevel 42 = .ok (.aload_n 0, 1) := by decide +kernel
theorem dX9_openLevel_43 : decode cX9_openLevel 43 = .ok (.dup, 1) := by decide +kernel
theorem dX9_openLevel_44 : decode cX9_openLevel 44 = .ok (.getfield 85, 3) := by decide +kernel
theorem dX9_openLevel_47 : decode cX9_openLevel 47 = .ok (.iconst 1, 1) := by decide +kernel
theorem dX9_openLevel_48 : decode cX9_openLevel 48 = .ok (.iadd, 1) := by decide +kernel
theorem dX9_openLevel_49 : decode cX9_openLevel 49 = .ok (.putfield 85, 3) := by decide +kernel
theorem dX9_openLevel_52 : decode cX9_openLevel 52 = .ok (.return_, 1) := by decide +kernel

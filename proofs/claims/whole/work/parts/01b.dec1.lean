theorem dX11_evenings_30 : decode prog_1_method_12_code 30 = .ok (.iconst 0, 1) := by decide +kernel
theorem dX11_evenings_31 : decode prog_1_method_12_code 31 = .ok (.istore_n 3, 1) := by decide +kernel
theorem dX11_evenings_32 : decode prog_1_method_12_code 32 = .ok (.iload_n 3, 1) := by decide +kernel
theorem dX11_evenings_33 : decode prog_1_method_12_code 33 = .ok (.iload_n 1, 1) := by decide +kernel
theorem dX11_evenings_34 : decode prog_1_method_12_code 34 = .ok (.if_icmp .ge 30, 3) := by decide +kernel
theorem dX11_evenings_37 : decode prog_1_method_12_code 37 = .ok (.aload_n 0, 1) := by decide +kernel
theorem dX11_evenings_38 : decode prog_1_method_12_code 38 = .ok (.getfield 30, 3) := by decide +kernel
theorem dX11_evenings_41 : decode prog_1_method_12_code 41 = .ok (.aload_n 0, 1) := by decide +kernel
theorem dX11_evenings_42 : decode prog_1_method_12_code 42 = .ok (.getfield 16, 3) := by decide +kernel
theorem dX11_evenings_45 : decode prog_1_method_12_code 45 = .ok (.invokevirtual 146, 3) := by decide +kernel
theorem dX11_evenings_48 : decode prog_1_method_12_code 48 = .ok (.iload_n 2, 1) := by decide +kernel
theorem dX11_evenings_49 : decode prog_1_method_12_code 49 = .ok (.aload_n 0, 1) := by decide +kernel
theorem dX11_evenings_50 : decode prog_1_method_12_code 50 = .ok (.getfield 71, 3) := by decide +kernel
theorem dX11_evenings_53 : decode prog_1_method_12_code 53 = .ok (.invokevirtual 164, 3) := by decide +kernel
theorem dX11_evenings_56 : decode prog_1_method_12_code 56 = .ok (.iadd, 1) := by decide +kernel
theorem dX11_evenings_57 : decode prog_1_method_12_code 57 = .ok (.istore_n 2, 1) := by decide +kernel
theorem dX11_evenings_58 : decode prog_1_method_12_code 58 = .ok (.iinc 3 1, 3) := by decide +kernel
theorem dX11_evenings_61 : decode prog_1_method_12_code 61 = .ok (.goto (-29), 3) := by decide +kernel
theorem dX11_evenings_64 : decode prog_1_method_12_code 64 = .ok (.iload_n 2, 1) := by decide +kernel
theorem dX11_evenings_65 : decode prog_1_method_12_code 65 = .ok (.ireturn, 1) := by decide +kernel
theorem dX11_feed_0 : decode prog_1_method_13_code 0 = .ok (.aload_n 0, 1) := by decide +kernel
theorem dX11_feed_1 : decode prog_1_method_13_code 1 = .ok (.getfield 44, 3) := by decide +kernel
theorem dX11_feed_4 : decode prog_1_method_13_code 4 = .ok (.bipush 20, 2) := by decide +kernel
theorem dX11_feed_6 : decode prog_1_method_13_code 6 = .ok (.invokevirtual 168, 3) := by decide +kernel
theorem dX11_feed_9 : decode prog_1_method_13_code 9 = .ok (.ifCond .ne 5, 3) := by decide +kernel
theorem dX11_feed_12 : decode prog_1_method_13_code 12 = .ok (.iconst (-1), 1) := by decide +kernel
theorem dX11_feed_13 : decode prog_1_method_13_code 13 = .ok (.ireturn, 1) := by decide +kernel
theorem dX11_feed_14 : decode prog_1_method_13_code 14 = .ok (.aload_n 0, 1) := by decide +kernel
theorem dX11_feed_15 : decode prog_1_method_13_code 15 = .ok (.getfield 44, 3) := by decide +kernel
theorem dX11_feed_18 : decode prog_1_method_13_code 18 = .ok (.iload_n 1, 1) := by decide +kernel
theorem dX11_feed_19 : decode prog_1_method_13_code 19 = .ok (.invokevirtual 171, 3) := by decide +kernel
theorem dX11_feed_22 : decode prog_1_method_13_code 22 = .ok (.aload_n 0, 1) := by decide +kernel
theorem dX11_feed_23 : decode prog_1_method_13_code 23 = .ok (.getfield 44, 3) := by decide +kernel
theorem dX11_feed_26 : decode prog_1_method_13_code 26 = .ok (.iload_n 2, 1) := by decide +kernel
theorem dX11_feed_27 : decode prog_1_method_13_code 27 = .ok (.invokevirtual 171, 3) := by decide +kernel
theorem dX11_feed_30 : decode prog_1_method_13_code 30 = .ok (.aload_n 0, 1) := by decide +kernel
theorem dX11_feed_31 : decode prog_1_method_13_code 31 = .ok (.getfield 44, 3) := by decide +kernel
theorem dX11_feed_34 : decode prog_1_method_13_code 34 = .ok (.iload_n 3, 1) := by decide +kernel
theorem dX11_feed_35 : decode prog_1_method_13_code 35 = .ok (.invokevirtual 171, 3) := by decide +kernel
theorem dX11_feed_38 : decode prog_1_method_13_code 38 = .ok (.aload_n 0, 1) := by decide +kernel
theorem dX11_feed_39 : decode prog_1_method_13_code 39 = .ok (.getfield 44, 3) := by decide +kernel
theorem dX11_feed_42 : decode prog_1_method_13_code 42 = .ok (.iload 4, 2) := by decide +kernel
theorem dX11_feed_44 : decode prog_1_method_13_code 44 = .ok (.invokevirtual 171, 3) := by decide +kernel
theorem dX11_feed_47 : decode prog_1_method_13_code 47 = .ok (.aload_n 0, 1) := by decide +kernel
theorem dX11_feed_48 : decode prog_1_method_13_code 48 = .ok (.getfield 44, 3) := by decide +kernel
theorem dX11_feed_51 : decode prog_1_method_13_code 51 = .ok (.iload 5, 2) := by decide +kernel
theorem dX11_feed_53 : decode prog_1_method_13_code 53 = .ok (.invokevirtual 171, 3) := by decide +kernel
theorem dX11_feed_56 : decode prog_1_method_13_code 56 = .ok (.aload_n 0, 1) := by decide +kernel
theorem dX11_feed_57 : decode prog_1_method_13_code 57 = .ok (.getfield 44, 3) := by decide +kernel
theorem dX11_feed_60 : decode prog_1_method_13_code 60 = .ok (.getfield 175, 3) := by decide +kernel
theorem dX11_feed_63 : decode prog_1_method_13_code 63 = .ok (.ireturn, 1) := by decide +kernel
theorem dX11_end_0 : decode prog_1_method_14_code 0 = .ok (.iload_n 1, 1) := by decide +kernel
theorem dX11_end_1 : decode prog_1_method_14_code 1 = .ok (.iconst 0, 1) := by decide +kernel
theorem dX11_end_2 : decode prog_1_method_14_code 2 = .ok (.aload_n 0, 1) := by decide +kernel
theorem dX11_end_3 : decode prog_1_method_14_code 3 = .ok (.getfield 44, 3) := by decide +kernel
theorem dX11_end_6 : decode prog_1_method_14_code 6 = .ok (.getfield 175, 3) := by decide +kernel
theorem dX11_end_9 : decode prog_1_method_14_code 9 = .ok (.invokestatic 109, 3) := by decide +kernel
theorem dX11_end_12 : decode prog_1_method_14_code 12 = .ok (.ifCond .ne 5, 3) := by decide +kernel
theorem dX11_end_15 : decode prog_1_method_14_code 15 = .ok (.iconst 0, 1) := by decide +kernel
theorem dX11_end_16 : decode prog_1_method_14_code 16 = .ok (.ireturn, 1) := by decide +kernel
theorem dX11_end_17 : decode prog_1_method_14_code 17 = .ok (.aload_n 0, 1) := by decide +kernel
theorem dX11_end_18 : decode prog_1_method_14_code 18 = .ok (.getfield 44, 3) := by decide +kernel
theorem dX11_end_21 : decode prog_1_method_14_code 21 = .ok (.iload_n 1, 1) := by decide +kernel
theorem dX11_end_22 : decode prog_1_method_14_code 22 = .ok (.putfield 175, 3) := by decide +kernel
theorem dX11_end_25 : decode prog_1_method_14_code 25 = .ok (.iconst 1, 1) := by decide +kernel
theorem dX11_end_26 : decode prog_1_method_14_code 26 = .ok (.ireturn, 1) := by decide +kernel
theorem dX11_text_0 : decode prog_1_method_15_code 0 = .ok (.aload_n 0, 1) := by decide +kernel
theorem dX11_text_1 : decode prog_1_method_15_code 1 = .ok (.getfield 53, 3) := by decide +kernel
theorem dX11_text_4 : decode prog_1_method_15_code 4 = .ok (.iload_n 1, 1) := by decide +kernel
theorem dX11_text_5 : decode prog_1_method_15_code 5 = .ok (.aload_n 0, 1) := by decide +kernel
theorem dX11_text_6 : decode prog_1_method_15_code 6 = .ok (.getfield 16, 3) := by decide +kernel
theorem dX11_text_9 : decode prog_1_method_15_code 9 = .ok (.getfield 113, 3) := by decide +kernel
theorem dX11_text_12 : decode prog_1_method_15_code 12 = .ok (.getfield 117, 3) := by decide +kernel
theorem dX11_text_15 : decode prog_1_method_15_code 15 = .ok (.aload_n 0, 1) := by decide +kernel
theorem dX11_text_16 : decode prog_1_method_15_code 16 = .ok (.getfield 16, 3) := by decide +kernel
theorem dX11_text_19 : decode prog_1_method_15_code 19 = .ok (.getfield 131, 3) := by decide +kernel
theorem dX11_text_22 : decode prog_1_method_15_code 22 = .ok (.getfield 117, 3) := by decide +kernel
theorem dX11_text_25 : decode prog_1_method_15_code 25 = .ok (.invokevirtual 178, 3) := by decide +kernel
theorem dX11_text_28 : decode prog_1_method_15_code 28 = .ok (.aload_n 0, 1) := by decide +kernel
theorem dX11_text_29 : decode prog_1_method_15_code 29 = .ok (.getfield 44, 3) := by decide +kernel
theorem dX11_text_32 : decode prog_1_method_15_code 32 = .ok (.iconst 0, 1) := by decide +kernel
theorem dX11_text_33 : decode prog_1_method_15_code 33 = .ok (.putfield 175, 3) := by decide +kernel
theorem dX11_text_36 : decode prog_1_method_15_code 36 = .ok (.iload_n 1, 1) := by decide +kernel
theorem dX11_text_37 : decode prog_1_method_15_code 37 = .ok (.iconst 0, 1) := by decide +kernel
theorem dX11_text_38 : decode prog_1_method_15_code 38 = .ok (.iconst 3, 1) := by decide +kernel
theorem dX11_text_39 : decode prog_1_method_15_code 39 = .ok (.invokestatic 109, 3) := by decide +kernel
theorem dX11_text_42 : decode prog_1_method_15_code 42 = .ok (.ifCond .eq 13, 3) := by decide +kernel
theorem dX11_text_45 : decode prog_1_method_15_code 45 = .ok (.aload_n 0, 1) := by decide +kernel
theorem dX11_text_46 : decode prog_1_method_15_code 46 = .ok (.getfield 53, 3) := by decide +kernel
theorem dX11_text_49 : decode prog_1_method_15_code 49 = .ok (.getfield 181, 3) := by decide +kernel
theorem dX11_text_52 : decode prog_1_method_15_code 52 = .ok (.ifCond .eq 5, 3) := by decide +kernel
theorem dX11_text_55 : decode prog_1_method_15_code 55 = .ok (.iconst (-1), 1) := by decide +kernel
theorem dX11_text_56 : decode prog_1_method_15_code 56 = .ok (.ireturn, 1) := by decide +kernel
theorem dX11_text_57 : decode prog_1_method_15_code 57 = .ok (.aload_n 0, 1) := by decide +kernel
theorem dX11_text_58 : decode prog_1_method_15_code 58 = .ok (.getfield 16, 3) := by decide +kernel
theorem dX11_text_61 : decode prog_1_method_15_code 61 = .ok (.iload_n 1, 1) := by decide +kernel
theorem dX11_text_62 : decode prog_1_method_15_code 62 = .ok (.aload_n 0, 1) := by decide +kernel
theorem dX11_text_63 : decode prog_1_method_15_code 63 = .ok (.getfield 53, 3) := by decide +kernel
theorem dX11_text_66 : decode prog_1_method_15_code 66 = .ok (.getfield 184, 3) := by decide +kernel
theorem dX11_text_69 : decode prog_1_method_15_code 69 = .ok (.aload_n 0, 1) := by decide +kernel
theorem dX11_text_70 : decode prog_1_method_15_code 70 = .ok (.getfield 53, 3) := by decide +kernel
theorem dX11_text_73 : decode prog_1_method_15_code 73 = .ok (.getfield 186, 3) := by decide +kernel
theorem dX11_text_76 : decode prog_1_method_15_code 76 = .ok (.invokevirtual 189, 3) := by decide +kernel
theorem dX11_text_79 : decode prog_1_method_15_code 79 = .ok (.iload_n 1, 1) := by decide +kernel
theorem dX11_text_80 : decode prog_1_method_15_code 80 = .ok (.ifCond .eq 10, 3) := by decide +kernel
theorem dX11_text_83 : decode prog_1_method_15_code 83 = .ok (.aload_n 0, 1) := by decide +kernel
theorem dX11_text_84 : decode prog_1_method_15_code 84 = .ok (.getfield 30, 3) := by decide +kernel
theorem dX11_text_87 : decode prog_1_method_15_code 87 = .ok (.invokevirtual 106, 3) := by decide +kernel
theorem dX11_text_90 : decode prog_1_method_15_code 90 = .ok (.aload_n 0, 1) := by decide +kernel
theorem dX11_text_91 : decode prog_1_method_15_code 91 = .ok (.getfield 53, 3) := by decide +kernel
theorem dX11_text_94 : decode prog_1_method_15_code 94 = .ok (.getfield 184, 3) := by decide +kernel
theorem dX11_text_97 : decode prog_1_method_15_code 97 = .ok (.getfield 117, 3) := by decide +kernel
theorem dX11_text_100 : decode prog_1_method_15_code 100 = .ok (.ireturn, 1) := by decide +kernel
theorem dX11_fault_0 : decode prog_1_method_16_code 0 = .ok (.iload_n 1, 1) := by decide +kernel
theorem dX11_fault_1 : decode prog_1_method_16_code 1 = .ok (.ifCond .ne 11, 3) := by decide +kernel
theorem dX11_fault_4 : decode prog_1_method_16_code 4 = .ok (.aload_n 0, 1) := by decide +kernel
theorem dX11_fault_5 : decode prog_1_method_16_code 5 = .ok (.getfield 53, 3) := by decide +kernel
theorem dX11_fault_8 : decode prog_1_method_16_code 8 = .ok (.getfield 181, 3) := by decide +kernel
theorem dX11_fault_11 : decode prog_1_method_16_code 11 = .ok (.ireturn, 1) := by decide +kernel
theorem dX11_fault_12 : decode prog_1_method_16_code 12 = .ok (.iload_n 1, 1) := by decide +kernel
theorem dX11_fault_13 : decode prog_1_method_16_code 13 = .ok (.iconst 1, 1) := by decide +kernel
theorem dX11_fault_14 : decode prog_1_method_16_code 14 = .ok (.if_icmp .ne 13, 3) := by decide +kernel
theorem dX11_fault_17 : decode prog_1_method_16_code 17 = .ok (.aload_n 0, 1) := by decide +kernel
theorem dX11_fault_18 : decode prog_1_method_16_code 18 = .ok (.getfield 53, 3) := by decide +kernel
theorem dX11_fault_21 : decode prog_1_method_16_code 21 = .ok (.getfield 193, 3) := by decide +kernel
theorem dX11_fault_24 : decode prog_1_method_16_code 24 = .ok (.goto 4, 3) := by decide +kernel
theorem dX11_fault_27 : decode prog_1_method_16_code 27 = .ok (.iconst (-1), 1) := by decide +kernel
theorem dX11_fault_28 : decode prog_1_method_16_code 28 = .ok (.ireturn, 1) := by decide +kernel
theorem dX11_of_0 : decode prog_1_method_17_code 0 = .ok (.aload_n 0, 1) := by decide +kernel
theorem dX11_of_1 : decode prog_1_method_17_code 1 = .ok (.getfield 16, 3) := by decide +kernel
theorem dX11_of_4 : decode prog_1_method_17_code 4 = .ok (.getfield 113, 3) := by decide +kernel
theorem dX11_of_7 : decode prog_1_method_17_code 7 = .ok (.iload_n 1, 1) := by decide +kernel
theorem dX11_of_8 : decode prog_1_method_17_code 8 = .ok (.invokevirtual 138, 3) := by decide +kernel
theorem dX11_of_11 : decode prog_1_method_17_code 11 = .ok (.ifCond .ne 5, 3) := by decide +kernel
theorem dX11_of_14 : decode prog_1_method_17_code 14 = .ok (.iconst (-1), 1) := by decide +kernel
theorem dX11_of_15 : decode prog_1_method_17_code 15 = .ok (.ireturn, 1) := by decide +kernel
theorem dX11_of_16 : decode prog_1_method_17_code 16 = .ok (.iload_n 2, 1) := by decide +kernel
theorem dX11_of_17 : decode prog_1_method_17_code 17 = .ok (.bipush 10, 2) := by decide +kernel
theorem dX11_of_19 : decode prog_1_method_17_code 19 = .ok (.if_icmp .ge 16, 3) := by decide +kernel
theorem dX11_of_22 : decode prog_1_method_17_code 22 = .ok (.aload_n 0, 1) := by decide +kernel
theorem dX11_of_23 : decode prog_1_method_17_code 23 = .ok (.getfield 16, 3) := by decide +kernel
theorem dX11_of_26 : decode prog_1_method_17_code 26 = .ok (.getfield 113, 3) := by decide +kernel
theorem dX11_of_29 : decode prog_1_method_17_code 29 = .ok (.iload_n 1, 1) := by decide +kernel
theorem dX11_of_30 : decode prog_1_method_17_code 30 = .ok (.iload_n 2, 1) := by decide +kernel
theorem dX11_of_31 : decode prog_1_method_17_code 31 = .ok (.invokevirtual 142, 3) := by decide +kernel
theorem dX11_of_34 : decode prog_1_method_17_code 34 = .ok (.ireturn, 1) := by decide +kernel
theorem dX11_of_35 : decode prog_1_method_17_code 35 = .ok (.aload_n 0, 1) := by decide +kernel
theorem dX11_of_36 : decode prog_1_method_17_code 36 = .ok (.getfield 16, 3) := by decide +kernel
theorem dX11_of_39 : decode prog_1_method_17_code 39 = .ok (.getfield 131, 3) := by decide +kernel
theorem dX11_of_42 : decode prog_1_method_17_code 42 = .ok (.iload_n 2, 1) := by decide +kernel
theorem dX11_of_43 : decode prog_1_method_17_code 43 = .ok (.bipush 10, 2) := by decide +kernel
theorem dX11_of_45 : decode prog_1_method_17_code 45 = .ok (.isub, 1) := by decide +kernel
theorem dX11_of_46 : decode prog_1_method_17_code 46 = .ok (.invokevirtual 138, 3) := by decide +kernel
theorem dX11_of_49 : decode prog_1_method_17_code 49 = .ok (.ifCond .eq 19, 3) := by decide +kernel
theorem dX11_of_52 : decode prog_1_method_17_code 52 = .ok (.aload_n 0, 1) := by decide +kernel
theorem dX11_of_53 : decode prog_1_method_17_code 53 = .ok (.getfield 62, 3) := by decide +kernel
theorem dX11_of_56 : decode prog_1_method_17_code 56 = .ok (.iload_n 1, 1) := by decide +kernel
theorem dX11_of_57 : decode prog_1_method_17_code 57 = .ok (.iload_n 2, 1) := by decide +kernel
theorem dX11_of_58 : decode prog_1_method_17_code 58 = .ok (.bipush 10, 2) := by decide +kernel
theorem dX11_of_60 : decode prog_1_method_17_code 60 = .ok (.isub, 1) := by decide +kernel
theorem dX11_of_61 : decode prog_1_method_17_code 61 = .ok (.iconst 0, 1) := by decide +kernel
theorem dX11_of_62 : decode prog_1_method_17_code 62 = .ok (.invokevirtual 196, 3) := by decide +kernel
theorem dX11_of_65 : decode prog_1_method_17_code 65 = .ok (.goto 4, 3) := by decide +kernel
theorem dX11_of_68 : decode prog_1_method_17_code 68 = .ok (.iconst (-1), 1) := by decide +kernel
theorem dX11_of_69 : decode prog_1_method_17_code 69 = .ok (.ireturn, 1) := by decide +kernel
theorem dX11_deedOf_0 : decode prog_1_method_18_code 0 = .ok (.aload_n 0, 1) := by decide +kernel
theorem dX11_deedOf_1 : decode prog_1_method_18_code 1 = .ok (.getfield 16, 3) := by decide +kernel
theorem dX11_deedOf_4 : decode prog_1_method_18_code 4 = .ok (.getfield 131, 3) := by decide +kernel
theorem dX11_deedOf_7 : decode prog_1_method_18_code 7 = .ok (.iload_n 1, 1) := by decide +kernel
theorem dX11_deedOf_8 : decode prog_1_method_18_code 8 = .ok (.invokevirtual 138, 3) := by decide +kernel
theorem dX11_deedOf_11 : decode prog_1_method_18_code 11 = .ok (.ifCond .ne 5, 3) := by decide +kernel
theorem dX11_deedOf_14 : decode prog_1_method_18_code 14 = .ok (.iconst (-1), 1) := by decide +kernel
theorem dX11_deedOf_15 : decode prog_1_method_18_code 15 = .ok (.ireturn, 1) := by decide +kernel
theorem dX11_deedOf_16 : decode prog_1_method_18_code 16 = .ok (.iload_n 2, 1) := by decide +kernel
theorem dX11_deedOf_17 : decode prog_1_method_18_code 17 = .ok (.iconst 5, 1) := by decide +kernel
theorem dX11_deedOf_18 : decode prog_1_method_18_code 18 = .ok (.if_icmp .ne 15, 3) := by decide +kernel
theorem dX11_deedOf_21 : decode prog_1_method_18_code 21 = .ok (.aload_n 0, 1) := by decide +kernel
theorem dX11_deedOf_22 : decode prog_1_method_18_code 22 = .ok (.getfield 62, 3) := by decide +kernel
theorem dX11_deedOf_25 : decode prog_1_method_18_code 25 = .ok (.sipush 256, 3) := by decide +kernel
theorem dX11_deedOf_28 : decode prog_1_method_18_code 28 = .ok (.iload_n 1, 1) := by decide +kernel
theorem dX11_deedOf_29 : decode prog_1_method_18_code 29 = .ok (.invokevirtual 200, 3) := by decide +kernel
theorem dX11_deedOf_32 : decode prog_1_method_18_code 32 = .ok (.ireturn, 1) := by decide +kernel
theorem dX11_deedOf_33 : decode prog_1_method_18_code 33 = .ok (.iload_n 2, 1) := by decide +kernel
theorem dX11_deedOf_34 : decode prog_1_method_18_code 34 = .ok (.bipush 6, 2) := by decide +kernel
theorem dX11_deedOf_36 : decode prog_1_method_18_code 36 = .ok (.if_icmp .ne 17, 3) := by decide +kernel
theorem dX11_deedOf_39 : decode prog_1_method_18_code 39 = .ok (.aload_n 0, 1) := by decide +kernel
theorem dX11_deedOf_40 : decode prog_1_method_18_code 40 = .ok (.getfield 62, 3) := by decide +kernel
theorem dX11_deedOf_43 : decode prog_1_method_18_code 43 = .ok (.sipush 258, 3) := by decide +kernel
theorem dX11_deedOf_46 : decode prog_1_method_18_code 46 = .ok (.iload_n 1, 1) := by decide +kernel
theorem dX11_deedOf_47 : decode prog_1_method_18_code 47 = .ok (.invokevirtual 200, 3) := by decide +kernel
theorem dX11_deedOf_50 : decode prog_1_method_18_code 50 = .ok (.goto 15, 3) := by decide +kernel
theorem dX11_deedOf_53 : decode prog_1_method_18_code 53 = .ok (.aload_n 0, 1) := by decide +kernel
theorem dX11_deedOf_54 : decode prog_1_method_18_code 54 = .ok (.getfield 16, 3) := by decide +kernel
theorem dX11_deedOf_57 : decode prog_1_method_18_code 57 = .ok (.getfield 131, 3) := by decide +kernel
theorem dX11_deedOf_60 : decode prog_1_method_18_code 60 = .ok (.iload_n 1, 1) := by decide +kernel
theorem dX11_deedOf_61 : decode prog_1_method_18_code 61 = .ok (.iload_n 2, 1) := by decide +kernel
theorem dX11_deedOf_62 : decode prog_1_method_18_code 62 = .ok (.invokevirtual 142, 3) := by decide +kernel
theorem dX11_deedOf_65 : decode prog_1_method_18_code 65 = .ok (.ireturn, 1) := by decide +kernel
theorem dX11_statute_0 : decode prog_1_method_19_code 0 = .ok (.iload_n 1, 1) := by decide +kernel
theorem dX11_statute_1 : decode prog_1_method_19_code 1 = .ok (.ifCond .ne 11, 3) := by decide +kernel
theorem dX11_statute_4 : decode prog_1_method_19_code 4 = .ok (.aload_n 0, 1) := by decide +kernel
theorem dX11_statute_5 : decode prog_1_method_19_code 5 = .ok (.getfield 16, 3) := by decide +kernel
theorem dX11_statute_8 : decode prog_1_method_19_code 8 = .ok (.invokevirtual 203, 3) := by decide +kernel
theorem dX11_statute_11 : decode prog_1_method_19_code 11 = .ok (.ireturn, 1) := by decide +kernel
theorem dX11_statute_12 : decode prog_1_method_19_code 12 = .ok (.iload_n 1, 1) := by decide +kernel
theorem dX11_statute_13 : decode prog_1_method_19_code 13 = .ok (.iconst 1, 1) := by decide +kernel
theorem dX11_statute_14 : decode prog_1_method_19_code 14 = .ok (.if_icmp .ne 11, 3) := by decide +kernel
theorem dX11_statute_17 : decode prog_1_method_19_code 17 = .ok (.aload_n 0, 1) := by decide +kernel
theorem dX11_statute_18 : decode prog_1_method_19_code 18 = .ok (.getfield 16, 3) := by decide +kernel
theorem dX11_statute_21 : decode prog_1_method_19_code 21 = .ok (.invokevirtual 206, 3) := by decide +kernel
theorem dX11_statute_24 : decode prog_1_method_19_code 24 = .ok (.ireturn, 1) := by decide +kernel
theorem dX11_statute_25 : decode prog_1_method_19_code 25 = .ok (.iload_n 1, 1) := by decide +kernel
theorem dX11_statute_26 : decode prog_1_method_19_code 26 = .ok (.iconst 2, 1) := by decide +kernel
theorem dX11_statute_27 : decode prog_1_method_19_code 27 = .ok (.if_icmp .ne 13, 3) := by decide +kernel
theorem dX11_statute_30 : decode prog_1_method_19_code 30 = .ok (.aload_n 0, 1) := by decide +kernel
theorem dX11_statute_31 : decode prog_1_method_19_code 31 = .ok (.getfield 16, 3) := by decide +kernel
theorem dX11_statute_34 : decode prog_1_method_19_code 34 = .ok (.invokevirtual 209, 3) := by decide +kernel
theorem dX11_statute_37 : decode prog_1_method_19_code 37 = .ok (.goto 4, 3) := by decide +kernel
theorem dX11_statute_40 : decode prog_1_method_19_code 40 = .ok (.iconst (-1), 1) := by decide +kernel
theorem dX11_statute_41 : decode prog_1_method_19_code 41 = .ok (.ireturn, 1) := by decide +kernel
theorem dX11_book_0 : decode prog_1_method_20_code 0 = .ok (.aload_n 0, 1) := by decide +kernel
theorem dX11_book_1 : decode prog_1_method_20_code 1 = .ok (.getfield 16, 3) := by decide +kernel
theorem dX11_book_4 : decode prog_1_method_20_code 4 = .ok (.getfield 212, 3) := by decide +kernel
theorem dX11_book_7 : decode prog_1_method_20_code 7 = .ok (.iload_n 1, 1) := by decide +kernel
theorem dX11_book_8 : decode prog_1_method_20_code 8 = .ok (.iload_n 2, 1) := by decide +kernel
theorem dX11_book_9 : decode prog_1_method_20_code 9 = .ok (.invokevirtual 142, 3) := by decide +kernel
theorem dX11_book_12 : decode prog_1_method_20_code 12 = .ok (.ireturn, 1) := by decide +kernel
theorem dX11_look_0 : decode prog_1_method_21_code 0 = .ok (.iload_n 1, 1) := by decide +kernel
theorem dX11_look_1 : decode prog_1_method_21_code 1 = .ok (.iconst 2, 1) := by decide +kernel
theorem dX11_look_2 : decode prog_1_method_21_code 2 = .ok (.if_icmp .lt 20, 3) := by decide +kernel
theorem dX11_look_5 : decode prog_1_method_21_code 5 = .ok (.iload_n 1, 1) := by decide +kernel
theorem dX11_look_6 : decode prog_1_method_21_code 6 = .ok (.bipush 7, 2) := by decide +kernel
theorem dX11_look_8 : decode prog_1_method_21_code 8 = .ok (.if_icmp .gt 14, 3) := by decide +kernel
theorem dX11_look_11 : decode prog_1_method_21_code 11 = .ok (.aload_n 0, 1) := by decide +kernel
theorem dX11_look_12 : decode prog_1_method_21_code 12 = .ok (.getfield 16, 3) := by decide +kernel
theorem dX11_look_15 : decode prog_1_method_21_code 15 = .ok (.iload_n 1, 1) := by decide +kernel
theorem dX11_look_16 : decode prog_1_method_21_code 16 = .ok (.iconst 2, 1) := by decide +kernel
theorem dX11_look_17 : decode prog_1_method_21_code 17 = .ok (.isub, 1) := by decide +kernel
theorem dX11_look_18 : decode prog_1_method_21_code 18 = .ok (.invokevirtual 98, 3) := by decide +kernel
theorem dX11_look_21 : decode prog_1_method_21_code 21 = .ok (.ireturn, 1) := by decide +kernel
theorem dX11_look_22 : decode prog_1_method_21_code 22 = .ok (.iload_n 1, 1) := by decide +kernel
theorem dX11_look_23 : decode prog_1_method_21_code 23 = .ok (.tableswitch 196 0 16 #[81, 92, 196, 196, 196, 196, 196, 196, 103, 112, 123, 133, 144, 155, 166, 177, 188], 81) := by decide +kernel
theorem dX11_look_104 : decode prog_1_method_21_code 104 = .ok (.aload_n 0, 1) := by decide +kernel
theorem dX11_look_105 : decode prog_1_method_21_code 105 = .ok (.getfield 16, 3) := by decide +kernel
theorem dX11_look_108 : decode prog_1_method_21_code 108 = .ok (.getfield 113, 3) := by decide +kernel
theorem dX11_look_111 : decode prog_1_method_21_code 111 = .ok (.getfield 117, 3) := by decide +kernel
theorem dX11_look_114 : decode prog_1_method_21_code 114 = .ok (.ireturn, 1) := by decide +kernel
theorem dX11_look_115 : decode prog_1_method_21_code 115 = .ok (.aload_n 0, 1) := by decide +kernel
theorem dX11_look_116 : decode prog_1_method_21_code 116 = .ok (.getfield 16, 3) := by decide +kernel
theorem dX11_look_119 : decode prog_1_method_21_code 119 = .ok (.getfield 131, 3) := by decide +kernel
theorem dX11_look_122 : decode prog_1_method_21_code 122 = .ok (.getfield 117, 3) := by decide +kernel
theorem dX11_look_125 : decode prog_1_method_21_code 125 = .ok (.ireturn, 1) := by decide +kernel
theorem dX11_look_126 : decode prog_1_method_21_code 126 = .ok (.aload_n 0, 1) := by decide +kernel
theorem dX11_look_127 : decode prog_1_method_21_code 127 = .ok (.getfield 16, 3) := by decide +kernel
theorem dX11_look_130 : decode prog_1_method_21_code 130 = .ok (.iconst 3, 1) := by decide +kernel
theorem dX11_look_131 : decode prog_1_method_21_code 131 = .ok (.invokevirtual 215, 3) := by decide +kernel
theorem dX11_look_134 : decode prog_1_method_21_code 134 = .ok (.ireturn, 1) := by decide +kernel
theorem dX11_look_135 : decode prog_1_method_21_code 135 = .ok (.aload_n 0, 1) := by decide +kernel
theorem dX11_look_136 : decode prog_1_method_21_code 136 = .ok (.getfield 16, 3) := by decide +kernel
theorem dX11_look_139 : decode prog_1_method_21_code 139 = .ok (.getfield 212, 3) := by decide +kernel
theorem dX11_look_142 : decode prog_1_method_21_code 142 = .ok (.getfield 117, 3) := by decide +kernel
theorem dX11_look_145 : decode prog_1_method_21_code 145 = .ok (.ireturn, 1) := by decide +kernel
theorem dX11_look_146 : decode prog_1_method_21_code 146 = .ok (.aload_n 0, 1) := by decide +kernel
theorem dX11_look_147 : decode prog_1_method_21_code 147 = .ok (.getfield 16, 3) := by decide +kernel
theorem dX11_look_150 : decode prog_1_method_21_code 150 = .ok (.bipush 6, 2) := by decide +kernel
theorem dX11_look_152 : decode prog_1_method_21_code 152 = .ok (.invokevirtual 98, 3) := by decide +kernel
theorem dX11_look_155 : decode prog_1_method_21_code 155 = .ok (.ireturn, 1) := by decide +kernel
theorem dX11_look_156 : decode prog_1_method_21_code 156 = .ok (.aload_n 0, 1) := by decide +kernel
theorem dX11_look_157 : decode prog_1_method_21_code 157 = .ok (.getfield 16, 3) := by decide +kernel
theorem dX11_look_160 : decode prog_1_method_21_code 160 = .ok (.getfield 218, 3) := by decide +kernel
theorem dX11_look_163 : decode prog_1_method_21_code 163 = .ok (.getfield 117, 3) := by decide +kernel
theorem dX11_look_166 : decode prog_1_method_21_code 166 = .ok (.ireturn, 1) := by decide +kernel
theorem dX11_look_167 : decode prog_1_method_21_code 167 = .ok (.aload_n 0, 1) := by decide +kernel
theorem dX11_look_168 : decode prog_1_method_21_code 168 = .ok (.getfield 16, 3) := by decide +kernel
theorem dX11_look_171 : decode prog_1_method_21_code 171 = .ok (.getfield 221, 3) := by decide +kernel
theorem dX11_look_174 : decode prog_1_method_21_code 174 = .ok (.getfield 117, 3) := by decide +kernel
theorem dX11_look_177 : decode prog_1_method_21_code 177 = .ok (.ireturn, 1) := by decide +kernel
theorem dX11_look_178 : decode prog_1_method_21_code 178 = .ok (.aload_n 0, 1) := by decide +kernel
theorem dX11_look_179 : decode prog_1_method_21_code 179 = .ok (.getfield 16, 3) := by decide +kernel
theorem dX11_look_182 : decode prog_1_method_21_code 182 = .ok (.getfield 224, 3) := by decide +kernel
theorem dX11_look_185 : decode prog_1_method_21_code 185 = .ok (.getfield 117, 3) := by decide +kernel
theorem dX11_look_188 : decode prog_1_method_21_code 188 = .ok (.ireturn, 1) := by decide +kernel
theorem dX11_look_189 : decode prog_1_method_21_code 189 = .ok (.aload_n 0, 1) := by decide +kernel
theorem dX11_look_190 : decode prog_1_method_21_code 190 = .ok (.getfield 16, 3) := by decide +kernel
theorem dX11_look_193 : decode prog_1_method_21_code 193 = .ok (.getfield 226, 3) := by decide +kernel
theorem dX11_look_196 : decode prog_1_method_21_code 196 = .ok (.getfield 117, 3) := by decide +kernel
theorem dX11_look_199 : decode prog_1_method_21_code 199 = .ok (.ireturn, 1) := by decide +kernel
theorem dX11_look_200 : decode prog_1_method_21_code 200 = .ok (.aload_n 0, 1) := by decide +kernel
theorem dX11_look_201 : decode prog_1_method_21_code 201 = .ok (.getfield 16, 3) := by decide +kernel
theorem dX11_look_204 : decode prog_1_method_21_code 204 = .ok (.getfield 229, 3) := by decide +kernel
theorem dX11_look_207 : decode prog_1_method_21_code 207 = .ok (.getfield 117, 3) := by decide +kernel
theorem dX11_look_210 : decode prog_1_method_21_code 210 = .ok (.ireturn, 1) := by decide +kernel
theorem dX11_look_211 : decode prog_1_method_21_code 211 = .ok (.aload_n 0, 1) := by decide +kernel
theorem dX11_look_212 : decode prog_1_method_21_code 212 = .ok (.getfield 30, 3) := by decide +kernel
theorem dX11_look_215 : decode prog_1_method_21_code 215 = .ok (.getfield 232, 3) := by decide +kernel
theorem dX11_look_218 : decode prog_1_method_21_code 218 = .ok (.ireturn, 1) := by decide +kernel
theorem dX11_look_219 : decode prog_1_method_21_code 219 = .ok (.ldc 235, 2) := by decide +kernel
theorem dX11_look_221 : decode prog_1_method_21_code 221 = .ok (.ireturn, 1) := by decide +kernel
theorem dX11_goes_0 : decode prog_1_method_22_code 0 = .ok (.iload_n 1, 1) := by decide +kernel
theorem dX11_goes_1 : decode prog_1_method_22_code 1 = .ok (.bipush 10, 2) := by decide +kernel
theorem dX11_goes_3 : decode prog_1_method_22_code 3 = .ok (.if_icmp .lt 24, 3) := by decide +kernel
theorem dX11_goes_6 : decode prog_1_method_22_code 6 = .ok (.aload_n 0, 1) := by decide +kernel
theorem dX11_goes_7 : decode prog_1_method_22_code 7 = .ok (.getfield 16, 3) := by decide +kernel
theorem dX11_goes_10 : decode prog_1_method_22_code 10 = .ok (.getfield 131, 3) := by decide +kernel
theorem dX11_goes_13 : decode prog_1_method_22_code 13 = .ok (.iload_n 1, 1) := by decide +kernel
theorem dX11_goes_14 : decode prog_1_method_22_code 14 = .ok (.bipush 10, 2) := by decide +kernel
theorem dX11_goes_16 : decode prog_1_method_22_code 16 = .ok (.isub, 1) := by decide +kernel
theorem dX11_goes_17 : decode prog_1_method_22_code 17 = .ok (.invokevirtual 138, 3) := by decide +kernel
theorem dX11_goes_20 : decode prog_1_method_22_code 20 = .ok (.ifCond .eq 7, 3) := by decide +kernel
theorem dX11_goes_23 : decode prog_1_method_22_code 23 = .ok (.iconst 1, 1) := by decide +kernel
theorem dX11_goes_24 : decode prog_1_method_22_code 24 = .ok (.goto 4, 3) := by decide +kernel
theorem dX11_goes_27 : decode prog_1_method_22_code 27 = .ok (.iconst 0, 1) := by decide +kernel
theorem dX11_goes_28 : decode prog_1_method_22_code 28 = .ok (.istore_n 2, 1) := by decide +kernel
theorem dX11_goes_29 : decode prog_1_method_22_code 29 = .ok (.iload_n 1, 1) := by decide +kernel
theorem dX11_goes_30 : decode prog_1_method_22_code 30 = .ok (.ifCond .eq 15, 3) := by decide +kernel
theorem dX11_goes_33 : decode prog_1_method_22_code 33 = .ok (.iload_n 1, 1) := by decide +kernel
theorem dX11_goes_34 : decode prog_1_method_22_code 34 = .ok (.iconst 1, 1) := by decide +kernel
theorem dX11_goes_35 : decode prog_1_method_22_code 35 = .ok (.if_icmp .eq 10, 3) := by decide +kernel
theorem dX11_goes_38 : decode prog_1_method_22_code 38 = .ok (.iload_n 2, 1) := by decide +kernel
theorem dX11_goes_39 : decode prog_1_method_22_code 39 = .ok (.ifCond .ne 6, 3) := by decide +kernel
theorem dX11_goes_42 : decode prog_1_method_22_code 42 = .ok (.ldc 235, 2) := by decide +kernel
theorem dX11_goes_44 : decode prog_1_method_22_code 44 = .ok (.ireturn, 1) := by decide +kernel
theorem dX11_goes_45 : decode prog_1_method_22_code 45 = .ok (.iload_n 2, 1) := by decide +kernel
theorem dX11_goes_46 : decode prog_1_method_22_code 46 = .ok (.ifCond .eq 21, 3) := by decide +kernel
theorem dX11_goes_49 : decode prog_1_method_22_code 49 = .ok (.aload_n 0, 1) := by decide +kernel
theorem dX11_goes_50 : decode prog_1_method_22_code 50 = .ok (.getfield 16, 3) := by decide +kernel
theorem dX11_goes_53 : decode prog_1_method_22_code 53 = .ok (.getfield 131, 3) := by decide +kernel
theorem dX11_goes_56 : decode prog_1_method_22_code 56 = .ok (.iload_n 1, 1) := by decide +kernel
theorem dX11_goes_57 : decode prog_1_method_22_code 57 = .ok (.bipush 10, 2) := by decide +kernel
theorem dX11_goes_59 : decode prog_1_method_22_code 59 = .ok (.isub, 1) := by decide +kernel
theorem dX11_goes_60 : decode prog_1_method_22_code 60 = .ok (.iconst 4, 1) := by decide +kernel
theorem dX11_goes_61 : decode prog_1_method_22_code 61 = .ok (.invokevirtual 142, 3) := by decide +kernel
theorem dX11_goes_64 : decode prog_1_method_22_code 64 = .ok (.goto 4, 3) := by decide +kernel
theorem dX11_goes_67 : decode prog_1_method_22_code 67 = .ok (.iconst 0, 1) := by decide +kernel
theorem dX11_goes_68 : decode prog_1_method_22_code 68 = .ok (.istore_n 3, 1) := by decide +kernel
theorem dX11_goes_69 : decode prog_1_method_22_code 69 = .ok (.aload_n 0, 1) := by decide +kernel
theorem dX11_goes_70 : decode prog_1_method_22_code 70 = .ok (.getfield 37, 3) := by decide +kernel
theorem dX11_goes_73 : decode prog_1_method_22_code 73 = .ok (.aload_n 0, 1) := by decide +kernel
theorem dX11_goes_74 : decode prog_1_method_22_code 74 = .ok (.getfield 16, 3) := by decide +kernel
theorem dX11_goes_77 : decode prog_1_method_22_code 77 = .ok (.invokevirtual 236, 3) := by decide +kernel
theorem dX11_goes_80 : decode prog_1_method_22_code 80 = .ok (.aload_n 0, 1) := by decide +kernel
theorem dX11_goes_81 : decode prog_1_method_22_code 81 = .ok (.getfield 71, 3) := by decide +kernel
theorem dX11_goes_84 : decode prog_1_method_22_code 84 = .ok (.iconst 1, 1) := by decide +kernel
theorem dX11_goes_85 : decode prog_1_method_22_code 85 = .ok (.putfield 237, 3) := by decide +kernel
theorem dX11_goes_88 : decode prog_1_method_22_code 88 = .ok (.aload_n 0, 1) := by decide +kernel
theorem dX11_goes_89 : decode prog_1_method_22_code 89 = .ok (.getfield 71, 3) := by decide +kernel
theorem dX11_goes_92 : decode prog_1_method_22_code 92 = .ok (.invokevirtual 164, 3) := by decide +kernel
theorem dX11_goes_95 : decode prog_1_method_22_code 95 = .ok (.pop, 1) := by decide +kernel
theorem dX11_goes_96 : decode prog_1_method_22_code 96 = .ok (.aload_n 0, 1) := by decide +kernel
theorem dX11_goes_97 : decode prog_1_method_22_code 97 = .ok (.getfield 71, 3) := by decide +kernel
theorem dX11_goes_100 : decode prog_1_method_22_code 100 = .ok (.iconst 0, 1) := by decide +kernel
theorem dX11_goes_101 : decode prog_1_method_22_code 101 = .ok (.putfield 237, 3) := by decide +kernel
theorem dX11_goes_104 : decode prog_1_method_22_code 104 = .ok (.iload_n 2, 1) := by decide +kernel
theorem dX11_goes_105 : decode prog_1_method_22_code 105 = .ok (.ifCond .eq 23, 3) := by decide +kernel
theorem dX11_goes_108 : decode prog_1_method_22_code 108 = .ok (.aload_n 0, 1) := by decide +kernel
theorem dX11_goes_109 : decode prog_1_method_22_code 109 = .ok (.getfield 16, 3) := by decide +kernel
theorem dX11_goes_112 : decode prog_1_method_22_code 112 = .ok (.getfield 131, 3) := by decide +kernel
theorem dX11_goes_115 : decode prog_1_method_22_code 115 = .ok (.iload_n 1, 1) := by decide +kernel
theorem dX11_goes_116 : decode prog_1_method_22_code 116 = .ok (.bipush 10, 2) := by decide +kernel
theorem dX11_goes_118 : decode prog_1_method_22_code 118 = .ok (.isub, 1) := by decide +kernel
theorem dX11_goes_119 : decode prog_1_method_22_code 119 = .ok (.iconst 4, 1) := by decide +kernel
theorem dX11_goes_120 : decode prog_1_method_22_code 120 = .ok (.invokevirtual 142, 3) := by decide +kernel
theorem dX11_goes_123 : decode prog_1_method_22_code 123 = .ok (.iload_n 3, 1) := by decide +kernel
theorem dX11_goes_124 : decode prog_1_method_22_code 124 = .ok (.isub, 1) := by decide +kernel
theorem dX11_goes_125 : decode prog_1_method_22_code 125 = .ok (.goto 19, 3) := by decide +kernel
theorem dX11_goes_128 : decode prog_1_method_22_code 128 = .ok (.aload_n 0, 1) := by decide +kernel
theorem dX11_goes_129 : decode prog_1_method_22_code 129 = .ok (.getfield 16, 3) := by decide +kernel
theorem dX11_goes_132 : decode prog_1_method_22_code 132 = .ok (.iload_n 1, 1) := by decide +kernel
theorem dX11_goes_133 : decode prog_1_method_22_code 133 = .ok (.ifCond .ne 7, 3) := by decide +kernel
theorem dX11_goes_136 : decode prog_1_method_22_code 136 = .ok (.iconst 0, 1) := by decide +kernel
theorem dX11_goes_137 : decode prog_1_method_22_code 137 = .ok (.goto 4, 3) := by decide +kernel
theorem dX11_goes_140 : decode prog_1_method_22_code 140 = .ok (.iconst 2, 1) := by decide +kernel
theorem dX11_goes_141 : decode prog_1_method_22_code 141 = .ok (.invokevirtual 98, 3) := by decide +kernel
theorem dX11_goes_144 : decode prog_1_method_22_code 144 = .ok (.istore 4, 2) := by decide +kernel
theorem dX11_goes_146 : decode prog_1_method_22_code 146 = .ok (.aload_n 0, 1) := by decide +kernel
theorem dX11_goes_147 : decode prog_1_method_22_code 147 = .ok (.getfield 37, 3) := by decide +kernel
theorem dX11_goes_150 : decode prog_1_method_22_code 150 = .ok (.aload_n 0, 1) := by decide +kernel
theorem dX11_goes_151 : decode prog_1_method_22_code 151 = .ok (.getfield 16, 3) := by decide +kernel
theorem dX11_goes_154 : decode prog_1_method_22_code 154 = .ok (.invokevirtual 240, 3) := by decide +kernel
theorem dX11_goes_157 : decode prog_1_method_22_code 157 = .ok (.iload 4, 2) := by decide +kernel
theorem dX11_goes_159 : decode prog_1_method_22_code 159 = .ok (.ireturn, 1) := by decide +kernel
theorem dX11_settles_0 : decode prog_1_method_23_code 0 = .ok (.aload_n 0, 1) := by decide +kernel
theorem dX11_settles_1 : decode prog_1_method_23_code 1 = .ok (.getfield 16, 3) := by decide +kernel
theorem dX11_settles_4 : decode prog_1_method_23_code 4 = .ok (.getfield 131, 3) := by decide +kernel
theorem dX11_settles_7 : decode prog_1_method_23_code 7 = .ok (.iload_n 1, 1) := by decide +kernel
theorem dX11_settles_8 : decode prog_1_method_23_code 8 = .ok (.invokevirtual 138, 3) := by decide +kernel
theorem dX11_settles_11 : decode prog_1_method_23_code 11 = .ok (.ifCond .eq 12, 3) := by decide +kernel
theorem dX11_settles_14 : decode prog_1_method_23_code 14 = .ok (.iload_n 2, 1) := by decide +kernel
theorem dX11_settles_15 : decode prog_1_method_23_code 15 = .ok (.iconst 0, 1) := by decide +kernel
theorem dX11_settles_16 : decode prog_1_method_23_code 16 = .ok (.iconst 2, 1) := by decide +kernel
theorem dX11_settles_17 : decode prog_1_method_23_code 17 = .ok (.invokestatic 109, 3) := by decide +kernel
theorem dX11_settles_20 : decode prog_1_method_23_code 20 = .ok (.ifCond .ne 5, 3) := by decide +kernel
theorem dX11_settles_23 : decode prog_1_method_23_code 23 = .ok (.iconst (-1), 1) := by decide +kernel
theorem dX11_settles_24 : decode prog_1_method_23_code 24 = .ok (.ireturn, 1) := by decide +kernel
theorem dX11_settles_25 : decode prog_1_method_23_code 25 = .ok (.aload_n 0, 1) := by decide +kernel
theorem dX11_settles_26 : decode prog_1_method_23_code 26 = .ok (.iload_n 1, 1) := by decide +kernel
theorem dX11_settles_27 : decode prog_1_method_23_code 27 = .ok (.invokevirtual 243, 3) := by decide +kernel
theorem dX11_settles_30 : decode prog_1_method_23_code 30 = .ok (.istore_n 3, 1) := by decide +kernel
theorem dX11_settles_31 : decode prog_1_method_23_code 31 = .ok (.iload_n 2, 1) := by decide +kernel
theorem dX11_settles_32 : decode prog_1_method_23_code 32 = .ok (.iconst 2, 1) := by decide +kernel
theorem dX11_settles_33 : decode prog_1_method_23_code 33 = .ok (.if_icmp .ne 5, 3) := by decide +kernel
theorem dX11_settles_36 : decode prog_1_method_23_code 36 = .ok (.iload_n 3, 1) := by decide +kernel
theorem dX11_settles_37 : decode prog_1_method_23_code 37 = .ok (.ireturn, 1) := by decide +kernel
theorem dX11_settles_38 : decode prog_1_method_23_code 38 = .ok (.iload_n 2, 1) := by decide +kernel
theorem dX11_settles_39 : decode prog_1_method_23_code 39 = .ok (.ifCond .ne 13, 3) := by decide +kernel
theorem dX11_settles_42 : decode prog_1_method_23_code 42 = .ok (.aload_n 0, 1) := by decide +kernel
theorem dX11_settles_43 : decode prog_1_method_23_code 43 = .ok (.getfield 71, 3) := by decide +kernel
theorem dX11_settles_46 : decode prog_1_method_23_code 46 = .ok (.getfield 246, 3) := by decide +kernel
theorem dX11_settles_49 : decode prog_1_method_23_code 49 = .ok (.goto 10, 3) := by decide +kernel
theorem dX11_settles_52 : decode prog_1_method_23_code 52 = .ok (.aload_n 0, 1) := by decide +kernel
theorem dX11_settles_53 : decode prog_1_method_23_code 53 = .ok (.getfield 71, 3) := by decide +kernel
theorem dX11_settles_56 : decode prog_1_method_23_code 56 = .ok (.getfield 249, 3) := by decide +kernel
theorem dX11_settles_59 : decode prog_1_method_23_code 59 = .ok (.ireturn, 1) := by decide +kernel
theorem dX11_settle_0 : decode prog_1_method_24_code 0 = .ok (.aload_n 0, 1) := by decide +kernel
theorem dX11_settle_1 : decode prog_1_method_24_code 1 = .ok (.getfield 37, 3) := by decide +kernel
theorem dX11_settle_4 : decode prog_1_method_24_code 4 = .ok (.aload_n 0, 1) := by decide +kernel
theorem dX11_settle_5 : decode prog_1_method_24_code 5 = .ok (.getfield 16, 3) := by decide +kernel
theorem dX11_settle_8 : decode prog_1_method_24_code 8 = .ok (.invokevirtual 236, 3) := by decide +kernel
theorem dX11_settle_11 : decode prog_1_method_24_code 11 = .ok (.aload_n 0, 1) := by decide +kernel
theorem dX11_settle_12 : decode prog_1_method_24_code 12 = .ok (.getfield 71, 3) := by decide +kernel
theorem dX11_settle_15 : decode prog_1_method_24_code 15 = .ok (.iconst 1, 1) := by decide +kernel
theorem dX11_settle_16 : decode prog_1_method_24_code 16 = .ok (.putfield 237, 3) := by decide +kernel
theorem dX11_settle_19 : decode prog_1_method_24_code 19 = .ok (.aload_n 0, 1) := by decide +kernel
theorem dX11_settle_20 : decode prog_1_method_24_code 20 = .ok (.getfield 71, 3) := by decide +kernel
theorem dX11_settle_23 : decode prog_1_method_24_code 23 = .ok (.iload_n 1, 1) := by decide +kernel
theorem dX11_settle_24 : decode prog_1_method_24_code 24 = .ok (.invokevirtual 252, 3) := by decide +kernel
theorem dX11_settle_27 : decode prog_1_method_24_code 27 = .ok (.aload_n 0, 1) := by decide +kernel
theorem dX11_settle_28 : decode prog_1_method_24_code 28 = .ok (.getfield 71, 3) := by decide +kernel
theorem dX11_settle_31 : decode prog_1_method_24_code 31 = .ok (.iload_n 1, 1) := by decide +kernel
theorem dX11_settle_32 : decode prog_1_method_24_code 32 = .ok (.invokevirtual 255, 3) := by decide +kernel
theorem dX11_settle_35 : decode prog_1_method_24_code 35 = .ok (.aload_n 0, 1) := by decide +kernel
theorem dX11_settle_36 : decode prog_1_method_24_code 36 = .ok (.getfield 71, 3) := by decide +kernel
theorem dX11_settle_39 : decode prog_1_method_24_code 39 = .ok (.iload_n 1, 1) := by decide +kernel
theorem dX11_settle_40 : decode prog_1_method_24_code 40 = .ok (.invokevirtual 258, 3) := by decide +kernel
theorem dX11_settle_43 : decode prog_1_method_24_code 43 = .ok (.istore_n 2, 1) := by decide +kernel
theorem dX11_settle_44 : decode prog_1_method_24_code 44 = .ok (.aload_n 0, 1) := by decide +kernel
theorem dX11_settle_45 : decode prog_1_method_24_code 45 = .ok (.getfield 71, 3) := by decide +kernel
theorem dX11_settle_48 : decode prog_1_method_24_code 48 = .ok (.iconst 0, 1) := by decide +kernel
theorem dX11_settle_49 : decode prog_1_method_24_code 49 = .ok (.putfield 237, 3) := by decide +kernel
theorem dX11_settle_52 : decode prog_1_method_24_code 52 = .ok (.aload_n 0, 1) := by decide +kernel
theorem dX11_settle_53 : decode prog_1_method_24_code 53 = .ok (.getfield 37, 3) := by decide +kernel
theorem dX11_settle_56 : decode prog_1_method_24_code 56 = .ok (.aload_n 0, 1) := by decide +kernel
theorem dX11_settle_57 : decode prog_1_method_24_code 57 = .ok (.getfield 16, 3) := by decide +kernel
theorem dX11_settle_60 : decode prog_1_method_24_code 60 = .ok (.invokevirtual 240, 3) := by decide +kernel
theorem dX11_settle_63 : decode prog_1_method_24_code 63 = .ok (.iload_n 2, 1) := by decide +kernel
theorem dX11_settle_64 : decode prog_1_method_24_code 64 = .ok (.ireturn, 1) := by decide +kernel
theorem dX11_makes_0 : decode prog_1_method_25_code 0 = .ok (.aload_n 0, 1) := by decide +kernel
theorem dX11_makes_1 : decode prog_1_method_25_code 1 = .ok (.getfield 16, 3) := by decide +kernel
theorem dX11_makes_4 : decode prog_1_method_25_code 4 = .ok (.getfield 131, 3) := by decide +kernel
theorem dX11_makes_7 : decode prog_1_method_25_code 7 = .ok (.iload_n 1, 1) := by decide +kernel
theorem dX11_makes_8 : decode prog_1_method_25_code 8 = .ok (.invokevirtual 138, 3) := by decide +kernel
theorem dX11_makes_11 : decode prog_1_method_25_code 11 = .ok (.ifCond .eq 21, 3) := by decide +kernel
theorem dX11_makes_14 : decode prog_1_method_25_code 14 = .ok (.iload_n 2, 1) := by decide +kernel
theorem dX11_makes_15 : decode prog_1_method_25_code 15 = .ok (.iconst 1, 1) := by decide +kernel
theorem dX11_makes_16 : decode prog_1_method_25_code 16 = .ok (.iconst 5, 1) := by decide +kernel
theorem dX11_makes_17 : decode prog_1_method_25_code 17 = .ok (.invokestatic 109, 3) := by decide +kernel
theorem dX11_makes_20 : decode prog_1_method_25_code 20 = .ok (.ifCond .eq 12, 3) := by decide +kernel
theorem dX11_makes_23 : decode prog_1_method_25_code 23 = .ok (.iload_n 3, 1) := by decide +kernel
theorem dX11_makes_24 : decode prog_1_method_25_code 24 = .ok (.iconst 0, 1) := by decide +kernel
theorem dX11_makes_25 : decode prog_1_method_25_code 25 = .ok (.iconst 1, 1) := by decide +kernel
theorem dX11_makes_26 : decode prog_1_method_25_code 26 = .ok (.invokestatic 109, 3) := by decide +kernel
theorem dX11_makes_29 : decode prog_1_method_25_code 29 = .ok (.ifCond .ne 5, 3) := by decide +kernel
theorem dX11_makes_32 : decode prog_1_method_25_code 32 = .ok (.iconst (-1), 1) := by decide +kernel
theorem dX11_makes_33 : decode prog_1_method_25_code 33 = .ok (.ireturn, 1) := by decide +kernel
theorem dX11_makes_34 : decode prog_1_method_25_code 34 = .ok (.aload_n 0, 1) := by decide +kernel
theorem dX11_makes_35 : decode prog_1_method_25_code 35 = .ok (.iload_n 1, 1) := by decide +kernel
theorem dX11_makes_36 : decode prog_1_method_25_code 36 = .ok (.iload_n 2, 1) := by decide +kernel
theorem dX11_makes_37 : decode prog_1_method_25_code 37 = .ok (.invokevirtual 261, 3) := by decide +kernel
theorem dX11_makes_40 : decode prog_1_method_25_code 40 = .ok (.iload_n 3, 1) := by decide +kernel
theorem dX11_makes_41 : decode prog_1_method_25_code 41 = .ok (.invokestatic 264, 3) := by decide +kernel
theorem dX11_makes_44 : decode prog_1_method_25_code 44 = .ok (.ireturn, 1) := by decide +kernel
theorem dX11_brakes_0 : decode prog_1_method_26_code 0 = .ok (.aload_n 0, 1) := by decide +kernel
theorem dX11_brakes_1 : decode prog_1_method_26_code 1 = .ok (.getfield 16, 3) := by decide +kernel
theorem dX11_brakes_4 : decode prog_1_method_26_code 4 = .ok (.getfield 131, 3) := by decide +kernel
theorem dX11_brakes_7 : decode prog_1_method_26_code 7 = .ok (.iload_n 1, 1) := by decide +kernel
theorem dX11_brakes_8 : decode prog_1_method_26_code 8 = .ok (.invokevirtual 138, 3) := by decide +kernel
theorem dX11_brakes_11 : decode prog_1_method_26_code 11 = .ok (.ifCond .eq 12, 3) := by decide +kernel
theorem dX11_brakes_14 : decode prog_1_method_26_code 14 = .ok (.iload_n 2, 1) := by decide +kernel
theorem dX11_brakes_15 : decode prog_1_method_26_code 15 = .ok (.iconst 0, 1) := by decide +kernel
theorem dX11_brakes_16 : decode prog_1_method_26_code 16 = .ok (.iconst 1, 1) := by decide +kernel
theorem dX11_brakes_17 : decode prog_1_method_26_code 17 = .ok (.invokestatic 109, 3) := by decide +kernel
theorem dX11_brakes_20 : decode prog_1_method_26_code 20 = .ok (.ifCond .ne 5, 3) := by decide +kernel
theorem dX11_brakes_23 : decode prog_1_method_26_code 23 = .ok (.iconst (-1), 1) := by decide +kernel
theorem dX11_brakes_24 : decode prog_1_method_26_code 24 = .ok (.ireturn, 1) := by decide +kernel
theorem dX11_brakes_25 : decode prog_1_method_26_code 25 = .ok (.aload_n 0, 1) := by decide +kernel
theorem dX11_brakes_26 : decode prog_1_method_26_code 26 = .ok (.iload_n 1, 1) := by decide +kernel
theorem dX11_brakes_27 : decode prog_1_method_26_code 27 = .ok (.iconst 1, 1) := by decide +kernel
theorem dX11_brakes_28 : decode prog_1_method_26_code 28 = .ok (.invokevirtual 261, 3) := by decide +kernel
theorem dX11_brakes_31 : decode prog_1_method_26_code 31 = .ok (.iload_n 2, 1) := by decide +kernel
theorem dX11_brakes_32 : decode prog_1_method_26_code 32 = .ok (.invokestatic 264, 3) := by decide +kernel
theorem dX11_brakes_35 : decode prog_1_method_26_code 35 = .ok (.ireturn, 1) := by decide +kernel
theorem dX11_fewestAway_0 : decode prog_1_method_27_code 0 = .ok (.aload_n 0, 1) := by decide +kernel
theorem dX11_fewestAway_1 : decode prog_1_method_27_code 1 = .ok (.getfield 37, 3) := by decide +kernel
theorem dX11_fewestAway_4 : decode prog_1_method_27_code 4 = .ok (.aload_n 0, 1) := by decide +kernel
theorem dX11_fewestAway_5 : decode prog_1_method_27_code 5 = .ok (.getfield 16, 3) := by decide +kernel
theorem dX11_fewestAway_8 : decode prog_1_method_27_code 8 = .ok (.invokevirtual 236, 3) := by decide +kernel
theorem dX11_fewestAway_11 : decode prog_1_method_27_code 11 = .ok (.aload_n 0, 1) := by decide +kernel
theorem dX11_fewestAway_12 : decode prog_1_method_27_code 12 = .ok (.getfield 80, 3) := by decide +kernel
theorem dX11_fewestAway_15 : decode prog_1_method_27_code 15 = .ok (.iload_n 1, 1) := by decide +kernel
theorem dX11_fewestAway_16 : decode prog_1_method_27_code 16 = .ok (.iload_n 2, 1) := by decide +kernel
theorem dX11_fewestAway_17 : decode prog_1_method_27_code 17 = .ok (.invokevirtual 267, 3) := by decide +kernel
theorem dX11_fewestAway_20 : decode prog_1_method_27_code 20 = .ok (.aload_n 0, 1) := by decide +kernel
theorem dX11_fewestAway_21 : decode prog_1_method_27_code 21 = .ok (.getfield 37, 3) := by decide +kernel
theorem dX11_fewestAway_24 : decode prog_1_method_27_code 24 = .ok (.aload_n 0, 1) := by decide +kernel
theorem dX11_fewestAway_25 : decode prog_1_method_27_code 25 = .ok (.getfield 16, 3) := by decide +kernel
theorem dX11_fewestAway_28 : decode prog_1_method_27_code 28 = .ok (.invokevirtual 240, 3) := by decide +kernel
theorem dX11_fewestAway_31 : decode prog_1_method_27_code 31 = .ok (.aload_n 0, 1) := by decide +kernel
theorem dX11_fewestAway_32 : decode prog_1_method_27_code 32 = .ok (.getfield 80, 3) := by decide +kernel
theorem dX11_fewestAway_35 : decode prog_1_method_27_code 35 = .ok (.iload_n 2, 1) := by decide +kernel
theorem dX11_fewestAway_36 : decode prog_1_method_27_code 36 = .ok (.invokevirtual 270, 3) := by decide +kernel
theorem dX11_fewestAway_39 : decode prog_1_method_27_code 39 = .ok (.ireturn, 1) := by decide +kernel
theorem dX11_numberOrSet_0 : decode prog_1_method_28_code 0 = .ok (.iload_n 0, 1) := by decide +kernel
theorem dX11_numberOrSet_1 : decode prog_1_method_28_code 1 = .ok (.iconst (-1), 1) := by decide +kernel
theorem dX11_numberOrSet_2 : decode prog_1_method_28_code 2 = .ok (.if_icmp .eq 8, 3) := by decide +kernel
theorem dX11_numberOrSet_5 : decode prog_1_method_28_code 5 = .ok (.iload_n 1, 1) := by decide +kernel
theorem dX11_numberOrSet_6 : decode prog_1_method_28_code 6 = .ok (.iconst 1, 1) := by decide +kernel
theorem dX11_numberOrSet_7 : decode prog_1_method_28_code 7 = .ok (.if_icmp .ne 7, 3) := by decide +kernel
theorem dX11_numberOrSet_10 : decode prog_1_method_28_code 10 = .ok (.iload_n 0, 1) := by decide +kernel
theorem dX11_numberOrSet_11 : decode prog_1_method_28_code 11 = .ok (.goto 7, 3) := by decide +kernel
theorem dX11_numberOrSet_14 : decode prog_1_method_28_code 14 = .ok (.iload_n 0, 1) := by decide +kernel
theorem dX11_numberOrSet_15 : decode prog_1_method_28_code 15 = .ok (.invokestatic 273, 3) := by decide +kernel
theorem dX11_numberOrSet_18 : decode prog_1_method_28_code 18 = .ok (.ireturn, 1) := by decide +kernel
theorem dX11_gain_0 : decode prog_1_method_29_code 0 = .ok (.aload_n 0, 1) := by decide +kernel
theorem dX11_gain_1 : decode prog_1_method_29_code 1 = .ok (.getfield 16, 3) := by decide +kernel
theorem dX11_gain_4 : decode prog_1_method_29_code 4 = .ok (.getfield 131, 3) := by decide +kernel
theorem dX11_gain_7 : decode prog_1_method_29_code 7 = .ok (.iload_n 1, 1) := by decide +kernel
theorem dX11_gain_8 : decode prog_1_method_29_code 8 = .ok (.invokevirtual 138, 3) := by decide +kernel
theorem dX11_gain_11 : decode prog_1_method_29_code 11 = .ok (.ifCond .ne 5, 3) := by decide +kernel
theorem dX11_gain_14 : decode prog_1_method_29_code 14 = .ok (.iconst (-1), 1) := by decide +kernel
theorem dX11_gain_15 : decode prog_1_method_29_code 15 = .ok (.ireturn, 1) := by decide +kernel
theorem dX11_gain_16 : decode prog_1_method_29_code 16 = .ok (.aload_n 0, 1) := by decide +kernel
theorem dX11_gain_17 : decode prog_1_method_29_code 17 = .ok (.iload_n 1, 1) := by decide +kernel
theorem dX11_gain_18 : decode prog_1_method_29_code 18 = .ok (.invokevirtual 243, 3) := by decide +kernel
theorem dX11_gain_21 : decode prog_1_method_29_code 21 = .ok (.pop, 1) := by decide +kernel
theorem dX11_gain_22 : decode prog_1_method_29_code 22 = .ok (.iconst 0, 1) := by decide +kernel
theorem dX11_gain_23 : decode prog_1_method_29_code 23 = .ok (.istore_n 2, 1) := by decide +kernel
theorem dX11_gain_24 : decode prog_1_method_29_code 24 = .ok (.iconst 0, 1) := by decide +kernel
theorem dX11_gain_25 : decode prog_1_method_29_code 25 = .ok (.istore_n 3, 1) := by decide +kernel
theorem dX11_gain_26 : decode prog_1_method_29_code 26 = .ok (.iload_n 3, 1) := by decide +kernel
theorem dX11_gain_27 : decode prog_1_method_29_code 27 = .ok (.aload_n 0, 1) := by decide +kernel
theorem dX11_gain_28 : decode prog_1_method_29_code 28 = .ok (.getfield 16, 3) := by decide +kernel
theorem dX11_gain_31 : decode prog_1_method_29_code 31 = .ok (.getfield 113, 3) := by decide +kernel
theorem dX11_gain_34 : decode prog_1_method_29_code 34 = .ok (.getfield 117, 3) := by decide +kernel
theorem dX11_gain_37 : decode prog_1_method_29_code 37 = .ok (.if_icmp .ge 52, 3) := by decide +kernel
theorem dX11_gain_40 : decode prog_1_method_29_code 40 = .ok (.iload_n 3, 1) := by decide +kernel
theorem dX11_gain_41 : decode prog_1_method_29_code 41 = .ok (.aload_n 0, 1) := by decide +kernel
theorem dX11_gain_42 : decode prog_1_method_29_code 42 = .ok (.getfield 71, 3) := by decide +kernel
theorem dX11_gain_45 : decode prog_1_method_29_code 45 = .ok (.getfield 246, 3) := by decide +kernel
theorem dX11_gain_48 : decode prog_1_method_29_code 48 = .ok (.invokestatic 278, 3) := by decide +kernel
theorem dX11_gain_51 : decode prog_1_method_29_code 51 = .ok (.ifCond .eq 32, 3) := by decide +kernel
theorem dX11_gain_54 : decode prog_1_method_29_code 54 = .ok (.iload_n 2, 1) := by decide +kernel
theorem dX11_gain_55 : decode prog_1_method_29_code 55 = .ok (.aload_n 0, 1) := by decide +kernel
theorem dX11_gain_56 : decode prog_1_method_29_code 56 = .ok (.getfield 16, 3) := by decide +kernel
theorem dX11_gain_59 : decode prog_1_method_29_code 59 = .ok (.getfield 113, 3) := by decide +kernel
theorem dX11_gain_62 : decode prog_1_method_29_code 62 = .ok (.iload_n 3, 1) := by decide +kernel
theorem dX11_gain_63 : decode prog_1_method_29_code 63 = .ok (.bipush 6, 2) := by decide +kernel
theorem dX11_gain_65 : decode prog_1_method_29_code 65 = .ok (.invokevirtual 142, 3) := by decide +kernel
theorem dX11_gain_68 : decode prog_1_method_29_code 68 = .ok (.aload_n 0, 1) := by decide +kernel
theorem dX11_gain_69 : decode prog_1_method_29_code 69 = .ok (.getfield 71, 3) := by decide +kernel
theorem dX11_gain_72 : decode prog_1_method_29_code 72 = .ok (.getfield 246, 3) := by decide +kernel
theorem dX11_gain_75 : decode prog_1_method_29_code 75 = .ok (.iconst (-1), 1) := by decide +kernel
theorem dX11_gain_76 : decode prog_1_method_29_code 76 = .ok (.ixor, 1) := by decide +kernel
theorem dX11_gain_77 : decode prog_1_method_29_code 77 = .ok (.iand, 1) := by decide +kernel
theorem dX11_gain_78 : decode prog_1_method_29_code 78 = .ok (.invokestatic 273, 3) := by decide +kernel
theorem dX11_gain_81 : decode prog_1_method_29_code 81 = .ok (.iadd, 1) := by decide +kernel
theorem dX11_gain_82 : decode prog_1_method_29_code 82 = .ok (.istore_n 2, 1) := by decide +kernel
theorem dX11_gain_83 : decode prog_1_method_29_code 83 = .ok (.iinc 3 1, 3) := by decide +kernel
theorem dX11_gain_86 : decode prog_1_method_29_code 86 = .ok (.goto (-60), 3) := by decide +kernel
theorem dX11_gain_89 : decode prog_1_method_29_code 89 = .ok (.iload_n 2, 1) := by decide +kernel
theorem dX11_gain_90 : decode prog_1_method_29_code 90 = .ok (.ireturn, 1) := by decide +kernel
theorem dX11_calm_0 : decode prog_1_method_30_code 0 = .ok (.iload_n 1, 1) := by decide +kernel
theorem dX11_calm_1 : decode prog_1_method_30_code 1 = .ok (.bipush 10, 2) := by decide +kernel
theorem dX11_calm_3 : decode prog_1_method_30_code 3 = .ok (.if_icmp .lt 51, 3) := by decide +kernel
theorem dX11_calm_6 : decode prog_1_method_30_code 6 = .ok (.aload_n 0, 1) := by decide +kernel
theorem dX11_calm_7 : decode prog_1_method_30_code 7 = .ok (.getfield 16, 3) := by decide +kernel
theorem dX11_calm_10 : decode prog_1_method_30_code 10 = .ok (.getfield 131, 3) := by decide +kernel
theorem dX11_calm_13 : decode prog_1_method_30_code 13 = .ok (.iload_n 1, 1) := by decide +kernel
theorem dX11_calm_14 : decode prog_1_method_30_code 14 = .ok (.bipush 10, 2) := by decide +kernel
theorem dX11_calm_16 : decode prog_1_method_30_code 16 = .ok (.isub, 1) := by decide +kernel
theorem dX11_calm_17 : decode prog_1_method_30_code 17 = .ok (.invokevirtual 138, 3) := by decide +kernel
theorem dX11_calm_20 : decode prog_1_method_30_code 20 = .ok (.ifCond .eq 34, 3) := by decide +kernel
theorem dX11_calm_23 : decode prog_1_method_30_code 23 = .ok (.aload_n 0, 1) := by decide +kernel
theorem dX11_calm_24 : decode prog_1_method_30_code 24 = .ok (.iload_n 1, 1) := by decide +kernel
theorem dX11_calm_25 : decode prog_1_method_30_code 25 = .ok (.bipush 10, 2) := by decide +kernel
theorem dX11_calm_27 : decode prog_1_method_30_code 27 = .ok (.isub, 1) := by decide +kernel
theorem dX11_calm_28 : decode prog_1_method_30_code 28 = .ok (.invokevirtual 243, 3) := by decide +kernel
theorem dX11_calm_31 : decode prog_1_method_30_code 31 = .ok (.pop, 1) := by decide +kernel
theorem dX11_calm_32 : decode prog_1_method_30_code 32 = .ok (.aload_n 0, 1) := by decide +kernel
theorem dX11_calm_33 : decode prog_1_method_30_code 33 = .ok (.getfield 16, 3) := by decide +kernel
theorem dX11_calm_36 : decode prog_1_method_30_code 36 = .ok (.iconst 3, 1) := by decide +kernel
theorem dX11_calm_37 : decode prog_1_method_30_code 37 = .ok (.invokevirtual 215, 3) := by decide +kernel
theorem dX11_calm_40 : decode prog_1_method_30_code 40 = .ok (.aload_n 0, 1) := by decide +kernel
theorem dX11_calm_41 : decode prog_1_method_30_code 41 = .ok (.getfield 71, 3) := by decide +kernel
theorem dX11_calm_44 : decode prog_1_method_30_code 44 = .ok (.getfield 246, 3) := by decide +kernel
theorem dX11_calm_47 : decode prog_1_method_30_code 47 = .ok (.iconst (-1), 1) := by decide +kernel
theorem dX11_calm_48 : decode prog_1_method_30_code 48 = .ok (.ixor, 1) := by decide +kernel
theorem dX11_calm_49 : decode prog_1_method_30_code 49 = .ok (.iand, 1) := by decide +kernel
theorem dX11_calm_50 : decode prog_1_method_30_code 50 = .ok (.invokestatic 273, 3) := by decide +kernel
theorem dX11_calm_53 : decode prog_1_method_30_code 53 = .ok (.ireturn, 1) := by decide +kernel
theorem dX11_calm_54 : decode prog_1_method_30_code 54 = .ok (.iload_n 1, 1) := by decide +kernel
theorem dX11_calm_55 : decode prog_1_method_30_code 55 = .ok (.ifCond .eq 10, 3) := by decide +kernel
theorem dX11_calm_58 : decode prog_1_method_30_code 58 = .ok (.iload_n 1, 1) := by decide +kernel
theorem dX11_calm_59 : decode prog_1_method_30_code 59 = .ok (.iconst 1, 1) := by decide +kernel
theorem dX11_calm_60 : decode prog_1_method_30_code 60 = .ok (.if_icmp .eq 5, 3) := by decide +kernel
theorem dX11_calm_63 : decode prog_1_method_30_code 63 = .ok (.iconst (-1), 1) := by decide +kernel
theorem dX11_calm_64 : decode prog_1_method_30_code 64 = .ok (.ireturn, 1) := by decide +kernel
theorem dX11_calm_65 : decode prog_1_method_30_code 65 = .ok (.iconst (-1), 1) := by decide +kernel
theorem dX11_calm_66 : decode prog_1_method_30_code 66 = .ok (.istore_n 2, 1) := by decide +kernel
theorem dX11_calm_67 : decode prog_1_method_30_code 67 = .ok (.iconst (-1), 1) := by decide +kernel
theorem dX11_calm_68 : decode prog_1_method_30_code 68 = .ok (.istore_n 3, 1) := by decide +kernel
theorem dX11_calm_69 : decode prog_1_method_30_code 69 = .ok (.iconst 0, 1) := by decide +kernel
theorem dX11_calm_70 : decode prog_1_method_30_code 70 = .ok (.istore 4, 2) := by decide +kernel
theorem dX11_calm_72 : decode prog_1_method_30_code 72 = .ok (.iconst 0, 1) := by decide +kernel
theorem dX11_calm_73 : decode prog_1_method_30_code 73 = .ok (.istore 5, 2) := by decide +kernel
theorem dX11_calm_75 : decode prog_1_method_30_code 75 = .ok (.iload 5, 2) := by decide +kernel
theorem dX11_calm_77 : decode prog_1_method_30_code 77 = .ok (.aload_n 0, 1) := by decide +kernel
theorem dX11_calm_78 : decode prog_1_method_30_code 78 = .ok (.getfield 16, 3) := by decide +kernel
theorem dX11_calm_81 : decode prog_1_method_30_code 81 = .ok (.getfield 113, 3) := by decide +kernel
theorem dX11_calm_84 : decode prog_1_method_30_code 84 = .ok (.getfield 117, 3) := by decide +kernel
theorem dX11_calm_87 : decode prog_1_method_30_code 87 = .ok (.if_icmp .ge 60, 3) := by decide +kernel
theorem dX11_calm_90 : decode prog_1_method_30_code 90 = .ok (.aload_n 0, 1) := by decide +kernel
theorem dX11_calm_91 : decode prog_1_method_30_code 91 = .ok (.getfield 16, 3) := by decide +kernel
theorem dX11_calm_94 : decode prog_1_method_30_code 94 = .ok (.getfield 113, 3) := by decide +kernel
theorem dX11_calm_97 : decode prog_1_method_30_code 97 = .ok (.iload 5, 2) := by decide +kernel
theorem dX11_calm_99 : decode prog_1_method_30_code 99 = .ok (.iconst 3, 1) := by decide +kernel
theorem dX11_calm_100 : decode prog_1_method_30_code 100 = .ok (.invokevirtual 142, 3) := by decide +kernel
theorem dX11_calm_103 : decode prog_1_method_30_code 103 = .ok (.iconst 1, 1) := by decide +kernel
theorem dX11_calm_104 : decode prog_1_method_30_code 104 = .ok (.if_icmp .ne 37, 3) := by decide +kernel
theorem dX11_calm_107 : decode prog_1_method_30_code 107 = .ok (.aload_n 0, 1) := by decide +kernel
theorem dX11_calm_108 : decode prog_1_method_30_code 108 = .ok (.getfield 16, 3) := by decide +kernel
theorem dX11_calm_111 : decode prog_1_method_30_code 111 = .ok (.getfield 113, 3) := by decide +kernel
theorem dX11_calm_114 : decode prog_1_method_30_code 114 = .ok (.iload 5, 2) := by decide +kernel
theorem dX11_calm_116 : decode prog_1_method_30_code 116 = .ok (.iconst 2, 1) := by decide +kernel
theorem dX11_calm_117 : decode prog_1_method_30_code 117 = .ok (.invokevirtual 142, 3) := by decide +kernel
theorem dX11_calm_120 : decode prog_1_method_30_code 120 = .ok (.istore 6, 2) := by decide +kernel
theorem dX11_calm_122 : decode prog_1_method_30_code 122 = .ok (.iload 4, 2) := by decide +kernel
theorem dX11_calm_124 : decode prog_1_method_30_code 124 = .ok (.iload 6, 2) := by decide +kernel
theorem dX11_calm_126 : decode prog_1_method_30_code 126 = .ok (.iadd, 1) := by decide +kernel
theorem dX11_calm_127 : decode prog_1_method_30_code 127 = .ok (.istore 4, 2) := by decide +kernel
theorem dX11_calm_129 : decode prog_1_method_30_code 129 = .ok (.iload 6, 2) := by decide +kernel
theorem dX11_calm_131 : decode prog_1_method_30_code 131 = .ok (.iload_n 3, 1) := by decide +kernel
theorem dX11_calm_132 : decode prog_1_method_30_code 132 = .ok (.if_icmp .le 9, 3) := by decide +kernel
theorem dX11_calm_135 : decode prog_1_method_30_code 135 = .ok (.iload 6, 2) := by decide +kernel
theorem dX11_calm_137 : decode prog_1_method_30_code 137 = .ok (.istore_n 3, 1) := by decide +kernel
theorem dX11_calm_138 : decode prog_1_method_30_code 138 = .ok (.iload 5, 2) := by decide +kernel
theorem dX11_calm_140 : decode prog_1_method_30_code 140 = .ok (.istore_n 2, 1) := by decide +kernel
theorem dX11_calm_141 : decode prog_1_method_30_code 141 = .ok (.iinc 5 1, 3) := by decide +kernel
theorem dX11_calm_144 : decode prog_1_method_30_code 144 = .ok (.goto (-69), 3) := by decide +kernel
theorem dX11_calm_147 : decode prog_1_method_30_code 147 = .ok (.iload_n 1, 1) := by decide +kernel
theorem dX11_calm_148 : decode prog_1_method_30_code 148 = .ok (.ifCond .ne 7, 3) := by decide +kernel
theorem dX11_calm_151 : decode prog_1_method_30_code 151 = .ok (.iload_n 2, 1) := by decide +kernel
theorem dX11_calm_152 : decode prog_1_method_30_code 152 = .ok (.goto 5, 3) := by decide +kernel
theorem dX11_calm_155 : decode prog_1_method_30_code 155 = .ok (.iload 4, 2) := by decide +kernel
theorem dX11_calm_157 : decode prog_1_method_30_code 157 = .ok (.ireturn, 1) := by decide +kernel
theorem dX11_tires_0 : decode prog_1_method_31_code 0 = .ok (.aload_n 0, 1) := by decide +kernel
theorem dX11_tires_1 : decode prog_1_method_31_code 1 = .ok (.getfield 16, 3) := by decide +kernel
theorem dX11_tires_4 : decode prog_1_method_31_code 4 = .ok (.getfield 131, 3) := by decide +kernel
theorem dX11_tires_7 : decode prog_1_method_31_code 7 = .ok (.iload_n 1, 1) := by decide +kernel
theorem dX11_tires_8 : decode prog_1_method_31_code 8 = .ok (.invokevirtual 138, 3) := by decide +kernel
theorem dX11_tires_11 : decode prog_1_method_31_code 11 = .ok (.ifCond .ne 5, 3) := by decide +kernel
theorem dX11_tires_14 : decode prog_1_method_31_code 14 = .ok (.iconst (-1), 1) := by decide +kernel
theorem dX11_tires_15 : decode prog_1_method_31_code 15 = .ok (.ireturn, 1) := by decide +kernel
theorem dX11_tires_16 : decode prog_1_method_31_code 16 = .ok (.aload_n 0, 1) := by decide +kernel
theorem dX11_tires_17 : decode prog_1_method_31_code 17 = .ok (.getfield 37, 3) := by decide +kernel
theorem dX11_tires_20 : decode prog_1_method_31_code 20 = .ok (.aload_n 0, 1) := by decide +kernel
theorem dX11_tires_21 : decode prog_1_method_31_code 21 = .ok (.getfield 16, 3) := by decide +kernel
theorem dX11_tires_24 : decode prog_1_method_31_code 24 = .ok (.invokevirtual 236, 3) := by decide +kernel
theorem dX11_tires_27 : decode prog_1_method_31_code 27 = .ok (.iconst 0, 1) := by decide +kernel
theorem dX11_tires_28 : decode prog_1_method_31_code 28 = .ok (.istore_n 2, 1) := by decide +kernel
theorem dX11_tires_29 : decode prog_1_method_31_code 29 = .ok (.iload_n 2, 1) := by decide +kernel
theorem dX11_tires_30 : decode prog_1_method_31_code 30 = .ok (.bipush 99, 2) := by decide +kernel
theorem dX11_tires_32 : decode prog_1_method_31_code 32 = .ok (.if_icmp .ge 34, 3) := by decide +kernel
theorem dX11_tires_35 : decode prog_1_method_31_code 35 = .ok (.aload_n 0, 1) := by decide +kernel
theorem dX11_tires_36 : decode prog_1_method_31_code 36 = .ok (.getfield 16, 3) := by decide +kernel
theorem dX11_tires_39 : decode prog_1_method_31_code 39 = .ok (.getfield 131, 3) := by decide +kernel
theorem dX11_tires_42 : decode prog_1_method_31_code 42 = .ok (.iload_n 1, 1) := by decide +kernel
theorem dX11_tires_43 : decode prog_1_method_31_code 43 = .ok (.iconst 3, 1) := by decide +kernel
theorem dX11_tires_44 : decode prog_1_method_31_code 44 = .ok (.invokevirtual 142, 3) := by decide +kernel
theorem dX11_tires_47 : decode prog_1_method_31_code 47 = .ok (.bipush 99, 2) := by decide +kernel
theorem dX11_tires_49 : decode prog_1_method_31_code 49 = .ok (.if_icmp .ge 17, 3) := by decide +kernel
theorem dX11_tires_52 : decode prog_1_method_31_code 52 = .ok (.aload_n 0, 1) := by decide +kernel
theorem dX11_tires_53 : decode prog_1_method_31_code 53 = .ok (.getfield 71, 3) := by decide +kernel
theorem dX11_tires_56 : decode prog_1_method_31_code 56 = .ok (.iload_n 1, 1) := by decide +kernel
theorem dX11_tires_57 : decode prog_1_method_31_code 57 = .ok (.invokevirtual 252, 3) := by decide +kernel
theorem dX11_tires_60 : decode prog_1_method_31_code 60 = .ok (.iinc 2 1, 3) := by decide +kernel
theorem dX11_tires_63 : decode prog_1_method_31_code 63 = .ok (.goto (-34), 3) := by decide +kernel
theorem dX11_tires_66 : decode prog_1_method_31_code 66 = .ok (.aload_n 0, 1) := by decide +kernel
theorem dX11_tires_67 : decode prog_1_method_31_code 67 = .ok (.getfield 16, 3) := by decide +kernel
theorem dX11_tires_70 : decode prog_1_method_31_code 70 = .ok (.getfield 131, 3) := by decide +kernel
theorem dX11_tires_73 : decode prog_1_method_31_code 73 = .ok (.iload_n 1, 1) := by decide +kernel
theorem dX11_tires_74 : decode prog_1_method_31_code 74 = .ok (.iconst 3, 1) := by decide +kernel
theorem dX11_tires_75 : decode prog_1_method_31_code 75 = .ok (.invokevirtual 142, 3) := by decide +kernel
theorem dX11_tires_78 : decode prog_1_method_31_code 78 = .ok (.bipush 99, 2) := by decide +kernel
theorem dX11_tires_80 : decode prog_1_method_31_code 80 = .ok (.if_icmp .lt 7, 3) := by decide +kernel
theorem dX11_tires_83 : decode prog_1_method_31_code 83 = .ok (.iconst 1, 1) := by decide +kernel
theorem dX11_tires_84 : decode prog_1_method_31_code 84 = .ok (.goto 4, 3) := by decide +kernel
theorem dX11_tires_87 : decode prog_1_method_31_code 87 = .ok (.iconst 0, 1) := by decide +kernel
theorem dX11_tires_88 : decode prog_1_method_31_code 88 = .ok (.istore_n 3, 1) := by decide +kernel
theorem dX11_tires_89 : decode prog_1_method_31_code 89 = .ok (.aload_n 0, 1) := by decide +kernel
theorem dX11_tires_90 : decode prog_1_method_31_code 90 = .ok (.getfield 37, 3) := by decide +kernel
theorem dX11_tires_93 : decode prog_1_method_31_code 93 = .ok (.aload_n 0, 1) := by decide +kernel
theorem dX11_tires_94 : decode prog_1_method_31_code 94 = .ok (.getfield 16, 3) := by decide +kernel
theorem dX11_tires_97 : decode prog_1_method_31_code 97 = .ok (.invokevirtual 240, 3) := by decide +kernel
theorem dX11_tires_100 : decode prog_1_method_31_code 100 = .ok (.iload_n 3, 1) := by decide +kernel
theorem dX11_tires_101 : decode prog_1_method_31_code 101 = .ok (.ifCond .eq 7, 3) := by decide +kernel
theorem dX11_tires_104 : decode prog_1_method_31_code 104 = .ok (.iload_n 2, 1) := by decide +kernel
theorem dX11_tires_105 : decode prog_1_method_31_code 105 = .ok (.goto 4, 3) := by decide +kernel
theorem dX11_tires_108 : decode prog_1_method_31_code 108 = .ok (.iconst (-1), 1) := by decide +kernel
theorem dX11_tires_109 : decode prog_1_method_31_code 109 = .ok (.ireturn, 1) := by decide +kernel
theorem dX11_eager_0 : decode prog_1_method_32_code 0 = .ok (.aload_n 0, 1) := by decide +kernel
theorem dX11_eager_1 : decode prog_1_method_32_code 1 = .ok (.getfield 16, 3) := by decide +kernel
theorem dX11_eager_4 : decode prog_1_method_32_code 4 = .ok (.getfield 131, 3) := by decide +kernel
theorem dX11_eager_7 : decode prog_1_method_32_code 7 = .ok (.iload_n 1, 1) := by decide +kernel
theorem dX11_eager_8 : decode prog_1_method_32_code 8 = .ok (.invokevirtual 138, 3) := by decide +kernel
theorem dX11_eager_11 : decode prog_1_method_32_code 11 = .ok (.ifCond .eq 12, 3) := by decide +kernel
theorem dX11_eager_14 : decode prog_1_method_32_code 14 = .ok (.iload_n 2, 1) := by decide +kernel
theorem dX11_eager_15 : decode prog_1_method_32_code 15 = .ok (.iconst 0, 1) := by decide +kernel
theorem dX11_eager_16 : decode prog_1_method_32_code 16 = .ok (.iconst 1, 1) := by decide +kernel
theorem dX11_eager_17 : decode prog_1_method_32_code 17 = .ok (.invokestatic 109, 3) := by decide +kernel
theorem dX11_eager_20 : decode prog_1_method_32_code 20 = .ok (.ifCond .ne 5, 3) := by decide +kernel
theorem dX11_eager_23 : decode prog_1_method_32_code 23 = .ok (.iconst (-1), 1) := by decide +kernel
theorem dX11_eager_24 : decode prog_1_method_32_code 24 = .ok (.ireturn, 1) := by decide +kernel
theorem dX11_eager_25 : decode prog_1_method_32_code 25 = .ok (.iconst (-1), 1) := by decide +kernel
theorem dX11_eager_26 : decode prog_1_method_32_code 26 = .ok (.istore_n 3, 1) := by decide +kernel
theorem dX11_eager_27 : decode prog_1_method_32_code 27 = .ok (.iconst (-1), 1) := by decide +kernel
theorem dX11_eager_28 : decode prog_1_method_32_code 28 = .ok (.istore 4, 2) := by decide +kernel
theorem dX11_eager_30 : decode prog_1_method_32_code 30 = .ok (.aload_n 0, 1) := by decide +kernel
theorem dX11_eager_31 : decode prog_1_method_32_code 31 = .ok (.getfield 16, 3) := by decide +kernel
theorem dX11_eager_34 : decode prog_1_method_32_code 34 = .ok (.iconst 3, 1) := by decide +kernel
theorem dX11_eager_35 : decode prog_1_method_32_code 35 = .ok (.invokevirtual 215, 3) := by decide +kernel
theorem dX11_eager_38 : decode prog_1_method_32_code 38 = .ok (.aload_n 0, 1) := by decide +kernel
theorem dX11_eager_39 : decode prog_1_method_32_code 39 = .ok (.getfield 16, 3) := by decide +kernel
theorem dX11_eager_42 : decode prog_1_method_32_code 42 = .ok (.iconst 4, 1) := by decide +kernel
theorem dX11_eager_43 : decode prog_1_method_32_code 43 = .ok (.invokevirtual 215, 3) := by decide +kernel
theorem dX11_eager_46 : decode prog_1_method_32_code 46 = .ok (.iconst (-1), 1) := by decide +kernel
theorem dX11_eager_47 : decode prog_1_method_32_code 47 = .ok (.ixor, 1) := by decide +kernel
theorem dX11_eager_48 : decode prog_1_method_32_code 48 = .ok (.iand, 1) := by decide +kernel
theorem dX11_eager_49 : decode prog_1_method_32_code 49 = .ok (.istore 5, 2) := by decide +kernel
theorem dX11_eager_51 : decode prog_1_method_32_code 51 = .ok (.iconst 0, 1) := by decide +kernel
theorem dX11_eager_52 : decode prog_1_method_32_code 52 = .ok (.istore 6, 2) := by decide +kernel
theorem dX11_eager_54 : decode prog_1_method_32_code 54 = .ok (.iload 6, 2) := by decide +kernel
theorem dX11_eager_56 : decode prog_1_method_32_code 56 = .ok (.aload_n 0, 1) := by decide +kernel
theorem dX11_eager_57 : decode prog_1_method_32_code 57 = .ok (.getfield 16, 3) := by decide +kernel
theorem dX11_eager_60 : decode prog_1_method_32_code 60 = .ok (.getfield 113, 3) := by decide +kernel
theorem dX11_eager_63 : decode prog_1_method_32_code 63 = .ok (.getfield 117, 3) := by decide +kernel
theorem dX11_eager_66 : decode prog_1_method_32_code 66 = .ok (.if_icmp .ge 46, 3) := by decide +kernel
theorem dX11_eager_69 : decode prog_1_method_32_code 69 = .ok (.iload 6, 2) := by decide +kernel
theorem dX11_eager_71 : decode prog_1_method_32_code 71 = .ok (.iload 5, 2) := by decide +kernel
theorem dX11_eager_73 : decode prog_1_method_32_code 73 = .ok (.invokestatic 278, 3) := by decide +kernel
theorem dX11_eager_76 : decode prog_1_method_32_code 76 = .ok (.ifCond .eq 30, 3) := by decide +kernel
theorem dX11_eager_79 : decode prog_1_method_32_code 79 = .ok (.aload_n 0, 1) := by decide +kernel
theorem dX11_eager_80 : decode prog_1_method_32_code 80 = .ok (.getfield 62, 3) := by decide +kernel
theorem dX11_eager_83 : decode prog_1_method_32_code 83 = .ok (.iload 6, 2) := by decide +kernel
theorem dX11_eager_85 : decode prog_1_method_32_code 85 = .ok (.iload_n 1, 1) := by decide +kernel
theorem dX11_eager_86 : decode prog_1_method_32_code 86 = .ok (.iconst 0, 1) := by decide +kernel
theorem dX11_eager_87 : decode prog_1_method_32_code 87 = .ok (.invokevirtual 196, 3) := by decide +kernel
theorem dX11_eager_90 : decode prog_1_method_32_code 90 = .ok (.istore 7, 2) := by decide +kernel
theorem dX11_eager_92 : decode prog_1_method_32_code 92 = .ok (.iload 7, 2) := by decide +kernel
theorem dX11_eager_94 : decode prog_1_method_32_code 94 = .ok (.iload 4, 2) := by decide +kernel
theorem dX11_eager_96 : decode prog_1_method_32_code 96 = .ok (.if_icmp .le 10, 3) := by decide +kernel
theorem dX11_eager_99 : decode prog_1_method_32_code 99 = .ok (.iload 7, 2) := by decide +kernel
theorem dX11_eager_101 : decode prog_1_method_32_code 101 = .ok (.istore 4, 2) := by decide +kernel
theorem dX11_eager_103 : decode prog_1_method_32_code 103 = .ok (.iload 6, 2) := by decide +kernel
theorem dX11_eager_105 : decode prog_1_method_32_code 105 = .ok (.istore_n 3, 1) := by decide +kernel
theorem dX11_eager_106 : decode prog_1_method_32_code 106 = .ok (.iinc 6 1, 3) := by decide +kernel
theorem dX11_eager_109 : decode prog_1_method_32_code 109 = .ok (.goto (-55), 3) := by decide +kernel
theorem dX11_eager_112 : decode prog_1_method_32_code 112 = .ok (.iload_n 2, 1) := by decide +kernel
theorem dX11_eager_113 : decode prog_1_method_32_code 113 = .ok (.ifCond .ne 7, 3) := by decide +kernel
theorem dX11_eager_116 : decode prog_1_method_32_code 116 = .ok (.iload_n 3, 1) := by decide +kernel
theorem dX11_eager_117 : decode prog_1_method_32_code 117 = .ok (.goto 5, 3) := by decide +kernel
theorem dX11_eager_120 : decode prog_1_method_32_code 120 = .ok (.iload 4, 2) := by decide +kernel
theorem dX11_eager_122 : decode prog_1_method_32_code 122 = .ok (.ireturn, 1) := by decide +kernel
theorem dX11_price_0 : decode prog_1_method_33_code 0 = .ok (.aload_n 0, 1) := by decide +kernel
theorem dX11_price_1 : decode prog_1_method_33_code 1 = .ok (.getfield 16, 3) := by decide +kernel
theorem dX11_price_4 : decode prog_1_method_33_code 4 = .ok (.getfield 113, 3) := by decide +kernel
theorem dX11_price_7 : decode prog_1_method_33_code 7 = .ok (.iload_n 1, 1) := by decide +kernel
theorem dX11_price_8 : decode prog_1_method_33_code 8 = .ok (.invokevirtual 138, 3) := by decide +kernel
theorem dX11_price_11 : decode prog_1_method_33_code 11 = .ok (.ifCond .eq 17, 3) := by decide +kernel
theorem dX11_price_14 : decode prog_1_method_33_code 14 = .ok (.aload_n 0, 1) := by decide +kernel
theorem dX11_price_15 : decode prog_1_method_33_code 15 = .ok (.getfield 16, 3) := by decide +kernel
theorem dX11_price_18 : decode prog_1_method_33_code 18 = .ok (.getfield 131, 3) := by decide +kernel
theorem dX11_price_21 : decode prog_1_method_33_code 21 = .ok (.iload_n 2, 1) := by decide +kernel
theorem dX11_price_22 : decode prog_1_method_33_code 22 = .ok (.invokevirtual 138, 3) := by decide +kernel
theorem dX11_price_25 : decode prog_1_method_33_code 25 = .ok (.ifCond .ne 5, 3) := by decide +kernel
theorem dX11_price_28 : decode prog_1_method_33_code 28 = .ok (.iconst (-1), 1) := by decide +kernel
theorem dX11_price_29 : decode prog_1_method_33_code 29 = .ok (.ireturn, 1) := by decide +kernel
theorem dX11_price_30 : decode prog_1_method_33_code 30 = .ok (.aload_n 0, 1) := by decide +kernel
theorem dX11_price_31 : decode prog_1_method_33_code 31 = .ok (.getfield 16, 3) := by decide +kernel
theorem dX11_price_34 : decode prog_1_method_33_code 34 = .ok (.getfield 113, 3) := by decide +kernel
theorem dX11_price_37 : decode prog_1_method_33_code 37 = .ok (.iload_n 1, 1) := by decide +kernel
theorem dX11_price_38 : decode prog_1_method_33_code 38 = .ok (.iconst 5, 1) := by decide +kernel
theorem dX11_price_39 : decode prog_1_method_33_code 39 = .ok (.invokevirtual 142, 3) := by decide +kernel
theorem dX11_price_42 : decode prog_1_method_33_code 42 = .ok (.istore_n 3, 1) := by decide +kernel
theorem dX11_price_43 : decode prog_1_method_33_code 43 = .ok (.iconst 0, 1) := by decide +kernel
theorem dX11_price_44 : decode prog_1_method_33_code 44 = .ok (.istore 4, 2) := by decide +kernel
theorem dX11_price_46 : decode prog_1_method_33_code 46 = .ok (.iload 4, 2) := by decide +kernel
theorem dX11_price_48 : decode prog_1_method_33_code 48 = .ok (.bipush 99, 2) := by decide +kernel
theorem dX11_price_50 : decode prog_1_method_33_code 50 = .ok (.iload_n 3, 1) := by decide +kernel
theorem dX11_price_51 : decode prog_1_method_33_code 51 = .ok (.isub, 1) := by decide +kernel
theorem dX11_price_52 : decode prog_1_method_33_code 52 = .ok (.if_icmp .gt 31, 3) := by decide +kernel
theorem dX11_price_55 : decode prog_1_method_33_code 55 = .ok (.aload_n 0, 1) := by decide +kernel
theorem dX11_price_56 : decode prog_1_method_33_code 56 = .ok (.getfield 62, 3) := by decide +kernel
theorem dX11_price_59 : decode prog_1_method_33_code 59 = .ok (.iload_n 1, 1) := by decide +kernel
theorem dX11_price_60 : decode prog_1_method_33_code 60 = .ok (.iload_n 2, 1) := by decide +kernel
theorem dX11_price_61 : decode prog_1_method_33_code 61 = .ok (.iload_n 3, 1) := by decide +kernel
theorem dX11_price_62 : decode prog_1_method_33_code 62 = .ok (.iload 4, 2) := by decide +kernel
theorem dX11_price_64 : decode prog_1_method_33_code 64 = .ok (.iadd, 1) := by decide +kernel
theorem dX11_price_65 : decode prog_1_method_33_code 65 = .ok (.invokevirtual 282, 3) := by decide +kernel
theorem dX11_price_68 : decode prog_1_method_33_code 68 = .ok (.sipush 500, 3) := by decide +kernel
theorem dX11_price_71 : decode prog_1_method_33_code 71 = .ok (.if_icmp .le 6, 3) := by decide +kernel
theorem dX11_price_74 : decode prog_1_method_33_code 74 = .ok (.iload 4, 2) := by decide +kernel
theorem dX11_price_76 : decode prog_1_method_33_code 76 = .ok (.ireturn, 1) := by decide +kernel
theorem dX11_price_77 : decode prog_1_method_33_code 77 = .ok (.iinc 4 1, 3) := by decide +kernel
theorem dX11_price_80 : decode prog_1_method_33_code 80 = .ok (.goto (-34), 3) := by decide +kernel
theorem dX11_price_83 : decode prog_1_method_33_code 83 = .ok (.iconst (-1), 1) := by decide +kernel
theorem dX11_price_84 : decode prog_1_method_33_code 84 = .ok (.ireturn, 1) := by decide +kernel
theorem dX11_fills_0 : decode prog_1_method_34_code 0 = .ok (.iload_n 1, 1) := by decide +kernel
theorem dX11_fills_1 : decode prog_1_method_34_code 1 = .ok (.iconst 1, 1) := by decide +kernel
theorem dX11_fills_2 : decode prog_1_method_34_code 2 = .ok (.sipush 999, 3) := by decide +kernel
theorem dX11_fills_5 : decode prog_1_method_34_code 5 = .ok (.invokestatic 109, 3) := by decide +kernel
theorem dX11_fills_8 : decode prog_1_method_34_code 8 = .ok (.ifCond .eq 12, 3) := by decide +kernel
theorem dX11_fills_11 : decode prog_1_method_34_code 11 = .ok (.iload_n 2, 1) := by decide +kernel
theorem dX11_fills_12 : decode prog_1_method_34_code 12 = .ok (.iconst 0, 1) := by decide +kernel
theorem dX11_fills_13 : decode prog_1_method_34_code 13 = .ok (.iconst 1, 1) := by decide +kernel
theorem dX11_fills_14 : decode prog_1_method_34_code 14 = .ok (.invokestatic 109, 3) := by decide +kernel
theorem dX11_fills_17 : decode prog_1_method_34_code 17 = .ok (.ifCond .ne 5, 3) := by decide +kernel
theorem dX11_fills_20 : decode prog_1_method_34_code 20 = .ok (.iconst (-1), 1) := by decide +kernel
theorem dX11_fills_21 : decode prog_1_method_34_code 21 = .ok (.ireturn, 1) := by decide +kernel
theorem dX11_fills_22 : decode prog_1_method_34_code 22 = .ok (.aload_n 0, 1) := by decide +kernel
theorem dX11_fills_23 : decode prog_1_method_34_code 23 = .ok (.getfield 94, 3) := by decide +kernel
theorem dX11_fills_26 : decode prog_1_method_34_code 26 = .ok (.iload_n 1, 1) := by decide +kernel
theorem dX11_fills_27 : decode prog_1_method_34_code 27 = .ok (.invokevirtual 285, 3) := by decide +kernel
theorem dX11_fills_30 : decode prog_1_method_34_code 30 = .ok (.istore_n 3, 1) := by decide +kernel
theorem dX11_fills_31 : decode prog_1_method_34_code 31 = .ok (.iload_n 2, 1) := by decide +kernel
theorem dX11_fills_32 : decode prog_1_method_34_code 32 = .ok (.iconst 1, 1) := by decide +kernel
theorem dX11_fills_33 : decode prog_1_method_34_code 33 = .ok (.if_icmp .ne 7, 3) := by decide +kernel
theorem dX11_fills_36 : decode prog_1_method_34_code 36 = .ok (.iload_n 3, 1) := by decide +kernel
theorem dX11_fills_37 : decode prog_1_method_34_code 37 = .ok (.goto 12, 3) := by decide +kernel
theorem dX11_fills_40 : decode prog_1_method_34_code 40 = .ok (.aload_n 0, 1) := by decide +kernel
theorem dX11_fills_41 : decode prog_1_method_34_code 41 = .ok (.getfield 94, 3) := by decide +kernel
theorem dX11_fills_44 : decode prog_1_method_34_code 44 = .ok (.iconst 0, 1) := by decide +kernel
theorem dX11_fills_45 : decode prog_1_method_34_code 45 = .ok (.iload_n 3, 1) := by decide +kernel
theorem dX11_fills_46 : decode prog_1_method_34_code 46 = .ok (.invokevirtual 288, 3) := by decide +kernel
theorem dX11_fills_49 : decode prog_1_method_34_code 49 = .ok (.ireturn, 1) := by decide +kernel
theorem dX11_lines_0 : decode prog_1_method_35_code 0 = .ok (.iload_n 1, 1) := by decide +kernel
theorem dX11_lines_1 : decode prog_1_method_35_code 1 = .ok (.ifCond .lt 28, 3) := by decide +kernel
theorem dX11_lines_4 : decode prog_1_method_35_code 4 = .ok (.iload_n 1, 1) := by decide +kernel
theorem dX11_lines_5 : decode prog_1_method_35_code 5 = .ok (.iconst 1, 1) := by decide +kernel
theorem dX11_lines_6 : decode prog_1_method_35_code 6 = .ok (.aload_n 0, 1) := by decide +kernel
theorem dX11_lines_7 : decode prog_1_method_35_code 7 = .ok (.getfield 16, 3) := by decide +kernel
theorem dX11_lines_10 : decode prog_1_method_35_code 10 = .ok (.getfield 131, 3) := by decide +kernel
theorem dX11_lines_13 : decode prog_1_method_35_code 13 = .ok (.getfield 117, 3) := by decide +kernel
theorem dX11_lines_16 : decode prog_1_method_35_code 16 = .ok (.ishl, 1) := by decide +kernel
theorem dX11_lines_17 : decode prog_1_method_35_code 17 = .ok (.if_icmp .ge 12, 3) := by decide +kernel
theorem dX11_lines_20 : decode prog_1_method_35_code 20 = .ok (.iload_n 2, 1) := by decide +kernel
theorem dX11_lines_21 : decode prog_1_method_35_code 21 = .ok (.iconst 0, 1) := by decide +kernel
theorem dX11_lines_22 : decode prog_1_method_35_code 22 = .ok (.iconst 1, 1) := by decide +kernel
theorem dX11_lines_23 : decode prog_1_method_35_code 23 = .ok (.invokestatic 109, 3) := by decide +kernel
theorem dX11_lines_26 : decode prog_1_method_35_code 26 = .ok (.ifCond .ne 5, 3) := by decide +kernel
theorem dX11_lines_29 : decode prog_1_method_35_code 29 = .ok (.iconst (-1), 1) := by decide +kernel
theorem dX11_lines_30 : decode prog_1_method_35_code 30 = .ok (.ireturn, 1) := by decide +kernel
theorem dX11_lines_31 : decode prog_1_method_35_code 31 = .ok (.iload_n 2, 1) := by decide +kernel
theorem dX11_lines_32 : decode prog_1_method_35_code 32 = .ok (.ifCond .ne 14, 3) := by decide +kernel
theorem dX11_lines_35 : decode prog_1_method_35_code 35 = .ok (.aload_n 0, 1) := by decide +kernel
theorem dX11_lines_36 : decode prog_1_method_35_code 36 = .ok (.getfield 94, 3) := by decide +kernel
theorem dX11_lines_39 : decode prog_1_method_35_code 39 = .ok (.iload_n 1, 1) := by decide +kernel
theorem dX11_lines_40 : decode prog_1_method_35_code 40 = .ok (.invokevirtual 291, 3) := by decide +kernel
theorem dX11_lines_43 : decode prog_1_method_35_code 43 = .ok (.goto 11, 3) := by decide +kernel
theorem dX11_lines_46 : decode prog_1_method_35_code 46 = .ok (.aload_n 0, 1) := by decide +kernel
theorem dX11_lines_47 : decode prog_1_method_35_code 47 = .ok (.getfield 94, 3) := by decide +kernel
theorem dX11_lines_50 : decode prog_1_method_35_code 50 = .ok (.iload_n 1, 1) := by decide +kernel
theorem dX11_lines_51 : decode prog_1_method_35_code 51 = .ok (.invokevirtual 294, 3) := by decide +kernel
theorem dX11_lines_54 : decode prog_1_method_35_code 54 = .ok (.ireturn, 1) := by decide +kernel
theorem dX11_bargain_0 : decode prog_1_method_36_code 0 = .ok (.iload_n 1, 1) := by decide +kernel
theorem dX11_bargain_1 : decode prog_1_method_36_code 1 = .ok (.iconst 0, 1) := by decide +kernel
theorem dX11_bargain_2 : decode prog_1_method_36_code 2 = .ok (.iconst 1, 1) := by decide +kernel
theorem dX11_bargain_3 : decode prog_1_method_36_code 3 = .ok (.invokestatic 109, 3) := by decide +kernel
theorem dX11_bargain_6 : decode prog_1_method_36_code 6 = .ok (.ifCond .ne 5, 3) := by decide +kernel
theorem dX11_bargain_9 : decode prog_1_method_36_code 9 = .ok (.iconst (-1), 1) := by decide +kernel
theorem dX11_bargain_10 : decode prog_1_method_36_code 10 = .ok (.ireturn, 1) := by decide +kernel
theorem dX11_bargain_11 : decode prog_1_method_36_code 11 = .ok (.aload_n 0, 1) := by decide +kernel
theorem dX11_bargain_12 : decode prog_1_method_36_code 12 = .ok (.getfield 94, 3) := by decide +kernel
theorem dX11_bargain_15 : decode prog_1_method_36_code 15 = .ok (.iconst 1, 1) := by decide +kernel
theorem dX11_bargain_16 : decode prog_1_method_36_code 16 = .ok (.aload_n 0, 1) := by decide +kernel
theorem dX11_bargain_17 : decode prog_1_method_36_code 17 = .ok (.getfield 16, 3) := by decide +kernel
theorem dX11_bargain_20 : decode prog_1_method_36_code 20 = .ok (.getfield 131, 3) := by decide +kernel
theorem dX11_bargain_23 : decode prog_1_method_36_code 23 = .ok (.getfield 117, 3) := by decide +kernel
theorem dX11_bargain_26 : decode prog_1_method_36_code 26 = .ok (.ishl, 1) := by decide +kernel
theorem dX11_bargain_27 : decode prog_1_method_36_code 27 = .ok (.iconst 1, 1) := by decide +kernel
theorem dX11_bargain_28 : decode prog_1_method_36_code 28 = .ok (.isub, 1) := by decide +kernel
theorem dX11_bargain_29 : decode prog_1_method_36_code 29 = .ok (.invokevirtual 294, 3) := by decide +kernel
theorem dX11_bargain_32 : decode prog_1_method_36_code 32 = .ok (.istore_n 2, 1) := by decide +kernel
theorem dX11_bargain_33 : decode prog_1_method_36_code 33 = .ok (.aload_n 0, 1) := by decide +kernel
theorem dX11_bargain_34 : decode prog_1_method_36_code 34 = .ok (.getfield 16, 3) := by decide +kernel
theorem dX11_bargain_37 : decode prog_1_method_36_code 37 = .ok (.getfield 131, 3) := by decide +kernel
theorem dX11_bargain_40 : decode prog_1_method_36_code 40 = .ok (.iload_n 2, 1) := by decide +kernel
theorem dX11_bargain_41 : decode prog_1_method_36_code 41 = .ok (.iconst 1, 1) := by decide +kernel
theorem dX11_bargain_42 : decode prog_1_method_36_code 42 = .ok (.invokevirtual 142, 3) := by decide +kernel
theorem dX11_bargain_45 : decode prog_1_method_36_code 45 = .ok (.istore_n 3, 1) := by decide +kernel
theorem dX11_bargain_46 : decode prog_1_method_36_code 46 = .ok (.iload_n 1, 1) := by decide +kernel
theorem dX11_bargain_47 : decode prog_1_method_36_code 47 = .ok (.ifCond .eq 8, 3) := by decide +kernel
theorem dX11_bargain_50 : decode prog_1_method_36_code 50 = .ok (.iload_n 3, 1) := by decide +kernel
theorem dX11_bargain_51 : decode prog_1_method_36_code 51 = .ok (.iconst 1, 1) := by decide +kernel
theorem dX11_bargain_52 : decode prog_1_method_36_code 52 = .ok (.if_icmp .ge 5, 3) := by decide +kernel
theorem dX11_bargain_55 : decode prog_1_method_36_code 55 = .ok (.iload_n 2, 1) := by decide +kernel
theorem dX11_bargain_56 : decode prog_1_method_36_code 56 = .ok (.ireturn, 1) := by decide +kernel
theorem dX11_bargain_57 : decode prog_1_method_36_code 57 = .ok (.aload_n 0, 1) := by decide +kernel
theorem dX11_bargain_58 : decode prog_1_method_36_code 58 = .ok (.getfield 16, 3) := by decide +kernel
theorem dX11_bargain_61 : decode prog_1_method_36_code 61 = .ok (.getfield 131, 3) := by decide +kernel
theorem dX11_bargain_64 : decode prog_1_method_36_code 64 = .ok (.iload_n 2, 1) := by decide +kernel
theorem dX11_bargain_65 : decode prog_1_method_36_code 65 = .ok (.iconst 0, 1) := by decide +kernel
theorem dX11_bargain_66 : decode prog_1_method_36_code 66 = .ok (.invokevirtual 142, 3) := by decide +kernel
theorem dX11_bargain_69 : decode prog_1_method_36_code 69 = .ok (.bipush 60, 2) := by decide +kernel
theorem dX11_bargain_71 : decode prog_1_method_36_code 71 = .ok (.imul, 1) := by decide +kernel
theorem dX11_bargain_72 : decode prog_1_method_36_code 72 = .ok (.iload_n 3, 1) := by decide +kernel
theorem dX11_bargain_73 : decode prog_1_method_36_code 73 = .ok (.idiv, 1) := by decide +kernel
theorem dX11_bargain_74 : decode prog_1_method_36_code 74 = .ok (.ireturn, 1) := by decide +kernel
theorem dX11_game_0 : decode prog_1_method_37_code 0 = .ok (.iload_n 1, 1) := by decide +kernel
theorem dX11_game_1 : decode prog_1_method_37_code 1 = .ok (.iconst 0, 1) := by decide +kernel
theorem dX11_game_2 : decode prog_1_method_37_code 2 = .ok (.iconst 1, 1) := by decide +kernel
theorem dX11_game_3 : decode prog_1_method_37_code 3 = .ok (.invokestatic 109, 3) := by decide +kernel
theorem dX11_game_6 : decode prog_1_method_37_code 6 = .ok (.ifCond .ne 5, 3) := by decide +kernel
theorem dX11_game_9 : decode prog_1_method_37_code 9 = .ok (.iconst (-1), 1) := by decide +kernel
theorem dX11_game_10 : decode prog_1_method_37_code 10 = .ok (.ireturn, 1) := by decide +kernel
theorem dX11_game_11 : decode prog_1_method_37_code 11 = .ok (.aload_n 0, 1) := by decide +kernel
theorem dX11_game_12 : decode prog_1_method_37_code 12 = .ok (.getfield 94, 3) := by decide +kernel
theorem dX11_game_15 : decode prog_1_method_37_code 15 = .ok (.invokevirtual 297, 3) := by decide +kernel
theorem dX11_game_18 : decode prog_1_method_37_code 18 = .ok (.istore_n 2, 1) := by decide +kernel
theorem dX11_game_19 : decode prog_1_method_37_code 19 = .ok (.iload_n 1, 1) := by decide +kernel
theorem dX11_game_20 : decode prog_1_method_37_code 20 = .ok (.ifCond .eq 8, 3) := by decide +kernel
theorem dX11_game_23 : decode prog_1_method_37_code 23 = .ok (.iload_n 2, 1) := by decide +kernel
theorem dX11_game_24 : decode prog_1_method_37_code 24 = .ok (.iconst (-1), 1) := by decide +kernel
theorem dX11_game_25 : decode prog_1_method_37_code 25 = .ok (.if_icmp .ne 7, 3) := by decide +kernel
theorem dX11_game_28 : decode prog_1_method_37_code 28 = .ok (.iload_n 2, 1) := by decide +kernel
theorem dX11_game_29 : decode prog_1_method_37_code 29 = .ok (.goto 11, 3) := by decide +kernel
theorem dX11_game_32 : decode prog_1_method_37_code 32 = .ok (.aload_n 0, 1) := by decide +kernel
theorem dX11_game_33 : decode prog_1_method_37_code 33 = .ok (.getfield 94, 3) := by decide +kernel
theorem dX11_game_36 : decode prog_1_method_37_code 36 = .ok (.iload_n 2, 1) := by decide +kernel
theorem dX11_game_37 : decode prog_1_method_37_code 37 = .ok (.invokevirtual 300, 3) := by decide +kernel
theorem dX11_game_40 : decode prog_1_method_37_code 40 = .ok (.ireturn, 1) := by decide +kernel
theorem dX11_claque_0 : decode prog_1_method_38_code 0 = .ok (.iload_n 1, 1) := by decide +kernel
theorem dX11_claque_1 : decode prog_1_method_38_code 1 = .ok (.iconst (-1), 1) := by decide +kernel
theorem dX11_claque_2 : decode prog_1_method_38_code 2 = .ok (.if_icmp .ne 16, 3) := by decide +kernel
theorem dX11_claque_5 : decode prog_1_method_38_code 5 = .ok (.aload_n 0, 1) := by decide +kernel
theorem dX11_claque_6 : decode prog_1_method_38_code 6 = .ok (.getfield 16, 3) := by decide +kernel
theorem dX11_claque_9 : decode prog_1_method_38_code 9 = .ok (.getfield 229, 3) := by decide +kernel
theorem dX11_claque_12 : decode prog_1_method_38_code 12 = .ok (.iconst 0, 1) := by decide +kernel
theorem dX11_claque_13 : decode prog_1_method_38_code 13 = .ok (.putfield 117, 3) := by decide +kernel
theorem dX11_claque_16 : decode prog_1_method_38_code 16 = .ok (.iconst 0, 1) := by decide +kernel
theorem dX11_claque_17 : decode prog_1_method_38_code 17 = .ok (.ireturn, 1) := by decide +kernel
theorem dX11_claque_18 : decode prog_1_method_38_code 18 = .ok (.iload_n 1, 1) := by decide +kernel
theorem dX11_claque_19 : decode prog_1_method_38_code 19 = .ok (.ifCond .lt 29, 3) := by decide +kernel
theorem dX11_claque_22 : decode prog_1_method_38_code 22 = .ok (.iload_n 1, 1) := by decide +kernel
theorem dX11_claque_23 : decode prog_1_method_38_code 23 = .ok (.iconst 1, 1) := by decide +kernel
theorem dX11_claque_24 : decode prog_1_method_38_code 24 = .ok (.aload_n 0, 1) := by decide +kernel
theorem dX11_claque_25 : decode prog_1_method_38_code 25 = .ok (.getfield 16, 3) := by decide +kernel
theorem dX11_claque_28 : decode prog_1_method_38_code 28 = .ok (.getfield 113, 3) := by decide +kernel
theorem dX11_claque_31 : decode prog_1_method_38_code 31 = .ok (.getfield 117, 3) := by decide +kernel
theorem dX11_claque_34 : decode prog_1_method_38_code 34 = .ok (.ishl, 1) := by decide +kernel
theorem dX11_claque_35 : decode prog_1_method_38_code 35 = .ok (.if_icmp .ge 13, 3) := by decide +kernel
theorem dX11_claque_38 : decode prog_1_method_38_code 38 = .ok (.iload_n 2, 1) := by decide +kernel
theorem dX11_claque_39 : decode prog_1_method_38_code 39 = .ok (.iconst 0, 1) := by decide +kernel
theorem dX11_claque_40 : decode prog_1_method_38_code 40 = .ok (.bipush 12, 2) := by decide +kernel
theorem dX11_claque_42 : decode prog_1_method_38_code 42 = .ok (.invokestatic 109, 3) := by decide +kernel
theorem dX11_claque_45 : decode prog_1_method_38_code 45 = .ok (.ifCond .ne 5, 3) := by decide +kernel
theorem dX11_claque_48 : decode prog_1_method_38_code 48 = .ok (.iconst (-1), 1) := by decide +kernel
theorem dX11_claque_49 : decode prog_1_method_38_code 49 = .ok (.ireturn, 1) := by decide +kernel
theorem dX11_claque_50 : decode prog_1_method_38_code 50 = .ok (.aload_n 0, 1) := by decide +kernel
theorem dX11_claque_51 : decode prog_1_method_38_code 51 = .ok (.getfield 16, 3) := by decide +kernel
theorem dX11_claque_54 : decode prog_1_method_38_code 54 = .ok (.getfield 229, 3) := by decide +kernel
theorem dX11_claque_57 : decode prog_1_method_38_code 57 = .ok (.iload_n 1, 1) := by decide +kernel
theorem dX11_claque_58 : decode prog_1_method_38_code 58 = .ok (.iload_n 2, 1) := by decide +kernel
theorem dX11_claque_59 : decode prog_1_method_38_code 59 = .ok (.iconst 0, 1) := by decide +kernel
theorem dX11_claque_60 : decode prog_1_method_38_code 60 = .ok (.iconst 0, 1) := by decide +kernel
theorem dX11_claque_61 : decode prog_1_method_38_code 61 = .ok (.invokevirtual 123, 3) := by decide +kernel
theorem dX11_claque_64 : decode prog_1_method_38_code 64 = .ok (.ifCond .eq 16, 3) := by decide +kernel
theorem dX11_claque_67 : decode prog_1_method_38_code 67 = .ok (.aload_n 0, 1) := by decide +kernel
theorem dX11_claque_68 : decode prog_1_method_38_code 68 = .ok (.getfield 16, 3) := by decide +kernel
theorem dX11_claque_71 : decode prog_1_method_38_code 71 = .ok (.getfield 229, 3) := by decide +kernel
theorem dX11_claque_74 : decode prog_1_method_38_code 74 = .ok (.getfield 117, 3) := by decide +kernel
theorem dX11_claque_77 : decode prog_1_method_38_code 77 = .ok (.goto 4, 3) := by decide +kernel
theorem dX11_claque_80 : decode prog_1_method_38_code 80 = .ok (.iconst (-1), 1) := by decide +kernel
theorem dX11_claque_81 : decode prog_1_method_38_code 81 = .ok (.ireturn, 1) := by decide +kernel
theorem dX11_fits_0 : decode prog_1_method_39_code 0 = .ok (.iload_n 1, 1) := by decide +kernel
theorem dX11_fits_1 : decode prog_1_method_39_code 1 = .ok (.iconst 0, 1) := by decide +kernel
theorem dX11_fits_2 : decode prog_1_method_39_code 2 = .ok (.iconst 3, 1) := by decide +kernel
theorem dX11_fits_3 : decode prog_1_method_39_code 3 = .ok (.invokestatic 109, 3) := by decide +kernel
theorem dX11_fits_6 : decode prog_1_method_39_code 6 = .ok (.ifCond .ne 5, 3) := by decide +kernel
theorem dX11_fits_9 : decode prog_1_method_39_code 9 = .ok (.iconst (-1), 1) := by decide +kernel
theorem dX11_fits_10 : decode prog_1_method_39_code 10 = .ok (.ireturn, 1) := by decide +kernel
theorem dX11_fits_11 : decode prog_1_method_39_code 11 = .ok (.aload_n 0, 1) := by decide +kernel
theorem dX11_fits_12 : decode prog_1_method_39_code 12 = .ok (.invokevirtual 303, 3) := by decide +kernel
theorem dX11_fits_15 : decode prog_1_method_39_code 15 = .ok (.iconst 0, 1) := by decide +kernel
theorem dX11_fits_16 : decode prog_1_method_39_code 16 = .ok (.istore_n 2, 1) := by decide +kernel
theorem dX11_fits_17 : decode prog_1_method_39_code 17 = .ok (.iconst (-1), 1) := by decide +kernel
theorem dX11_fits_18 : decode prog_1_method_39_code 18 = .ok (.istore_n 3, 1) := by decide +kernel
theorem dX11_fits_19 : decode prog_1_method_39_code 19 = .ok (.iconst (-1), 1) := by decide +kernel
theorem dX11_fits_20 : decode prog_1_method_39_code 20 = .ok (.istore 4, 2) := by decide +kernel
theorem dX11_fits_22 : decode prog_1_method_39_code 22 = .ok (.iconst 0, 1) := by decide +kernel
theorem dX11_fits_23 : decode prog_1_method_39_code 23 = .ok (.istore 5, 2) := by decide +kernel
theorem dX11_fits_25 : decode prog_1_method_39_code 25 = .ok (.iload 5, 2) := by decide +kernel
theorem dX11_fits_27 : decode prog_1_method_39_code 27 = .ok (.iconst 1, 1) := by decide +kernel
theorem dX11_fits_28 : decode prog_1_method_39_code 28 = .ok (.aload_n 0, 1) := by decide +kernel
theorem dX11_fits_29 : decode prog_1_method_39_code 29 = .ok (.getfield 16, 3) := by decide +kernel
theorem dX11_fits_32 : decode prog_1_method_39_code 32 = .ok (.getfield 113, 3) := by decide +kernel
theorem dX11_fits_35 : decode prog_1_method_39_code 35 = .ok (.getfield 117, 3) := by decide +kernel
theorem dX11_fits_38 : decode prog_1_method_39_code 38 = .ok (.ishl, 1) := by decide +kernel
theorem dX11_fits_39 : decode prog_1_method_39_code 39 = .ok (.if_icmp .ge 43, 3) := by decide +kernel
theorem dX11_fits_42 : decode prog_1_method_39_code 42 = .ok (.aload_n 0, 1) := by decide +kernel
theorem dX11_fits_43 : decode prog_1_method_39_code 43 = .ok (.iload 5, 2) := by decide +kernel
theorem dX11_fits_45 : decode prog_1_method_39_code 45 = .ok (.invokevirtual 306, 3) := by decide +kernel
theorem dX11_fits_48 : decode prog_1_method_39_code 48 = .ok (.ifCond .eq 28, 3) := by decide +kernel
theorem dX11_fits_51 : decode prog_1_method_39_code 51 = .ok (.iinc 2 1, 3) := by decide +kernel
theorem dX11_fits_54 : decode prog_1_method_39_code 54 = .ok (.iload_n 3, 1) := by decide +kernel
theorem dX11_fits_55 : decode prog_1_method_39_code 55 = .ok (.iconst (-1), 1) := by decide +kernel
theorem dX11_fits_56 : decode prog_1_method_39_code 56 = .ok (.if_icmp .ne 8, 3) := by decide +kernel
theorem dX11_fits_59 : decode prog_1_method_39_code 59 = .ok (.iload 5, 2) := by decide +kernel
theorem dX11_fits_61 : decode prog_1_method_39_code 61 = .ok (.goto 4, 3) := by decide +kernel
theorem dX11_fits_64 : decode prog_1_method_39_code 64 = .ok (.iload_n 3, 1) := by decide +kernel
theorem dX11_fits_65 : decode prog_1_method_39_code 65 = .ok (.istore_n 3, 1) := by decide +kernel
theorem dX11_fits_66 : decode prog_1_method_39_code 66 = .ok (.iload 5, 2) := by decide +kernel
theorem dX11_fits_68 : decode prog_1_method_39_code 68 = .ok (.istore 4, 2) := by decide +kernel
theorem dX11_fits_70 : decode prog_1_method_39_code 70 = .ok (.aload_n 0, 1) := by decide +kernel
theorem dX11_fits_71 : decode prog_1_method_39_code 71 = .ok (.iload 5, 2) := by decide +kernel
theorem dX11_fits_73 : decode prog_1_method_39_code 73 = .ok (.invokevirtual 309, 3) := by decide +kernel
theorem dX11_fits_76 : decode prog_1_method_39_code 76 = .ok (.iinc 5 1, 3) := by decide +kernel
theorem dX11_fits_79 : decode prog_1_method_39_code 79 = .ok (.goto (-54), 3) := by decide +kernel
theorem dX11_fits_82 : decode prog_1_method_39_code 82 = .ok (.iload_n 1, 1) := by decide +kernel
theorem dX11_fits_83 : decode prog_1_method_39_code 83 = .ok (.tableswitch 32 0 2 #[25, 27, 29], 25) := by decide +kernel
theorem dX11_fits_108 : decode prog_1_method_39_code 108 = .ok (.iload_n 2, 1) := by decide +kernel
theorem dX11_fits_109 : decode prog_1_method_39_code 109 = .ok (.ireturn, 1) := by decide +kernel
theorem dX11_fits_110 : decode prog_1_method_39_code 110 = .ok (.iload_n 3, 1) := by decide +kernel
theorem dX11_fits_111 : decode prog_1_method_39_code 111 = .ok (.ireturn, 1) := by decide +kernel
theorem dX11_fits_112 : decode prog_1_method_39_code 112 = .ok (.iload 4, 2) := by decide +kernel
theorem dX11_fits_114 : decode prog_1_method_39_code 114 = .ok (.ireturn, 1) := by decide +kernel
theorem dX11_fits_115 : decode prog_1_method_39_code 115 = .ok (.iload_n 2, 1) := by decide +kernel
theorem dX11_fits_116 : decode prog_1_method_39_code 116 = .ok (.iconst 2, 1) := by decide +kernel
theorem dX11_fits_117 : decode prog_1_method_39_code 117 = .ok (.if_icmp .ge 7, 3) := by decide +kernel
theorem dX11_fits_120 : decode prog_1_method_39_code 120 = .ok (.iconst (-1), 1) := by decide +kernel
theorem dX11_fits_121 : decode prog_1_method_39_code 121 = .ok (.goto 8, 3) := by decide +kernel
theorem dX11_fits_124 : decode prog_1_method_39_code 124 = .ok (.aload_n 0, 1) := by decide +kernel
theorem dX11_fits_125 : decode prog_1_method_39_code 125 = .ok (.iload_n 2, 1) := by decide +kernel
theorem dX11_fits_126 : decode prog_1_method_39_code 126 = .ok (.invokevirtual 312, 3) := by decide +kernel
theorem dX11_fits_129 : decode prog_1_method_39_code 129 = .ok (.ireturn, 1) := by decide +kernel
theorem dX11_couldBePaid_0 : decode prog_1_method_40_code 0 = .ok (.iconst 0, 1) := by decide +kernel
theorem dX11_couldBePaid_1 : decode prog_1_method_40_code 1 = .ok (.istore_n 2, 1) := by decide +kernel
theorem dX11_couldBePaid_2 : decode prog_1_method_40_code 2 = .ok (.iload_n 2, 1) := by decide +kernel
theorem dX11_couldBePaid_3 : decode prog_1_method_40_code 3 = .ok (.aload_n 0, 1) := by decide +kernel
theorem dX11_couldBePaid_4 : decode prog_1_method_40_code 4 = .ok (.getfield 16, 3) := by decide +kernel
theorem dX11_couldBePaid_7 : decode prog_1_method_40_code 7 = .ok (.getfield 229, 3) := by decide +kernel
theorem dX11_couldBePaid_10 : decode prog_1_method_40_code 10 = .ok (.getfield 117, 3) := by decide +kernel
theorem dX11_couldBePaid_13 : decode prog_1_method_40_code 13 = .ok (.if_icmp .ge 43, 3) := by decide +kernel
theorem dX11_couldBePaid_16 : decode prog_1_method_40_code 16 = .ok (.iload_n 1, 1) := by decide +kernel
theorem dX11_couldBePaid_17 : decode prog_1_method_40_code 17 = .ok (.aload_n 0, 1) := by decide +kernel
theorem dX11_couldBePaid_18 : decode prog_1_method_40_code 18 = .ok (.getfield 16, 3) := by decide +kernel
theorem dX11_couldBePaid_21 : decode prog_1_method_40_code 21 = .ok (.getfield 229, 3) := by decide +kernel
theorem dX11_couldBePaid_24 : decode prog_1_method_40_code 24 = .ok (.iload_n 2, 1) := by decide +kernel
theorem dX11_couldBePaid_25 : decode prog_1_method_40_code 25 = .ok (.iconst 0, 1) := by decide +kernel
theorem dX11_couldBePaid_26 : decode prog_1_method_40_code 26 = .ok (.invokevirtual 142, 3) := by decide +kernel
theorem dX11_couldBePaid_29 : decode prog_1_method_40_code 29 = .ok (.iand, 1) := by decide +kernel
theorem dX11_couldBePaid_30 : decode prog_1_method_40_code 30 = .ok (.invokestatic 273, 3) := by decide +kernel
theorem dX11_couldBePaid_33 : decode prog_1_method_40_code 33 = .ok (.aload_n 0, 1) := by decide +kernel
theorem dX11_couldBePaid_34 : decode prog_1_method_40_code 34 = .ok (.getfield 16, 3) := by decide +kernel
theorem dX11_couldBePaid_37 : decode prog_1_method_40_code 37 = .ok (.getfield 229, 3) := by decide +kernel
theorem dX11_couldBePaid_40 : decode prog_1_method_40_code 40 = .ok (.iload_n 2, 1) := by decide +kernel
theorem dX11_couldBePaid_41 : decode prog_1_method_40_code 41 = .ok (.iconst 1, 1) := by decide +kernel
theorem dX11_couldBePaid_42 : decode prog_1_method_40_code 42 = .ok (.invokevirtual 142, 3) := by decide +kernel
theorem dX11_couldBePaid_45 : decode prog_1_method_40_code 45 = .ok (.if_icmp .eq 5, 3) := by decide +kernel
theorem dX11_couldBePaid_48 : decode prog_1_method_40_code 48 = .ok (.iconst 0, 1) := by decide +kernel
theorem dX11_couldBePaid_49 : decode prog_1_method_40_code 49 = .ok (.ireturn, 1) := by decide +kernel
theorem dX11_couldBePaid_50 : decode prog_1_method_40_code 50 = .ok (.iinc 2 1, 3) := by decide +kernel
theorem dX11_couldBePaid_53 : decode prog_1_method_40_code 53 = .ok (.goto (-51), 3) := by decide +kernel
theorem dX11_couldBePaid_56 : decode prog_1_method_40_code 56 = .ok (.iconst 1, 1) := by decide +kernel
theorem dX11_couldBePaid_57 : decode prog_1_method_40_code 57 = .ok (.ireturn, 1) := by decide +kernel
theorem dX11_clearWith_0 : decode prog_1_method_41_code 0 = .ok (.iconst 0, 1) := by decide +kernel
theorem dX11_clearWith_1 : decode prog_1_method_41_code 1 = .ok (.istore_n 1, 1) := by decide +kernel
theorem dX11_clearWith_2 : decode prog_1_method_41_code 2 = .ok (.iload_n 1, 1) := by decide +kernel
theorem dX11_clearWith_3 : decode prog_1_method_41_code 3 = .ok (.aload_n 0, 1) := by decide +kernel
theorem dX11_clearWith_4 : decode prog_1_method_41_code 4 = .ok (.getfield 9, 3) := by decide +kernel
theorem dX11_clearWith_7 : decode prog_1_method_41_code 7 = .ok (.arraylength, 1) := by decide +kernel
theorem dX11_clearWith_8 : decode prog_1_method_41_code 8 = .ok (.if_icmp .ge 16, 3) := by decide +kernel
theorem dX11_clearWith_11 : decode prog_1_method_41_code 11 = .ok (.aload_n 0, 1) := by decide +kernel
theorem dX11_clearWith_12 : decode prog_1_method_41_code 12 = .ok (.getfield 9, 3) := by decide +kernel
theorem dX11_clearWith_15 : decode prog_1_method_41_code 15 = .ok (.iload_n 1, 1) := by decide +kernel
theorem dX11_clearWith_16 : decode prog_1_method_41_code 16 = .ok (.iconst 0, 1) := by decide +kernel
theorem dX11_clearWith_17 : decode prog_1_method_41_code 17 = .ok (.iastore, 1) := by decide +kernel
theorem dX11_clearWith_18 : decode prog_1_method_41_code 18 = .ok (.iinc 1 1, 3) := by decide +kernel
theorem dX11_clearWith_21 : decode prog_1_method_41_code 21 = .ok (.goto (-19), 3) := by decide +kernel
theorem dX11_clearWith_24 : decode prog_1_method_41_code 24 = .ok (.return_, 1) := by decide +kernel
theorem dX11_countWith_0 : decode prog_1_method_42_code 0 = .ok (.iconst 0, 1) := by decide +kernel
theorem dX11_countWith_1 : decode prog_1_method_42_code 1 = .ok (.istore_n 2, 1) := by decide +kernel
theorem dX11_countWith_2 : decode prog_1_method_42_code 2 = .ok (.iload_n 2, 1) := by decide +kernel
theorem dX11_countWith_3 : decode prog_1_method_42_code 3 = .ok (.aload_n 0, 1) := by decide +kernel
theorem dX11_countWith_4 : decode prog_1_method_42_code 4 = .ok (.getfield 9, 3) := by decide +kernel
theorem dX11_countWith_7 : decode prog_1_method_42_code 7 = .ok (.arraylength, 1) := by decide +kernel
theorem dX11_countWith_8 : decode prog_1_method_42_code 8 = .ok (.if_icmp .ge 31, 3) := by decide +kernel
theorem dX11_countWith_11 : decode prog_1_method_42_code 11 = .ok (.aload_n 0, 1) := by decide +kernel
theorem dX11_countWith_12 : decode prog_1_method_42_code 12 = .ok (.getfield 9, 3) := by decide +kernel
theorem dX11_countWith_15 : decode prog_1_method_42_code 15 = .ok (.iload_n 2, 1) := by decide +kernel
theorem dX11_countWith_16 : decode prog_1_method_42_code 16 = .ok (.dup2, 1) := by decide +kernel
theorem dX11_countWith_17 : decode prog_1_method_42_code 17 = .ok (.iaload, 1) := by decide +kernel
theorem dX11_countWith_18 : decode prog_1_method_42_code 18 = .ok (.iload_n 2, 1) := by decide +kernel
theorem dX11_countWith_19 : decode prog_1_method_42_code 19 = .ok (.iload_n 1, 1) := by decide +kernel
theorem dX11_countWith_20 : decode prog_1_method_42_code 20 = .ok (.invokestatic 278, 3) := by decide +kernel
theorem dX11_countWith_23 : decode prog_1_method_42_code 23 = .ok (.ifCond .eq 7, 3) := by decide +kernel
theorem dX11_countWith_26 : decode prog_1_method_42_code 26 = .ok (.iconst 1, 1) := by decide +kernel
theorem dX11_countWith_27 : decode prog_1_method_42_code 27 = .ok (.goto 4, 3) := by decide +kernel
theorem dX11_countWith_30 : decode prog_1_method_42_code 30 = .ok (.iconst 0, 1) := by decide +kernel
theorem dX11_countWith_31 : decode prog_1_method_42_code 31 = .ok (.iadd, 1) := by decide +kernel
theorem dX11_countWith_32 : decode prog_1_method_42_code 32 = .ok (.iastore, 1) := by decide +kernel
theorem dX11_countWith_33 : decode prog_1_method_42_code 33 = .ok (.iinc 2 1, 3) := by decide +kernel
theorem dX11_countWith_36 : decode prog_1_method_42_code 36 = .ok (.goto (-34), 3) := by decide +kernel
theorem dX11_countWith_39 : decode prog_1_method_42_code 39 = .ok (.return_, 1) := by decide +kernel
theorem dX11_whomToAsk_0 : decode prog_1_method_43_code 0 = .ok (.iconst (-1), 1) := by decide +kernel
theorem dX11_whomToAsk_1 : decode prog_1_method_43_code 1 = .ok (.istore_n 2, 1) := by decide +kernel
theorem dX11_whomToAsk_2 : decode prog_1_method_43_code 2 = .ok (.iload_n 1, 1) := by decide +kernel
theorem dX11_whomToAsk_3 : decode prog_1_method_43_code 3 = .ok (.istore_n 3, 1) := by decide +kernel
theorem dX11_whomToAsk_4 : decode prog_1_method_43_code 4 = .ok (.iconst 0, 1) := by decide +kernel
theorem dX11_whomToAsk_5 : decode prog_1_method_43_code 5 = .ok (.istore 4, 2) := by decide +kernel
theorem dX11_whomToAsk_7 : decode prog_1_method_43_code 7 = .ok (.iload 4, 2) := by decide +kernel
theorem dX11_whomToAsk_9 : decode prog_1_method_43_code 9 = .ok (.aload_n 0, 1) := by decide +kernel
theorem dX11_whomToAsk_10 : decode prog_1_method_43_code 10 = .ok (.getfield 16, 3) := by decide +kernel
theorem dX11_whomToAsk_13 : decode prog_1_method_43_code 13 = .ok (.getfield 113, 3) := by decide +kernel
theorem dX11_whomToAsk_16 : decode prog_1_method_43_code 16 = .ok (.getfield 117, 3) := by decide +kernel
theorem dX11_whomToAsk_19 : decode prog_1_method_43_code 19 = .ok (.if_icmp .ge 52, 3) := by decide +kernel
theorem dX11_whomToAsk_22 : decode prog_1_method_43_code 22 = .ok (.iload 4, 2) := by decide +kernel
theorem dX11_whomToAsk_24 : decode prog_1_method_43_code 24 = .ok (.aload_n 0, 1) := by decide +kernel
theorem dX11_whomToAsk_25 : decode prog_1_method_43_code 25 = .ok (.getfield 9, 3) := by decide +kernel
theorem dX11_whomToAsk_28 : decode prog_1_method_43_code 28 = .ok (.arraylength, 1) := by decide +kernel
theorem dX11_whomToAsk_29 : decode prog_1_method_43_code 29 = .ok (.if_icmp .ge 42, 3) := by decide +kernel
theorem dX11_whomToAsk_32 : decode prog_1_method_43_code 32 = .ok (.aload_n 0, 1) := by decide +kernel
theorem dX11_whomToAsk_33 : decode prog_1_method_43_code 33 = .ok (.getfield 9, 3) := by decide +kernel
theorem dX11_whomToAsk_36 : decode prog_1_method_43_code 36 = .ok (.iload 4, 2) := by decide +kernel
theorem dX11_whomToAsk_38 : decode prog_1_method_43_code 38 = .ok (.iaload, 1) := by decide +kernel
theorem dX11_whomToAsk_39 : decode prog_1_method_43_code 39 = .ok (.iload_n 1, 1) := by decide +kernel
theorem dX11_whomToAsk_40 : decode prog_1_method_43_code 40 = .ok (.aload_n 0, 1) := by decide +kernel
theorem dX11_whomToAsk_41 : decode prog_1_method_43_code 41 = .ok (.getfield 9, 3) := by decide +kernel
theorem dX11_whomToAsk_44 : decode prog_1_method_43_code 44 = .ok (.iload 4, 2) := by decide +kernel
theorem dX11_whomToAsk_46 : decode prog_1_method_43_code 46 = .ok (.iaload, 1) := by decide +kernel
theorem dX11_whomToAsk_47 : decode prog_1_method_43_code 47 = .ok (.isub, 1) := by decide +kernel
theorem dX11_whomToAsk_48 : decode prog_1_method_43_code 48 = .ok (.invokestatic 315, 3) := by decide +kernel
theorem dX11_whomToAsk_51 : decode prog_1_method_43_code 51 = .ok (.istore 5, 2) := by decide +kernel
theorem dX11_whomToAsk_53 : decode prog_1_method_43_code 53 = .ok (.iload 5, 2) := by decide +kernel
theorem dX11_whomToAsk_55 : decode prog_1_method_43_code 55 = .ok (.iload_n 3, 1) := by decide +kernel
theorem dX11_whomToAsk_56 : decode prog_1_method_43_code 56 = .ok (.if_icmp .ge 9, 3) := by decide +kernel
theorem dX11_whomToAsk_59 : decode prog_1_method_43_code 59 = .ok (.iload 5, 2) := by decide +kernel
theorem dX11_whomToAsk_61 : decode prog_1_method_43_code 61 = .ok (.istore_n 3, 1) := by decide +kernel
theorem dX11_whomToAsk_62 : decode prog_1_method_43_code 62 = .ok (.iload 4, 2) := by decide +kernel
theorem dX11_whomToAsk_64 : decode prog_1_method_43_code 64 = .ok (.istore_n 2, 1) := by decide +kernel
theorem dX11_whomToAsk_65 : decode prog_1_method_43_code 65 = .ok (.iinc 4 1, 3) := by decide +kernel
theorem dX11_whomToAsk_68 : decode prog_1_method_43_code 68 = .ok (.goto (-61), 3) := by decide +kernel
theorem dX11_whomToAsk_71 : decode prog_1_method_43_code 71 = .ok (.iload_n 2, 1) := by decide +kernel
theorem dX11_whomToAsk_72 : decode prog_1_method_43_code 72 = .ok (.ireturn, 1) := by decide +kernel
theorem dX11_brides_0 : decode prog_1_method_44_code 0 = .ok (.iconst 0, 1) := by decide +kernel
theorem dX11_brides_1 : decode prog_1_method_44_code 1 = .ok (.istore_n 1, 1) := by decide +kernel
theorem dX11_brides_2 : decode prog_1_method_44_code 2 = .ok (.iconst 0, 1) := by decide +kernel
theorem dX11_brides_3 : decode prog_1_method_44_code 3 = .ok (.istore_n 2, 1) := by decide +kernel
theorem dX11_brides_4 : decode prog_1_method_44_code 4 = .ok (.iconst 0, 1) := by decide +kernel
theorem dX11_brides_5 : decode prog_1_method_44_code 5 = .ok (.istore_n 3, 1) := by decide +kernel
theorem dX11_brides_6 : decode prog_1_method_44_code 6 = .ok (.iload_n 3, 1) := by decide +kernel
theorem dX11_brides_7 : decode prog_1_method_44_code 7 = .ok (.aload_n 0, 1) := by decide +kernel
theorem dX11_brides_8 : decode prog_1_method_44_code 8 = .ok (.getfield 16, 3) := by decide +kernel
theorem dX11_brides_11 : decode prog_1_method_44_code 11 = .ok (.getfield 113, 3) := by decide +kernel
theorem dX11_brides_14 : decode prog_1_method_44_code 14 = .ok (.getfield 117, 3) := by decide +kernel
theorem dX11_brides_17 : decode prog_1_method_44_code 17 = .ok (.if_icmp .ge 49, 3) := by decide +kernel
theorem dX11_brides_20 : decode prog_1_method_44_code 20 = .ok (.aload_n 0, 1) := by decide +kernel
theorem dX11_brides_21 : decode prog_1_method_44_code 21 = .ok (.getfield 16, 3) := by decide +kernel
theorem dX11_brides_24 : decode prog_1_method_44_code 24 = .ok (.getfield 113, 3) := by decide +kernel
theorem dX11_brides_27 : decode prog_1_method_44_code 27 = .ok (.iload_n 3, 1) := by decide +kernel
theorem dX11_brides_28 : decode prog_1_method_44_code 28 = .ok (.iconst 3, 1) := by decide +kernel
theorem dX11_brides_29 : decode prog_1_method_44_code 29 = .ok (.invokevirtual 142, 3) := by decide +kernel
theorem dX11_brides_32 : decode prog_1_method_44_code 32 = .ok (.iconst 1, 1) := by decide +kernel
theorem dX11_brides_33 : decode prog_1_method_44_code 33 = .ok (.if_icmp .ne 27, 3) := by decide +kernel
theorem dX11_brides_36 : decode prog_1_method_44_code 36 = .ok (.aload_n 0, 1) := by decide +kernel
theorem dX11_brides_37 : decode prog_1_method_44_code 37 = .ok (.getfield 16, 3) := by decide +kernel
theorem dX11_brides_40 : decode prog_1_method_44_code 40 = .ok (.getfield 113, 3) := by decide +kernel
theorem dX11_brides_43 : decode prog_1_method_44_code 43 = .ok (.iload_n 3, 1) := by decide +kernel
theorem dX11_brides_44 : decode prog_1_method_44_code 44 = .ok (.iconst 5, 1) := by decide +kernel
theorem dX11_brides_45 : decode prog_1_method_44_code 45 = .ok (.invokevirtual 142, 3) := by decide +kernel
theorem dX11_brides_48 : decode prog_1_method_44_code 48 = .ok (.ifCond .le 9, 3) := by decide +kernel
theorem dX11_brides_51 : decode prog_1_method_44_code 51 = .ok (.iinc 1 1, 3) := by decide +kernel
theorem dX11_brides_54 : decode prog_1_method_44_code 54 = .ok (.goto 6, 3) := by decide +kernel
theorem dX11_brides_57 : decode prog_1_method_44_code 57 = .ok (.iinc 2 1, 3) := by decide +kernel
theorem dX11_brides_60 : decode prog_1_method_44_code 60 = .ok (.iinc 3 1, 3) := by decide +kernel
theorem dX11_brides_63 : decode prog_1_method_44_code 63 = .ok (.goto (-57), 3) := by decide +kernel
theorem dX11_brides_66 : decode prog_1_method_44_code 66 = .ok (.lconst 1, 1) := by decide +kernel
theorem dX11_brides_67 : decode prog_1_method_44_code 67 = .ok (.lstore_n 3, 1) := by decide +kernel
theorem dX11_brides_68 : decode prog_1_method_44_code 68 = .ok (.iload_n 1, 1) := by decide +kernel
theorem dX11_brides_69 : decode prog_1_method_44_code 69 = .ok (.iload_n 2, 1) := by decide +kernel
theorem dX11_brides_70 : decode prog_1_method_44_code 70 = .ok (.invokestatic 315, 3) := by decide +kernel
theorem dX11_brides_73 : decode prog_1_method_44_code 73 = .ok (.istore 5, 2) := by decide +kernel
theorem dX11_brides_75 : decode prog_1_method_44_code 75 = .ok (.iconst 0, 1) := by decide +kernel
theorem dX11_brides_76 : decode prog_1_method_44_code 76 = .ok (.istore 6, 2) := by decide +kernel
theorem dX11_brides_78 : decode prog_1_method_44_code 78 = .ok (.iload 6, 2) := by decide +kernel
theorem dX11_brides_80 : decode prog_1_method_44_code 80 = .ok (.iload_n 1, 1) := by decide +kernel
theorem dX11_brides_81 : decode prog_1_method_44_code 81 = .ok (.iload_n 2, 1) := by decide +kernel
theorem dX11_brides_82 : decode prog_1_method_44_code 82 = .ok (.invokestatic 152, 3) := by decide +kernel
theorem dX11_brides_85 : decode prog_1_method_44_code 85 = .ok (.if_icmp .ge 22, 3) := by decide +kernel
theorem dX11_brides_88 : decode prog_1_method_44_code 88 = .ok (.lload_n 3, 1) := by decide +kernel
theorem dX11_brides_89 : decode prog_1_method_44_code 89 = .ok (.iload 5, 2) := by decide +kernel
theorem dX11_brides_91 : decode prog_1_method_44_code 91 = .ok (.iload 6, 2) := by decide +kernel
theorem dX11_brides_93 : decode prog_1_method_44_code 93 = .ok (.isub, 1) := by decide +kernel
theorem dX11_brides_94 : decode prog_1_method_44_code 94 = .ok (.i2l, 1) := by decide +kernel
theorem dX11_brides_95 : decode prog_1_method_44_code 95 = .ok (.lmul, 1) := by decide +kernel
theorem dX11_brides_96 : decode prog_1_method_44_code 96 = .ok (.ldc2_w 318, 3) := by decide +kernel
theorem dX11_brides_99 : decode prog_1_method_44_code 99 = .ok (.lrem, 1) := by decide +kernel
theorem dX11_brides_100 : decode prog_1_method_44_code 100 = .ok (.lstore_n 3, 1) := by decide +kernel
theorem dX11_brides_101 : decode prog_1_method_44_code 101 = .ok (.iinc 6 1, 3) := by decide +kernel
theorem dX11_brides_104 : decode prog_1_method_44_code 104 = .ok (.goto (-26), 3) := by decide +kernel
theorem dX11_brides_107 : decode prog_1_method_44_code 107 = .ok (.lload_n 3, 1) := by decide +kernel
theorem dX11_brides_108 : decode prog_1_method_44_code 108 = .ok (.l2i, 1) := by decide +kernel
theorem dX11_brides_109 : decode prog_1_method_44_code 109 = .ok (.ireturn, 1) := by decide +kernel
theorem dX11_share_0 : decode prog_1_method_45_code 0 = .ok (.aload_n 0, 1) := by decide +kernel
theorem dX11_share_1 : decode prog_1_method_45_code 1 = .ok (.invokevirtual 320, 3) := by decide +kernel
theorem dX11_share_4 : decode prog_1_method_45_code 4 = .ok (.istore_n 3, 1) := by decide +kernel
theorem dX11_share_5 : decode prog_1_method_45_code 5 = .ok (.iload_n 1, 1) := by decide +kernel
theorem dX11_share_6 : decode prog_1_method_45_code 6 = .ok (.iconst 0, 1) := by decide +kernel
theorem dX11_share_7 : decode prog_1_method_45_code 7 = .ok (.sipush 9999, 3) := by decide +kernel
theorem dX11_share_10 : decode prog_1_method_45_code 10 = .ok (.invokestatic 109, 3) := by decide +kernel
theorem dX11_share_13 : decode prog_1_method_45_code 13 = .ok (.ifCond .eq 22, 3) := by decide +kernel
theorem dX11_share_16 : decode prog_1_method_45_code 16 = .ok (.aload_n 0, 1) := by decide +kernel
theorem dX11_share_17 : decode prog_1_method_45_code 17 = .ok (.getfield 16, 3) := by decide +kernel
theorem dX11_share_20 : decode prog_1_method_45_code 20 = .ok (.getfield 113, 3) := by decide +kernel
theorem dX11_share_23 : decode prog_1_method_45_code 23 = .ok (.iload_n 2, 1) := by decide +kernel
theorem dX11_share_24 : decode prog_1_method_45_code 24 = .ok (.invokevirtual 138, 3) := by decide +kernel
theorem dX11_share_27 : decode prog_1_method_45_code 27 = .ok (.ifCond .eq 8, 3) := by decide +kernel
theorem dX11_share_30 : decode prog_1_method_45_code 30 = .ok (.iload_n 3, 1) := by decide +kernel
theorem dX11_share_31 : decode prog_1_method_45_code 31 = .ok (.iconst 1, 1) := by decide +kernel
theorem dX11_share_32 : decode prog_1_method_45_code 32 = .ok (.if_icmp .ge 5, 3) := by decide +kernel
theorem dX11_share_35 : decode prog_1_method_45_code 35 = .ok (.iconst (-1), 1) := by decide +kernel
theorem dX11_share_36 : decode prog_1_method_45_code 36 = .ok (.ireturn, 1) := by decide +kernel
theorem dX11_share_37 : decode prog_1_method_45_code 37 = .ok (.aload_n 0, 1) := by decide +kernel
theorem dX11_share_38 : decode prog_1_method_45_code 38 = .ok (.iload_n 2, 1) := by decide +kernel
theorem dX11_share_39 : decode prog_1_method_45_code 39 = .ok (.invokevirtual 323, 3) := by decide +kernel
theorem dX11_share_42 : decode prog_1_method_45_code 42 = .ok (.ifCond .ne 5, 3) := by decide +kernel
theorem dX11_share_45 : decode prog_1_method_45_code 45 = .ok (.iconst 0, 1) := by decide +kernel
theorem dX11_share_46 : decode prog_1_method_45_code 46 = .ok (.ireturn, 1) := by decide +kernel
theorem dX11_share_47 : decode prog_1_method_45_code 47 = .ok (.iload_n 1, 1) := by decide +kernel
theorem dX11_share_48 : decode prog_1_method_45_code 48 = .ok (.istore 4, 2) := by decide +kernel
theorem dX11_share_50 : decode prog_1_method_45_code 50 = .ok (.iconst 0, 1) := by decide +kernel
theorem dX11_share_51 : decode prog_1_method_45_code 51 = .ok (.istore 5, 2) := by decide +kernel
theorem dX11_share_53 : decode prog_1_method_45_code 53 = .ok (.iload_n 1, 1) := by decide +kernel
theorem dX11_share_54 : decode prog_1_method_45_code 54 = .ok (.aload_n 0, 1) := by decide +kernel
theorem dX11_share_55 : decode prog_1_method_45_code 55 = .ok (.iload_n 2, 1) := by decide +kernel
theorem dX11_share_56 : decode prog_1_method_45_code 56 = .ok (.invokevirtual 323, 3) := by decide +kernel
theorem dX11_share_59 : decode prog_1_method_45_code 59 = .ok (.imul, 1) := by decide +kernel
theorem dX11_share_60 : decode prog_1_method_45_code 60 = .ok (.istore 6, 2) := by decide +kernel
theorem dX11_share_62 : decode prog_1_method_45_code 62 = .ok (.iconst 0, 1) := by decide +kernel
theorem dX11_share_63 : decode prog_1_method_45_code 63 = .ok (.istore 7, 2) := by decide +kernel
theorem dX11_share_65 : decode prog_1_method_45_code 65 = .ok (.iload 7, 2) := by decide +kernel
theorem dX11_share_67 : decode prog_1_method_45_code 67 = .ok (.aload_n 0, 1) := by decide +kernel
theorem dX11_share_68 : decode prog_1_method_45_code 68 = .ok (.getfield 16, 3) := by decide +kernel
theorem dX11_share_71 : decode prog_1_method_45_code 71 = .ok (.getfield 113, 3) := by decide +kernel
theorem dX11_share_74 : decode prog_1_method_45_code 74 = .ok (.getfield 117, 3) := by decide +kernel
theorem dX11_share_77 : decode prog_1_method_45_code 77 = .ok (.if_icmp .ge 80, 3) := by decide +kernel
theorem dX11_share_80 : decode prog_1_method_45_code 80 = .ok (.iload_n 1, 1) := by decide +kernel
theorem dX11_share_81 : decode prog_1_method_45_code 81 = .ok (.aload_n 0, 1) := by decide +kernel
theorem dX11_share_82 : decode prog_1_method_45_code 82 = .ok (.iload 7, 2) := by decide +kernel
theorem dX11_share_84 : decode prog_1_method_45_code 84 = .ok (.invokevirtual 323, 3) := by decide +kernel
theorem dX11_share_87 : decode prog_1_method_45_code 87 = .ok (.imul, 1) := by decide +kernel
theorem dX11_share_88 : decode prog_1_method_45_code 88 = .ok (.istore 8, 2) := by decide +kernel
theorem dX11_share_90 : decode prog_1_method_45_code 90 = .ok (.iload 4, 2) := by decide +kernel
theorem dX11_share_92 : decode prog_1_method_45_code 92 = .ok (.iload 8, 2) := by decide +kernel
theorem dX11_share_94 : decode prog_1_method_45_code 94 = .ok (.iload_n 3, 1) := by decide +kernel
theorem dX11_share_95 : decode prog_1_method_45_code 95 = .ok (.idiv, 1) := by decide +kernel
theorem dX11_share_96 : decode prog_1_method_45_code 96 = .ok (.isub, 1) := by decide +kernel
theorem dX11_share_97 : decode prog_1_method_45_code 97 = .ok (.istore 4, 2) := by decide +kernel
theorem dX11_share_99 : decode prog_1_method_45_code 99 = .ok (.iload 8, 2) := by decide +kernel
theorem dX11_share_101 : decode prog_1_method_45_code 101 = .ok (.iload_n 3, 1) := by decide +kernel
theorem dX11_share_102 : decode prog_1_method_45_code 102 = .ok (.irem, 1) := by decide +kernel
theorem dX11_share_103 : decode prog_1_method_45_code 103 = .ok (.iload 6, 2) := by decide +kernel
theorem dX11_share_105 : decode prog_1_method_45_code 105 = .ok (.iload_n 3, 1) := by decide +kernel
theorem dX11_share_106 : decode prog_1_method_45_code 106 = .ok (.irem, 1) := by decide +kernel
theorem dX11_share_107 : decode prog_1_method_45_code 107 = .ok (.if_icmp .gt 20, 3) := by decide +kernel
theorem dX11_share_110 : decode prog_1_method_45_code 110 = .ok (.iload 8, 2) := by decide +kernel
theorem dX11_share_112 : decode prog_1_method_45_code 112 = .ok (.iload_n 3, 1) := by decide +kernel
theorem dX11_share_113 : decode prog_1_method_45_code 113 = .ok (.irem, 1) := by decide +kernel
theorem dX11_share_114 : decode prog_1_method_45_code 114 = .ok (.iload 6, 2) := by decide +kernel
theorem dX11_share_116 : decode prog_1_method_45_code 116 = .ok (.iload_n 3, 1) := by decide +kernel
theorem dX11_share_117 : decode prog_1_method_45_code 117 = .ok (.irem, 1) := by decide +kernel
theorem dX11_share_118 : decode prog_1_method_45_code 118 = .ok (.if_icmp .ne 13, 3) := by decide +kernel
theorem dX11_share_121 : decode prog_1_method_45_code 121 = .ok (.iload 7, 2) := by decide +kernel
theorem dX11_share_123 : decode prog_1_method_45_code 123 = .ok (.iload_n 2, 1) := by decide +kernel
theorem dX11_share_124 : decode prog_1_method_45_code 124 = .ok (.if_icmp .ge 7, 3) := by decide +kernel
theorem dX11_share_127 : decode prog_1_method_45_code 127 = .ok (.iconst 1, 1) := by decide +kernel
theorem dX11_share_128 : decode prog_1_method_45_code 128 = .ok (.goto 4, 3) := by decide +kernel
theorem dX11_share_131 : decode prog_1_method_45_code 131 = .ok (.iconst 0, 1) := by decide +kernel
theorem dX11_share_132 : decode prog_1_method_45_code 132 = .ok (.istore 9, 2) := by decide +kernel
theorem dX11_share_134 : decode prog_1_method_45_code 134 = .ok (.aload_n 0, 1) := by decide +kernel
theorem dX11_share_135 : decode prog_1_method_45_code 135 = .ok (.iload 7, 2) := by decide +kernel
theorem dX11_share_137 : decode prog_1_method_45_code 137 = .ok (.invokevirtual 323, 3) := by decide +kernel
theorem dX11_share_140 : decode prog_1_method_45_code 140 = .ok (.ifCond .le 11, 3) := by decide +kernel
theorem dX11_share_143 : decode prog_1_method_45_code 143 = .ok (.iload 9, 2) := by decide +kernel
theorem dX11_share_145 : decode prog_1_method_45_code 145 = .ok (.ifCond .eq 6, 3) := by decide +kernel
theorem dX11_share_148 : decode prog_1_method_45_code 148 = .ok (.iinc 5 1, 3) := by decide +kernel
theorem dX11_share_151 : decode prog_1_method_45_code 151 = .ok (.iinc 7 1, 3) := by decide +kernel
theorem dX11_share_154 : decode prog_1_method_45_code 154 = .ok (.goto (-89), 3) := by decide +kernel
theorem dX11_share_157 : decode prog_1_method_45_code 157 = .ok (.iload 6, 2) := by decide +kernel
theorem dX11_share_159 : decode prog_1_method_45_code 159 = .ok (.iload_n 3, 1) := by decide +kernel
theorem dX11_share_160 : decode prog_1_method_45_code 160 = .ok (.idiv, 1) := by decide +kernel
theorem dX11_share_161 : decode prog_1_method_45_code 161 = .ok (.iload 5, 2) := by decide +kernel
theorem dX11_share_163 : decode prog_1_method_45_code 163 = .ok (.iload 4, 2) := by decide +kernel
theorem dX11_share_165 : decode prog_1_method_45_code 165 = .ok (.if_icmp .ge 7, 3) := by decide +kernel
theorem dX11_share_168 : decode prog_1_method_45_code 168 = .ok (.iconst 1, 1) := by decide +kernel
theorem dX11_share_169 : decode prog_1_method_45_code 169 = .ok (.goto 4, 3) := by decide +kernel
theorem dX11_share_172 : decode prog_1_method_45_code 172 = .ok (.iconst 0, 1) := by decide +kernel
theorem dX11_share_173 : decode prog_1_method_45_code 173 = .ok (.iadd, 1) := by decide +kernel
theorem dX11_share_174 : decode prog_1_method_45_code 174 = .ok (.ireturn, 1) := by decide +kernel
theorem dX11_weight_0 : decode prog_1_method_46_code 0 = .ok (.aload_n 0, 1) := by decide +kernel
theorem dX11_weight_1 : decode prog_1_method_46_code 1 = .ok (.getfield 16, 3) := by decide +kernel
theorem dX11_weight_4 : decode prog_1_method_46_code 4 = .ok (.getfield 113, 3) := by decide +kernel
theorem dX11_weight_7 : decode prog_1_method_46_code 7 = .ok (.iload_n 1, 1) := by decide +kernel
theorem dX11_weight_8 : decode prog_1_method_46_code 8 = .ok (.iconst 3, 1) := by decide +kernel
theorem dX11_weight_9 : decode prog_1_method_46_code 9 = .ok (.invokevirtual 142, 3) := by decide +kernel
theorem dX11_weight_12 : decode prog_1_method_46_code 12 = .ok (.iconst 1, 1) := by decide +kernel
theorem dX11_weight_13 : decode prog_1_method_46_code 13 = .ok (.if_icmp .ne 20, 3) := by decide +kernel
theorem dX11_weight_16 : decode prog_1_method_46_code 16 = .ok (.aload_n 0, 1) := by decide +kernel
theorem dX11_weight_17 : decode prog_1_method_46_code 17 = .ok (.getfield 16, 3) := by decide +kernel
theorem dX11_weight_20 : decode prog_1_method_46_code 20 = .ok (.getfield 113, 3) := by decide +kernel
theorem dX11_weight_23 : decode prog_1_method_46_code 23 = .ok (.iload_n 1, 1) := by decide +kernel
theorem dX11_weight_24 : decode prog_1_method_46_code 24 = .ok (.iconst 1, 1) := by decide +kernel
theorem dX11_weight_25 : decode prog_1_method_46_code 25 = .ok (.invokevirtual 142, 3) := by decide +kernel
theorem dX11_weight_28 : decode prog_1_method_46_code 28 = .ok (.iconst 1, 1) := by decide +kernel
theorem dX11_weight_29 : decode prog_1_method_46_code 29 = .ok (.iadd, 1) := by decide +kernel
theorem dX11_weight_30 : decode prog_1_method_46_code 30 = .ok (.goto 4, 3) := by decide +kernel
theorem dX11_weight_33 : decode prog_1_method_46_code 33 = .ok (.iconst 0, 1) := by decide +kernel
theorem dX11_weight_34 : decode prog_1_method_46_code 34 = .ok (.ireturn, 1) := by decide +kernel
theorem dX11_weightOfAll_0 : decode prog_1_method_47_code 0 = .ok (.iconst 0, 1) := by decide +kernel
theorem dX11_weightOfAll_1 : decode prog_1_method_47_code 1 = .ok (.istore_n 1, 1) := by decide +kernel
theorem dX11_weightOfAll_2 : decode prog_1_method_47_code 2 = .ok (.iconst 0, 1) := by decide +kernel
theorem dX11_weightOfAll_3 : decode prog_1_method_47_code 3 = .ok (.istore_n 2, 1) := by decide +kernel
theorem dX11_weightOfAll_4 : decode prog_1_method_47_code 4 = .ok (.iload_n 2, 1) := by decide +kernel
theorem dX11_weightOfAll_5 : decode prog_1_method_47_code 5 = .ok (.aload_n 0, 1) := by decide +kernel
theorem dX11_weightOfAll_6 : decode prog_1_method_47_code 6 = .ok (.getfield 16, 3) := by decide +kernel
theorem dX11_weightOfAll_9 : decode prog_1_method_47_code 9 = .ok (.getfield 113, 3) := by decide +kernel
theorem dX11_weightOfAll_12 : decode prog_1_method_47_code 12 = .ok (.getfield 117, 3) := by decide +kernel
theorem dX11_weightOfAll_15 : decode prog_1_method_47_code 15 = .ok (.if_icmp .ge 17, 3) := by decide +kernel
theorem dX11_weightOfAll_18 : decode prog_1_method_47_code 18 = .ok (.iload_n 1, 1) := by decide +kernel
theorem dX11_weightOfAll_19 : decode prog_1_method_47_code 19 = .ok (.aload_n 0, 1) := by decide +kernel
theorem dX11_weightOfAll_20 : decode prog_1_method_47_code 20 = .ok (.iload_n 2, 1) := by decide +kernel
theorem dX11_weightOfAll_21 : decode prog_1_method_47_code 21 = .ok (.invokevirtual 323, 3) := by decide +kernel
theorem dX11_weightOfAll_24 : decode prog_1_method_47_code 24 = .ok (.iadd, 1) := by decide +kernel
theorem dX11_weightOfAll_25 : decode prog_1_method_47_code 25 = .ok (.istore_n 1, 1) := by decide +kernel
theorem dX11_weightOfAll_26 : decode prog_1_method_47_code 26 = .ok (.iinc 2 1, 3) := by decide +kernel
theorem dX11_weightOfAll_29 : decode prog_1_method_47_code 29 = .ok (.goto (-25), 3) := by decide +kernel
theorem dX11_weightOfAll_32 : decode prog_1_method_47_code 32 = .ok (.iload_n 1, 1) := by decide +kernel
theorem dX11_weightOfAll_33 : decode prog_1_method_47_code 33 = .ok (.ireturn, 1) := by decide +kernel
theorem dX11_near_0 : decode prog_1_method_48_code 0 = .ok (.aload_n 0, 1) := by decide +kernel
theorem dX11_near_1 : decode prog_1_method_48_code 1 = .ok (.getfield 16, 3) := by decide +kernel
theorem dX11_near_4 : decode prog_1_method_48_code 4 = .ok (.getfield 113, 3) := by decide +kernel
theorem dX11_near_7 : decode prog_1_method_48_code 7 = .ok (.iload_n 1, 1) := by decide +kernel
theorem dX11_near_8 : decode prog_1_method_48_code 8 = .ok (.invokevirtual 138, 3) := by decide +kernel
theorem dX11_near_11 : decode prog_1_method_48_code 11 = .ok (.ifCond .eq 13, 3) := by decide +kernel
theorem dX11_near_14 : decode prog_1_method_48_code 14 = .ok (.iload_n 2, 1) := by decide +kernel
theorem dX11_near_15 : decode prog_1_method_48_code 15 = .ok (.iconst 0, 1) := by decide +kernel
theorem dX11_near_16 : decode prog_1_method_48_code 16 = .ok (.bipush 12, 2) := by decide +kernel
theorem dX11_near_18 : decode prog_1_method_48_code 18 = .ok (.invokestatic 109, 3) := by decide +kernel
theorem dX11_near_21 : decode prog_1_method_48_code 21 = .ok (.ifCond .ne 5, 3) := by decide +kernel
theorem dX11_near_24 : decode prog_1_method_48_code 24 = .ok (.iconst (-1), 1) := by decide +kernel
theorem dX11_near_25 : decode prog_1_method_48_code 25 = .ok (.ireturn, 1) := by decide +kernel
theorem dX11_near_26 : decode prog_1_method_48_code 26 = .ok (.aload_n 0, 1) := by decide +kernel
theorem dX11_near_27 : decode prog_1_method_48_code 27 = .ok (.getfield 87, 3) := by decide +kernel
theorem dX11_near_30 : decode prog_1_method_48_code 30 = .ok (.iconst 1, 1) := by decide +kernel
theorem dX11_near_31 : decode prog_1_method_48_code 31 = .ok (.iload_n 1, 1) := by decide +kernel
theorem dX11_near_32 : decode prog_1_method_48_code 32 = .ok (.ishl, 1) := by decide +kernel
theorem dX11_near_33 : decode prog_1_method_48_code 33 = .ok (.iload_n 2, 1) := by decide +kernel
theorem dX11_near_34 : decode prog_1_method_48_code 34 = .ok (.aload_n 0, 1) := by decide +kernel
theorem dX11_near_35 : decode prog_1_method_48_code 35 = .ok (.getfield 87, 3) := by decide +kernel
theorem dX11_near_38 : decode prog_1_method_48_code 38 = .ok (.invokevirtual 326, 3) := by decide +kernel
theorem dX11_near_41 : decode prog_1_method_48_code 41 = .ok (.invokevirtual 329, 3) := by decide +kernel
theorem dX11_near_44 : decode prog_1_method_48_code 44 = .ok (.ireturn, 1) := by decide +kernel
theorem dX11_cuts_0 : decode prog_1_method_49_code 0 = .ok (.aload_n 0, 1) := by decide +kernel
theorem dX11_cuts_1 : decode prog_1_method_49_code 1 = .ok (.getfield 16, 3) := by decide +kernel
theorem dX11_cuts_4 : decode prog_1_method_49_code 4 = .ok (.getfield 113, 3) := by decide +kernel
theorem dX11_cuts_7 : decode prog_1_method_49_code 7 = .ok (.iload_n 1, 1) := by decide +kernel
theorem dX11_cuts_8 : decode prog_1_method_49_code 8 = .ok (.invokevirtual 138, 3) := by decide +kernel
theorem dX11_cuts_11 : decode prog_1_method_49_code 11 = .ok (.ifCond .eq 31, 3) := by decide +kernel
theorem dX11_cuts_14 : decode prog_1_method_49_code 14 = .ok (.aload_n 0, 1) := by decide +kernel
theorem dX11_cuts_15 : decode prog_1_method_49_code 15 = .ok (.getfield 16, 3) := by decide +kernel
theorem dX11_cuts_18 : decode prog_1_method_49_code 18 = .ok (.getfield 113, 3) := by decide +kernel
theorem dX11_cuts_21 : decode prog_1_method_49_code 21 = .ok (.iload_n 2, 1) := by decide +kernel
theorem dX11_cuts_22 : decode prog_1_method_49_code 22 = .ok (.invokevirtual 138, 3) := by decide +kernel
theorem dX11_cuts_25 : decode prog_1_method_49_code 25 = .ok (.ifCond .eq 17, 3) := by decide +kernel
theorem dX11_cuts_28 : decode prog_1_method_49_code 28 = .ok (.iload_n 1, 1) := by decide +kernel
theorem dX11_cuts_29 : decode prog_1_method_49_code 29 = .ok (.iload_n 2, 1) := by decide +kernel
theorem dX11_cuts_30 : decode prog_1_method_49_code 30 = .ok (.if_icmp .eq 12, 3) := by decide +kernel
theorem dX11_cuts_33 : decode prog_1_method_49_code 33 = .ok (.iload_n 3, 1) := by decide +kernel
theorem dX11_cuts_34 : decode prog_1_method_49_code 34 = .ok (.iconst 0, 1) := by decide +kernel
theorem dX11_cuts_35 : decode prog_1_method_49_code 35 = .ok (.iconst 1, 1) := by decide +kernel
theorem dX11_cuts_36 : decode prog_1_method_49_code 36 = .ok (.invokestatic 109, 3) := by decide +kernel
theorem dX11_cuts_39 : decode prog_1_method_49_code 39 = .ok (.ifCond .ne 5, 3) := by decide +kernel
theorem dX11_cuts_42 : decode prog_1_method_49_code 42 = .ok (.iconst (-1), 1) := by decide +kernel
theorem dX11_cuts_43 : decode prog_1_method_49_code 43 = .ok (.ireturn, 1) := by decide +kernel
theorem dX11_cuts_44 : decode prog_1_method_49_code 44 = .ok (.iload_n 2, 1) := by decide +kernel
theorem dX11_cuts_45 : decode prog_1_method_49_code 45 = .ok (.aload_n 0, 1) := by decide +kernel
theorem dX11_cuts_46 : decode prog_1_method_49_code 46 = .ok (.getfield 16, 3) := by decide +kernel
theorem dX11_cuts_49 : decode prog_1_method_49_code 49 = .ok (.getfield 113, 3) := by decide +kernel
theorem dX11_cuts_52 : decode prog_1_method_49_code 52 = .ok (.iload_n 1, 1) := by decide +kernel
theorem dX11_cuts_53 : decode prog_1_method_49_code 53 = .ok (.bipush 6, 2) := by decide +kernel
theorem dX11_cuts_55 : decode prog_1_method_49_code 55 = .ok (.invokevirtual 142, 3) := by decide +kernel
theorem dX11_cuts_58 : decode prog_1_method_49_code 58 = .ok (.invokestatic 278, 3) := by decide +kernel
theorem dX11_cuts_61 : decode prog_1_method_49_code 61 = .ok (.ifCond .eq 5, 3) := by decide +kernel
theorem dX11_cuts_64 : decode prog_1_method_49_code 64 = .ok (.iconst (-1), 1) := by decide +kernel
theorem dX11_cuts_65 : decode prog_1_method_49_code 65 = .ok (.ireturn, 1) := by decide +kernel
theorem dX11_cuts_66 : decode prog_1_method_49_code 66 = .ok (.aload_n 0, 1) := by decide +kernel
theorem dX11_cuts_67 : decode prog_1_method_49_code 67 = .ok (.getfield 87, 3) := by decide +kernel
theorem dX11_cuts_70 : decode prog_1_method_49_code 70 = .ok (.iload_n 1, 1) := by decide +kernel
theorem dX11_cuts_71 : decode prog_1_method_49_code 71 = .ok (.iload_n 2, 1) := by decide +kernel
theorem dX11_cuts_72 : decode prog_1_method_49_code 72 = .ok (.invokevirtual 332, 3) := by decide +kernel
theorem dX11_cuts_75 : decode prog_1_method_49_code 75 = .ok (.iload_n 3, 1) := by decide +kernel
theorem dX11_cuts_76 : decode prog_1_method_49_code 76 = .ok (.invokestatic 264, 3) := by decide +kernel
theorem dX11_cuts_79 : decode prog_1_method_49_code 79 = .ok (.ireturn, 1) := by decide +kernel
theorem dX11_groups_0 : decode prog_1_method_50_code 0 = .ok (.iload_n 1, 1) := by decide +kernel
theorem dX11_groups_1 : decode prog_1_method_50_code 1 = .ok (.iconst 0, 1) := by decide +kernel
theorem dX11_groups_2 : decode prog_1_method_50_code 2 = .ok (.iconst 1, 1) := by decide +kernel
theorem dX11_groups_3 : decode prog_1_method_50_code 3 = .ok (.invokestatic 109, 3) := by decide +kernel
theorem dX11_groups_6 : decode prog_1_method_50_code 6 = .ok (.ifCond .ne 5, 3) := by decide +kernel
theorem dX11_groups_9 : decode prog_1_method_50_code 9 = .ok (.iconst (-1), 1) := by decide +kernel
theorem dX11_groups_10 : decode prog_1_method_50_code 10 = .ok (.ireturn, 1) := by decide +kernel
theorem dX11_groups_11 : decode prog_1_method_50_code 11 = .ok (.iconst 0, 1) := by decide +kernel
theorem dX11_groups_12 : decode prog_1_method_50_code 12 = .ok (.istore_n 2, 1) := by decide +kernel
theorem dX11_groups_13 : decode prog_1_method_50_code 13 = .ok (.iconst 0, 1) := by decide +kernel
theorem dX11_groups_14 : decode prog_1_method_50_code 14 = .ok (.istore_n 3, 1) := by decide +kernel
theorem dX11_groups_15 : decode prog_1_method_50_code 15 = .ok (.iconst 0, 1) := by decide +kernel
theorem dX11_groups_16 : decode prog_1_method_50_code 16 = .ok (.istore 4, 2) := by decide +kernel
theorem dX11_groups_18 : decode prog_1_method_50_code 18 = .ok (.iconst 0, 1) := by decide +kernel
theorem dX11_groups_19 : decode prog_1_method_50_code 19 = .ok (.istore 5, 2) := by decide +kernel
theorem dX11_groups_21 : decode prog_1_method_50_code 21 = .ok (.iload 5, 2) := by decide +kernel
theorem dX11_groups_23 : decode prog_1_method_50_code 23 = .ok (.aload_n 0, 1) := by decide +kernel
theorem dX11_groups_24 : decode prog_1_method_50_code 24 = .ok (.getfield 16, 3) := by decide +kernel
theorem dX11_groups_27 : decode prog_1_method_50_code 27 = .ok (.getfield 113, 3) := by decide +kernel
theorem dX11_groups_30 : decode prog_1_method_50_code 30 = .ok (.getfield 117, 3) := by decide +kernel
theorem dX11_groups_33 : decode prog_1_method_50_code 33 = .ok (.if_icmp .ge 66, 3) := by decide +kernel
theorem dX11_groups_36 : decode prog_1_method_50_code 36 = .ok (.iload 5, 2) := by decide +kernel
theorem dX11_groups_38 : decode prog_1_method_50_code 38 = .ok (.iload 4, 2) := by decide +kernel
theorem dX11_groups_40 : decode prog_1_method_50_code 40 = .ok (.invokestatic 278, 3) := by decide +kernel
theorem dX11_groups_43 : decode prog_1_method_50_code 43 = .ok (.ifCond .ne 50, 3) := by decide +kernel
theorem dX11_groups_46 : decode prog_1_method_50_code 46 = .ok (.aload_n 0, 1) := by decide +kernel
theorem dX11_groups_47 : decode prog_1_method_50_code 47 = .ok (.getfield 87, 3) := by decide +kernel
theorem dX11_groups_50 : decode prog_1_method_50_code 50 = .ok (.iconst 1, 1) := by decide +kernel
theorem dX11_groups_51 : decode prog_1_method_50_code 51 = .ok (.iload 5, 2) := by decide +kernel
theorem dX11_groups_53 : decode prog_1_method_50_code 53 = .ok (.ishl, 1) := by decide +kernel
theorem dX11_groups_54 : decode prog_1_method_50_code 54 = .ok (.bipush 12, 2) := by decide +kernel
theorem dX11_groups_56 : decode prog_1_method_50_code 56 = .ok (.aload_n 0, 1) := by decide +kernel
theorem dX11_groups_57 : decode prog_1_method_50_code 57 = .ok (.getfield 87, 3) := by decide +kernel
theorem dX11_groups_60 : decode prog_1_method_50_code 60 = .ok (.invokevirtual 326, 3) := by decide +kernel
theorem dX11_groups_63 : decode prog_1_method_50_code 63 = .ok (.invokevirtual 329, 3) := by decide +kernel
theorem dX11_groups_66 : decode prog_1_method_50_code 66 = .ok (.istore 6, 2) := by decide +kernel
theorem dX11_groups_68 : decode prog_1_method_50_code 68 = .ok (.iload 4, 2) := by decide +kernel
theorem dX11_groups_70 : decode prog_1_method_50_code 70 = .ok (.iload 6, 2) := by decide +kernel
theorem dX11_groups_72 : decode prog_1_method_50_code 72 = .ok (.ior, 1) := by decide +kernel
theorem dX11_groups_73 : decode prog_1_method_50_code 73 = .ok (.istore 4, 2) := by decide +kernel
theorem dX11_groups_75 : decode prog_1_method_50_code 75 = .ok (.iinc 2 1, 3) := by decide +kernel
theorem dX11_groups_78 : decode prog_1_method_50_code 78 = .ok (.iload 6, 2) := by decide +kernel
theorem dX11_groups_80 : decode prog_1_method_50_code 80 = .ok (.invokestatic 273, 3) := by decide +kernel
theorem dX11_groups_83 : decode prog_1_method_50_code 83 = .ok (.iload_n 3, 1) := by decide +kernel
theorem dX11_groups_84 : decode prog_1_method_50_code 84 = .ok (.invokestatic 273, 3) := by decide +kernel
theorem dX11_groups_87 : decode prog_1_method_50_code 87 = .ok (.if_icmp .le 6, 3) := by decide +kernel
theorem dX11_groups_90 : decode prog_1_method_50_code 90 = .ok (.iload 6, 2) := by decide +kernel
theorem dX11_groups_92 : decode prog_1_method_50_code 92 = .ok (.istore_n 3, 1) := by decide +kernel
theorem dX11_groups_93 : decode prog_1_method_50_code 93 = .ok (.iinc 5 1, 3) := by decide +kernel
theorem dX11_groups_96 : decode prog_1_method_50_code 96 = .ok (.goto (-75), 3) := by decide +kernel
theorem dX11_groups_99 : decode prog_1_method_50_code 99 = .ok (.iload_n 1, 1) := by decide +kernel
theorem dX11_groups_100 : decode prog_1_method_50_code 100 = .ok (.ifCond .ne 7, 3) := by decide +kernel
theorem dX11_groups_103 : decode prog_1_method_50_code 103 = .ok (.iload_n 2, 1) := by decide +kernel
theorem dX11_groups_104 : decode prog_1_method_50_code 104 = .ok (.goto 4, 3) := by decide +kernel
theorem dX11_groups_107 : decode prog_1_method_50_code 107 = .ok (.iload_n 3, 1) := by decide +kernel
theorem dX11_groups_108 : decode prog_1_method_50_code 108 = .ok (.ireturn, 1) := by decide +kernel
theorem dX11_means_0 : decode prog_1_method_51_code 0 = .ok (.iload_n 1, 1) := by decide +kernel
theorem dX11_means_1 : decode prog_1_method_51_code 1 = .ok (.iconst 0, 1) := by decide +kernel
theorem dX11_means_2 : decode prog_1_method_51_code 2 = .ok (.bipush 9, 2) := by decide +kernel
theorem dX11_means_4 : decode prog_1_method_51_code 4 = .ok (.invokestatic 109, 3) := by decide +kernel
theorem dX11_means_7 : decode prog_1_method_51_code 7 = .ok (.ifCond .eq 13, 3) := by decide +kernel
theorem dX11_means_10 : decode prog_1_method_51_code 10 = .ok (.iload_n 2, 1) := by decide +kernel
theorem dX11_means_11 : decode prog_1_method_51_code 11 = .ok (.iconst 0, 1) := by decide +kernel
theorem dX11_means_12 : decode prog_1_method_51_code 12 = .ok (.bipush 9, 2) := by decide +kernel
theorem dX11_means_14 : decode prog_1_method_51_code 14 = .ok (.invokestatic 109, 3) := by decide +kernel
theorem dX11_means_17 : decode prog_1_method_51_code 17 = .ok (.ifCond .ne 5, 3) := by decide +kernel
theorem dX11_means_20 : decode prog_1_method_51_code 20 = .ok (.iconst 0, 1) := by decide +kernel
theorem dX11_means_21 : decode prog_1_method_51_code 21 = .ok (.ireturn, 1) := by decide +kernel
theorem dX11_means_22 : decode prog_1_method_51_code 22 = .ok (.aload_n 0, 1) := by decide +kernel
theorem dX11_means_23 : decode prog_1_method_51_code 23 = .ok (.getfield 16, 3) := by decide +kernel
theorem dX11_means_26 : decode prog_1_method_51_code 26 = .ok (.getfield 335, 3) := by decide +kernel
theorem dX11_means_29 : decode prog_1_method_51_code 29 = .ok (.iload_n 1, 1) := by decide +kernel
theorem dX11_means_30 : decode prog_1_method_51_code 30 = .ok (.iconst 0, 1) := by decide +kernel
theorem dX11_means_31 : decode prog_1_method_51_code 31 = .ok (.iload_n 2, 1) := by decide +kernel
theorem dX11_means_32 : decode prog_1_method_51_code 32 = .ok (.invokevirtual 127, 3) := by decide +kernel
theorem dX11_means_35 : decode prog_1_method_51_code 35 = .ok (.iconst 1, 1) := by decide +kernel
theorem dX11_means_36 : decode prog_1_method_51_code 36 = .ok (.ireturn, 1) := by decide +kernel
theorem dX11_passed_0 : decode prog_1_method_52_code 0 = .ok (.iload_n 1, 1) := by decide +kernel
theorem dX11_passed_1 : decode prog_1_method_52_code 1 = .ok (.iconst 0, 1) := by decide +kernel
theorem dX11_passed_2 : decode prog_1_method_52_code 2 = .ok (.bipush 9, 2) := by decide +kernel
theorem dX11_passed_4 : decode prog_1_method_52_code 4 = .ok (.invokestatic 109, 3) := by decide +kernel
theorem dX11_passed_7 : decode prog_1_method_52_code 7 = .ok (.ifCond .eq 27, 3) := by decide +kernel
theorem dX11_passed_10 : decode prog_1_method_52_code 10 = .ok (.iload_n 3, 1) := by decide +kernel
theorem dX11_passed_11 : decode prog_1_method_52_code 11 = .ok (.iconst 0, 1) := by decide +kernel
theorem dX11_passed_12 : decode prog_1_method_52_code 12 = .ok (.iconst 2, 1) := by decide +kernel
theorem dX11_passed_13 : decode prog_1_method_52_code 13 = .ok (.invokestatic 109, 3) := by decide +kernel
theorem dX11_passed_16 : decode prog_1_method_52_code 16 = .ok (.ifCond .eq 18, 3) := by decide +kernel
theorem dX11_passed_19 : decode prog_1_method_52_code 19 = .ok (.iload_n 3, 1) := by decide +kernel
theorem dX11_passed_20 : decode prog_1_method_52_code 20 = .ok (.ifCond .ne 16, 3) := by decide +kernel
theorem dX11_passed_23 : decode prog_1_method_52_code 23 = .ok (.iload_n 2, 1) := by decide +kernel
theorem dX11_passed_24 : decode prog_1_method_52_code 24 = .ok (.iconst 0, 1) := by decide +kernel
theorem dX11_passed_25 : decode prog_1_method_52_code 25 = .ok (.sipush 9999, 3) := by decide +kernel
theorem dX11_passed_28 : decode prog_1_method_52_code 28 = .ok (.invokestatic 109, 3) := by decide +kernel
theorem dX11_passed_31 : decode prog_1_method_52_code 31 = .ok (.ifCond .ne 5, 3) := by decide +kernel
theorem dX11_passed_34 : decode prog_1_method_52_code 34 = .ok (.iconst (-1), 1) := by decide +kernel
theorem dX11_passed_35 : decode prog_1_method_52_code 35 = .ok (.ireturn, 1) := by decide +kernel
theorem dX11_passed_36 : decode prog_1_method_52_code 36 = .ok (.iload_n 3, 1) := by decide +kernel
theorem dX11_passed_37 : decode prog_1_method_52_code 37 = .ok (.ifCond .ne 10, 3) := by decide +kernel
theorem dX11_passed_40 : decode prog_1_method_52_code 40 = .ok (.aload_n 0, 1) := by decide +kernel
theorem dX11_passed_41 : decode prog_1_method_52_code 41 = .ok (.iload_n 1, 1) := by decide +kernel
theorem dX11_passed_42 : decode prog_1_method_52_code 42 = .ok (.iload_n 2, 1) := by decide +kernel
theorem dX11_passed_43 : decode prog_1_method_52_code 43 = .ok (.invokevirtual 338, 3) := by decide +kernel
theorem dX11_passed_46 : decode prog_1_method_52_code 46 = .ok (.ireturn, 1) := by decide +kernel
theorem dX11_passed_47 : decode prog_1_method_52_code 47 = .ok (.iconst 0, 1) := by decide +kernel
theorem dX11_passed_48 : decode prog_1_method_52_code 48 = .ok (.istore 4, 2) := by decide +kernel
theorem dX11_passed_50 : decode prog_1_method_52_code 50 = .ok (.iload_n 1, 1) := by decide +kernel
theorem dX11_passed_51 : decode prog_1_method_52_code 51 = .ok (.istore 5, 2) := by decide +kernel
theorem dX11_passed_53 : decode prog_1_method_52_code 53 = .ok (.iconst 0, 1) := by decide +kernel
theorem dX11_passed_54 : decode prog_1_method_52_code 54 = .ok (.istore 6, 2) := by decide +kernel
theorem dX11_passed_56 : decode prog_1_method_52_code 56 = .ok (.iload 6, 2) := by decide +kernel
theorem dX11_passed_58 : decode prog_1_method_52_code 58 = .ok (.bipush 10, 2) := by decide +kernel
theorem dX11_passed_60 : decode prog_1_method_52_code 60 = .ok (.if_icmp .ge 43, 3) := by decide +kernel
theorem dX11_passed_63 : decode prog_1_method_52_code 63 = .ok (.iload 5, 2) := by decide +kernel
theorem dX11_passed_65 : decode prog_1_method_52_code 65 = .ok (.iload 4, 2) := by decide +kernel
theorem dX11_passed_67 : decode prog_1_method_52_code 67 = .ok (.invokestatic 278, 3) := by decide +kernel
theorem dX11_passed_70 : decode prog_1_method_52_code 70 = .ok (.ifCond .ne 33, 3) := by decide +kernel
theorem dX11_passed_73 : decode prog_1_method_52_code 73 = .ok (.iload 4, 2) := by decide +kernel
theorem dX11_passed_75 : decode prog_1_method_52_code 75 = .ok (.iconst 1, 1) := by decide +kernel
theorem dX11_passed_76 : decode prog_1_method_52_code 76 = .ok (.iload 5, 2) := by decide +kernel
theorem dX11_passed_78 : decode prog_1_method_52_code 78 = .ok (.ishl, 1) := by decide +kernel
theorem dX11_passed_79 : decode prog_1_method_52_code 79 = .ok (.ior, 1) := by decide +kernel
theorem dX11_passed_80 : decode prog_1_method_52_code 80 = .ok (.istore 4, 2) := by decide +kernel
theorem dX11_passed_82 : decode prog_1_method_52_code 82 = .ok (.aload_n 0, 1) := by decide +kernel
theorem dX11_passed_83 : decode prog_1_method_52_code 83 = .ok (.getfield 16, 3) := by decide +kernel
theorem dX11_passed_86 : decode prog_1_method_52_code 86 = .ok (.getfield 335, 3) := by decide +kernel
theorem dX11_passed_89 : decode prog_1_method_52_code 89 = .ok (.iload 5, 2) := by decide +kernel
theorem dX11_passed_91 : decode prog_1_method_52_code 91 = .ok (.iconst 0, 1) := by decide +kernel
theorem dX11_passed_92 : decode prog_1_method_52_code 92 = .ok (.invokevirtual 142, 3) := by decide +kernel
theorem dX11_passed_95 : decode prog_1_method_52_code 95 = .ok (.istore 5, 2) := by decide +kernel
theorem dX11_passed_97 : decode prog_1_method_52_code 97 = .ok (.iinc 6 1, 3) := by decide +kernel
theorem dX11_passed_100 : decode prog_1_method_52_code 100 = .ok (.goto (-44), 3) := by decide +kernel
theorem dX11_passed_103 : decode prog_1_method_52_code 103 = .ok (.iload_n 3, 1) := by decide +kernel
theorem dX11_passed_104 : decode prog_1_method_52_code 104 = .ok (.iconst 1, 1) := by decide +kernel
theorem dX11_passed_105 : decode prog_1_method_52_code 105 = .ok (.if_icmp .ne 8, 3) := by decide +kernel
theorem dX11_passed_108 : decode prog_1_method_52_code 108 = .ok (.iload 6, 2) := by decide +kernel
theorem dX11_passed_110 : decode prog_1_method_52_code 110 = .ok (.goto 9, 3) := by decide +kernel
theorem dX11_passed_113 : decode prog_1_method_52_code 113 = .ok (.aload_n 0, 1) := by decide +kernel
theorem dX11_passed_114 : decode prog_1_method_52_code 114 = .ok (.iload 5, 2) := by decide +kernel
theorem dX11_passed_116 : decode prog_1_method_52_code 116 = .ok (.invokevirtual 341, 3) := by decide +kernel
theorem dX11_passed_119 : decode prog_1_method_52_code 119 = .ok (.ireturn, 1) := by decide +kernel
theorem dX11_meaningBehind_0 : decode prog_1_method_53_code 0 = .ok (.iload_n 1, 1) := by decide +kernel
theorem dX11_meaningBehind_1 : decode prog_1_method_53_code 1 = .ok (.istore_n 3, 1) := by decide +kernel
theorem dX11_meaningBehind_2 : decode prog_1_method_53_code 2 = .ok (.iconst 0, 1) := by decide +kernel
theorem dX11_meaningBehind_3 : decode prog_1_method_53_code 3 = .ok (.istore 4, 2) := by decide +kernel
theorem dX11_meaningBehind_5 : decode prog_1_method_53_code 5 = .ok (.iload 4, 2) := by decide +kernel
theorem dX11_meaningBehind_7 : decode prog_1_method_53_code 7 = .ok (.iload_n 2, 1) := by decide +kernel
theorem dX11_meaningBehind_8 : decode prog_1_method_53_code 8 = .ok (.if_icmp .ge 22, 3) := by decide +kernel
theorem dX11_meaningBehind_11 : decode prog_1_method_53_code 11 = .ok (.aload_n 0, 1) := by decide +kernel
theorem dX11_meaningBehind_12 : decode prog_1_method_53_code 12 = .ok (.getfield 16, 3) := by decide +kernel
theorem dX11_meaningBehind_15 : decode prog_1_method_53_code 15 = .ok (.getfield 335, 3) := by decide +kernel
theorem dX11_meaningBehind_18 : decode prog_1_method_53_code 18 = .ok (.iload_n 3, 1) := by decide +kernel
theorem dX11_meaningBehind_19 : decode prog_1_method_53_code 19 = .ok (.iconst 0, 1) := by decide +kernel
theorem dX11_meaningBehind_20 : decode prog_1_method_53_code 20 = .ok (.invokevirtual 142, 3) := by decide +kernel
theorem dX11_meaningBehind_23 : decode prog_1_method_53_code 23 = .ok (.istore_n 3, 1) := by decide +kernel
theorem dX11_meaningBehind_24 : decode prog_1_method_53_code 24 = .ok (.iinc 4 1, 3) := by decide +kernel
theorem dX11_meaningBehind_27 : decode prog_1_method_53_code 27 = .ok (.goto (-22), 3) := by decide +kernel
theorem dX11_meaningBehind_30 : decode prog_1_method_53_code 30 = .ok (.iload_n 3, 1) := by decide +kernel
theorem dX11_meaningBehind_31 : decode prog_1_method_53_code 31 = .ok (.ireturn, 1) := by decide +kernel
theorem dX11_timesRound_0 : decode prog_1_method_54_code 0 = .ok (.aload_n 0, 1) := by decide +kernel
theorem dX11_timesRound_1 : decode prog_1_method_54_code 1 = .ok (.getfield 16, 3) := by decide +kernel
theorem dX11_timesRound_4 : decode prog_1_method_54_code 4 = .ok (.getfield 335, 3) := by decide +kernel
theorem dX11_timesRound_7 : decode prog_1_method_54_code 7 = .ok (.iload_n 1, 1) := by decide +kernel
theorem dX11_timesRound_8 : decode prog_1_method_54_code 8 = .ok (.iconst 0, 1) := by decide +kernel
theorem dX11_timesRound_9 : decode prog_1_method_54_code 9 = .ok (.invokevirtual 142, 3) := by decide +kernel
theorem dX11_timesRound_12 : decode prog_1_method_54_code 12 = .ok (.istore_n 2, 1) := by decide +kernel
theorem dX11_timesRound_13 : decode prog_1_method_54_code 13 = .ok (.iconst 1, 1) := by decide +kernel
theorem dX11_timesRound_14 : decode prog_1_method_54_code 14 = .ok (.istore_n 3, 1) := by decide +kernel
theorem dX11_timesRound_15 : decode prog_1_method_54_code 15 = .ok (.iload_n 3, 1) := by decide +kernel
theorem dX11_timesRound_16 : decode prog_1_method_54_code 16 = .ok (.bipush 10, 2) := by decide +kernel
theorem dX11_timesRound_18 : decode prog_1_method_54_code 18 = .ok (.if_icmp .ge 27, 3) := by decide +kernel
theorem dX11_timesRound_21 : decode prog_1_method_54_code 21 = .ok (.iload_n 2, 1) := by decide +kernel
theorem dX11_timesRound_22 : decode prog_1_method_54_code 22 = .ok (.iload_n 1, 1) := by decide +kernel
theorem dX11_timesRound_23 : decode prog_1_method_54_code 23 = .ok (.if_icmp .eq 22, 3) := by decide +kernel
theorem dX11_timesRound_26 : decode prog_1_method_54_code 26 = .ok (.aload_n 0, 1) := by decide +kernel
theorem dX11_timesRound_27 : decode prog_1_method_54_code 27 = .ok (.getfield 16, 3) := by decide +kernel
theorem dX11_timesRound_30 : decode prog_1_method_54_code 30 = .ok (.getfield 335, 3) := by decide +kernel
theorem dX11_timesRound_33 : decode prog_1_method_54_code 33 = .ok (.iload_n 2, 1) := by decide +kernel
theorem dX11_timesRound_34 : decode prog_1_method_54_code 34 = .ok (.iconst 0, 1) := by decide +kernel
theorem dX11_timesRound_35 : decode prog_1_method_54_code 35 = .ok (.invokevirtual 142, 3) := by decide +kernel
theorem dX11_timesRound_38 : decode prog_1_method_54_code 38 = .ok (.istore_n 2, 1) := by decide +kernel
theorem dX11_timesRound_39 : decode prog_1_method_54_code 39 = .ok (.iinc 3 1, 3) := by decide +kernel
theorem dX11_timesRound_42 : decode prog_1_method_54_code 42 = .ok (.goto (-27), 3) := by decide +kernel
theorem dX11_timesRound_45 : decode prog_1_method_54_code 45 = .ok (.iload_n 3, 1) := by decide +kernel
theorem dX11_timesRound_46 : decode prog_1_method_54_code 46 = .ok (.ireturn, 1) := by decide +kernel
theorem dX11_undo_0 : decode prog_1_method_55_code 0 = .ok (.aload_n 0, 1) := by decide +kernel
theorem dX11_undo_1 : decode prog_1_method_55_code 1 = .ok (.getfield 30, 3) := by decide +kernel
theorem dX11_undo_4 : decode prog_1_method_55_code 4 = .ok (.aload_n 0, 1) := by decide +kernel
theorem dX11_undo_5 : decode prog_1_method_55_code 5 = .ok (.getfield 16, 3) := by decide +kernel
theorem dX11_undo_8 : decode prog_1_method_55_code 8 = .ok (.invokevirtual 344, 3) := by decide +kernel
theorem dX11_undo_11 : decode prog_1_method_55_code 11 = .ok (.ireturn, 1) := by decide +kernel
theorem dX11_image_0 : decode prog_1_method_56_code 0 = .ok (.iload_n 1, 1) := by decide +kernel
theorem dX11_image_1 : decode prog_1_method_56_code 1 = .ok (.ifCond .eq 21, 3) := by decide +kernel
theorem dX11_image_4 : decode prog_1_method_56_code 4 = .ok (.aload_n 0, 1) := by decide +kernel
theorem dX11_image_5 : decode prog_1_method_56_code 5 = .ok (.getfield 20, 3) := by decide +kernel
theorem dX11_image_8 : decode prog_1_method_56_code 8 = .ok (.aload_n 0, 1) := by decide +kernel
theorem dX11_image_9 : decode prog_1_method_56_code 9 = .ok (.getfield 16, 3) := by decide +kernel
theorem dX11_image_12 : decode prog_1_method_56_code 12 = .ok (.invokevirtual 347, 3) := by decide +kernel
theorem dX11_image_15 : decode prog_1_method_56_code 15 = .ok (.aload_n 0, 1) := by decide +kernel
theorem dX11_image_16 : decode prog_1_method_56_code 16 = .ok (.iconst 1, 1) := by decide +kernel
theorem dX11_image_17 : decode prog_1_method_56_code 17 = .ok (.putfield 23, 3) := by decide +kernel
theorem dX11_image_20 : decode prog_1_method_56_code 20 = .ok (.iconst 1, 1) := by decide +kernel
theorem dX11_image_21 : decode prog_1_method_56_code 21 = .ok (.ireturn, 1) := by decide +kernel
theorem dX11_image_22 : decode prog_1_method_56_code 22 = .ok (.aload_n 0, 1) := by decide +kernel
theorem dX11_image_23 : decode prog_1_method_56_code 23 = .ok (.getfield 23, 3) := by decide +kernel
theorem dX11_image_26 : decode prog_1_method_56_code 26 = .ok (.ifCond .ne 5, 3) := by decide +kernel
theorem dX11_image_29 : decode prog_1_method_56_code 29 = .ok (.iconst 0, 1) := by decide +kernel
theorem dX11_image_30 : decode prog_1_method_56_code 30 = .ok (.ireturn, 1) := by decide +kernel
theorem dX11_image_31 : decode prog_1_method_56_code 31 = .ok (.aload_n 0, 1) := by decide +kernel
theorem dX11_image_32 : decode prog_1_method_56_code 32 = .ok (.getfield 16, 3) := by decide +kernel
theorem dX11_image_35 : decode prog_1_method_56_code 35 = .ok (.aload_n 0, 1) := by decide +kernel
theorem dX11_image_36 : decode prog_1_method_56_code 36 = .ok (.getfield 20, 3) := by decide +kernel
theorem dX11_image_39 : decode prog_1_method_56_code 39 = .ok (.invokevirtual 347, 3) := by decide +kernel
theorem dX11_image_42 : decode prog_1_method_56_code 42 = .ok (.aload_n 0, 1) := by decide +kernel
theorem dX11_image_43 : decode prog_1_method_56_code 43 = .ok (.getfield 30, 3) := by decide +kernel
theorem dX11_image_46 : decode prog_1_method_56_code 46 = .ok (.invokevirtual 106, 3) := by decide +kernel
theorem dX11_image_49 : decode prog_1_method_56_code 49 = .ok (.iconst 1, 1) := by decide +kernel
theorem dX11_image_50 : decode prog_1_method_56_code 50 = .ok (.ireturn, 1) := by decide +kernel
theorem dX11_within_0 : decode prog_1_method_57_code 0 = .ok (.iload_n 0, 1) := by decide +kernel
theorem dX11_within_1 : decode prog_1_method_57_code 1 = .ok (.iload_n 1, 1) := by decide +kernel
theorem dX11_within_2 : decode prog_1_method_57_code 2 = .ok (.if_icmp .lt 12, 3) := by decide +kernel
theorem dX11_within_5 : decode prog_1_method_57_code 5 = .ok (.iload_n 0, 1) := by decide +kernel
theorem dX11_within_6 : decode prog_1_method_57_code 6 = .ok (.iload_n 2, 1) := by decide +kernel
theorem dX11_within_7 : decode prog_1_method_57_code 7 = .ok (.if_icmp .gt 7, 3) := by decide +kernel
theorem dX11_within_10 : decode prog_1_method_57_code 10 = .ok (.iconst 1, 1) := by decide +kernel
theorem dX11_within_11 : decode prog_1_method_57_code 11 = .ok (.goto 4, 3) := by decide +kernel
theorem dX11_within_14 : decode prog_1_method_57_code 14 = .ok (.iconst 0, 1) := by decide +kernel
theorem dX11_within_15 : decode prog_1_method_57_code 15 = .ok (.ireturn, 1) := by decide +kernel
theorem dX11_isIn_0 : decode prog_1_method_58_code 0 = .ok (.iload_n 0, 1) := by decide +kernel
theorem dX11_isIn_1 : decode prog_1_method_58_code 1 = .ok (.ifCond .lt 22, 3) := by decide +kernel
theorem dX11_isIn_4 : decode prog_1_method_58_code 4 = .ok (.iload_n 0, 1) := by decide +kernel
theorem dX11_isIn_5 : decode prog_1_method_58_code 5 = .ok (.bipush 31, 2) := by decide +kernel
theorem dX11_isIn_7 : decode prog_1_method_58_code 7 = .ok (.if_icmp .ge 16, 3) := by decide +kernel
theorem dX11_isIn_10 : decode prog_1_method_58_code 10 = .ok (.iload_n 1, 1) := by decide +kernel
theorem dX11_isIn_11 : decode prog_1_method_58_code 11 = .ok (.iload_n 0, 1) := by decide +kernel
theorem dX11_isIn_12 : decode prog_1_method_58_code 12 = .ok (.ishr, 1) := by decide +kernel
theorem dX11_isIn_13 : decode prog_1_method_58_code 13 = .ok (.iconst 1, 1) := by decide +kernel
theorem dX11_isIn_14 : decode prog_1_method_58_code 14 = .ok (.iand, 1) := by decide +kernel
theorem dX11_isIn_15 : decode prog_1_method_58_code 15 = .ok (.iconst 1, 1) := by decide +kernel
theorem dX11_isIn_16 : decode prog_1_method_58_code 16 = .ok (.if_icmp .ne 7, 3) := by decide +kernel
theorem dX11_isIn_19 : decode prog_1_method_58_code 19 = .ok (.iconst 1, 1) := by decide +kernel
theorem dX11_isIn_20 : decode prog_1_method_58_code 20 = .ok (.goto 4, 3) := by decide +kernel
theorem dX11_isIn_23 : decode prog_1_method_58_code 23 = .ok (.iconst 0, 1) := by decide +kernel
theorem dX11_isIn_24 : decode prog_1_method_58_code 24 = .ok (.ireturn, 1) := by decide +kernel
theorem dX11_nextWithin_0 : decode prog_1_method_59_code 0 = .ok (.iload_n 0, 1) := by decide +kernel
theorem dX11_nextWithin_1 : decode prog_1_method_59_code 1 = .ok (.iload_n 1, 1) := by decide +kernel
theorem dX11_nextWithin_2 : decode prog_1_method_59_code 2 = .ok (.isub, 1) := by decide +kernel
theorem dX11_nextWithin_3 : decode prog_1_method_59_code 3 = .ok (.iload_n 1, 1) := by decide +kernel
theorem dX11_nextWithin_4 : decode prog_1_method_59_code 4 = .ok (.iand, 1) := by decide +kernel
theorem dX11_nextWithin_5 : decode prog_1_method_59_code 5 = .ok (.ireturn, 1) := by decide +kernel
theorem dX12_init_0 : decode prog_14_method_1_code 0 = .ok (.aload_n 0, 1) := by decide +kernel
theorem dX12_init_1 : decode prog_14_method_1_code 1 = .ok (.invokespecial 1, 3) := by decide +kernel
theorem dX12_init_4 : decode prog_14_method_1_code 4 = .ok (.aload_n 0, 1) := by decide +kernel
theorem dX12_init_5 : decode prog_14_method_1_code 5 = .ok (.sipush 1707, 3) := by decide +kernel
theorem dX12_init_8 : decode prog_14_method_1_code 8 = .ok (.newarray .int, 2) := by decide +kernel
theorem dX12_init_10 : decode prog_14_method_1_code 10 = .ok (.putfield 7, 3) := by decide +kernel
theorem dX12_init_13 : decode prog_14_method_1_code 13 = .ok (.aload_n 0, 1) := by decide +kernel
theorem dX12_init_14 : decode prog_14_method_1_code 14 = .ok (.sipush 1707, 3) := by decide +kernel
theorem dX12_init_17 : decode prog_14_method_1_code 17 = .ok (.newarray .int, 2) := by decide +kernel
theorem dX12_init_19 : decode prog_14_method_1_code 19 = .ok (.putfield 13, 3) := by decide +kernel
theorem dX12_init_22 : decode prog_14_method_1_code 22 = .ok (.aload_n 0, 1) := by decide +kernel
theorem dX12_init_23 : decode prog_14_method_1_code 23 = .ok (.sipush 222, 3) := by decide +kernel
theorem dX12_init_26 : decode prog_14_method_1_code 26 = .ok (.newarray .int, 2) := by decide +kernel
theorem dX12_init_28 : decode prog_14_method_1_code 28 = .ok (.putfield 16, 3) := by decide +kernel
theorem dX12_init_31 : decode prog_14_method_1_code 31 = .ok (.aload_n 0, 1) := by decide +kernel
theorem dX12_init_32 : decode prog_14_method_1_code 32 = .ok (.bipush 37, 2) := by decide +kernel
theorem dX12_init_34 : decode prog_14_method_1_code 34 = .ok (.newarray .int, 2) := by decide +kernel
theorem dX12_init_36 : decode prog_14_method_1_code 36 = .ok (.putfield 19, 3) := by decide +kernel
theorem dX12_init_39 : decode prog_14_method_1_code 39 = .ok (.aload_n 0, 1) := by decide +kernel
theorem dX12_init_40 : decode prog_14_method_1_code 40 = .ok (.bipush 64, 2) := by decide +kernel
theorem dX12_init_42 : decode prog_14_method_1_code 42 = .ok (.newarray .int, 2) := by decide +kernel
theorem dX12_init_44 : decode prog_14_method_1_code 44 = .ok (.putfield 22, 3) := by decide +kernel
theorem dX12_init_47 : decode prog_14_method_1_code 47 = .ok (.aload_n 0, 1) := by decide +kernel
theorem dX12_init_48 : decode prog_14_method_1_code 48 = .ok (.sipush 820, 3) := by decide +kernel
theorem dX12_init_51 : decode prog_14_method_1_code 51 = .ok (.newarray .int, 2) := by decide +kernel
theorem dX12_init_53 : decode prog_14_method_1_code 53 = .ok (.putfield 25, 3) := by decide +kernel
theorem dX12_init_56 : decode prog_14_method_1_code 56 = .ok (.aload_n 0, 1) := by decide +kernel
theorem dX12_init_57 : decode prog_14_method_1_code 57 = .ok (.bipush 48, 2) := by decide +kernel
theorem dX12_init_59 : decode prog_14_method_1_code 59 = .ok (.newarray .int, 2) := by decide +kernel
theorem dX12_init_61 : decode prog_14_method_1_code 61 = .ok (.putfield 28, 3) := by decide +kernel
theorem dX12_init_64 : decode prog_14_method_1_code 64 = .ok (.aload_n 0, 1) := by decide +kernel
theorem dX12_init_65 : decode prog_14_method_1_code 65 = .ok (.sipush 400, 3) := by decide +kernel
theorem dX12_init_68 : decode prog_14_method_1_code 68 = .ok (.newarray .int, 2) := by decide +kernel
theorem dX12_init_70 : decode prog_14_method_1_code 70 = .ok (.putfield 31, 3) := by decide +kernel
theorem dX12_init_73 : decode prog_14_method_1_code 73 = .ok (.aload_n 0, 1) := by decide +kernel
theorem dX12_init_74 : decode prog_14_method_1_code 74 = .ok (.sipush 420, 3) := by decide +kernel
theorem dX12_init_77 : decode prog_14_method_1_code 77 = .ok (.newarray .int, 2) := by decide +kernel
theorem dX12_init_79 : decode prog_14_method_1_code 79 = .ok (.putfield 34, 3) := by decide +kernel
theorem dX12_init_82 : decode prog_14_method_1_code 82 = .ok (.aload_n 0, 1) := by decide +kernel
theorem dX12_init_83 : decode prog_14_method_1_code 83 = .ok (.bipush 11, 2) := by decide +kernel
theorem dX12_init_85 : decode prog_14_method_1_code 85 = .ok (.newarray .int, 2) := by decide +kernel
theorem dX12_init_87 : decode prog_14_method_1_code 87 = .ok (.putfield 37, 3) := by decide +kernel
theorem dX12_init_90 : decode prog_14_method_1_code 90 = .ok (.aload_n 0, 1) := by decide +kernel
theorem dX12_init_91 : decode prog_14_method_1_code 91 = .ok (.iconst (-1), 1) := by decide +kernel
theorem dX12_init_92 : decode prog_14_method_1_code 92 = .ok (.putfield 40, 3) := by decide +kernel
theorem dX12_init_95 : decode prog_14_method_1_code 95 = .ok (.aload_n 0, 1) := by decide +kernel
theorem dX12_init_96 : decode prog_14_method_1_code 96 = .ok (.bipush 12, 2) := by decide +kernel
theorem dX12_init_98 : decode prog_14_method_1_code 98 = .ok (.newarray .int, 2) := by decide +kernel
theorem dX12_init_100 : decode prog_14_method_1_code 100 = .ok (.putfield 44, 3) := by decide +kernel
theorem dX12_init_103 : decode prog_14_method_1_code 103 = .ok (.aload_n 0, 1) := by decide +kernel
theorem dX12_init_104 : decode prog_14_method_1_code 104 = .ok (.sipush 256, 3) := by decide +kernel
theorem dX12_init_107 : decode prog_14_method_1_code 107 = .ok (.newarray .int, 2) := by decide +kernel
theorem dX12_init_109 : decode prog_14_method_1_code 109 = .ok (.putfield 47, 3) := by decide +kernel
theorem dX12_init_112 : decode prog_14_method_1_code 112 = .ok (.aload_n 0, 1) := by decide +kernel
theorem dX12_init_113 : decode prog_14_method_1_code 113 = .ok (.bipush 12, 2) := by decide +kernel
theorem dX12_init_115 : decode prog_14_method_1_code 115 = .ok (.newarray .int, 2) := by decide +kernel
theorem dX12_init_117 : decode prog_14_method_1_code 117 = .ok (.putfield 50, 3) := by decide +kernel
theorem dX12_init_120 : decode prog_14_method_1_code 120 = .ok (.aload_n 0, 1) := by decide +kernel
theorem dX12_init_121 : decode prog_14_method_1_code 121 = .ok (.bipush 61, 2) := by decide +kernel
theorem dX12_init_123 : decode prog_14_method_1_code 123 = .ok (.newarray .int, 2) := by decide +kernel
theorem dX12_init_125 : decode prog_14_method_1_code 125 = .ok (.putfield 53, 3) := by decide +kernel
theorem dX12_init_128 : decode prog_14_method_1_code 128 = .ok (.aload_n 0, 1) := by decide +kernel
theorem dX12_init_129 : decode prog_14_method_1_code 129 = .ok (.getfield 7, 3) := by decide +kernel
theorem dX12_init_132 : decode prog_14_method_1_code 132 = .ok (.iconst 3, 1) := by decide +kernel
theorem dX12_init_133 : decode prog_14_method_1_code 133 = .ok (.iconst (-1), 1) := by decide +kernel
theorem dX12_init_134 : decode prog_14_method_1_code 134 = .ok (.iastore, 1) := by decide +kernel
theorem dX12_init_135 : decode prog_14_method_1_code 135 = .ok (.iconst 0, 1) := by decide +kernel
theorem dX12_init_136 : decode prog_14_method_1_code 136 = .ok (.istore_n 1, 1) := by decide +kernel
theorem dX12_init_137 : decode prog_14_method_1_code 137 = .ok (.iload_n 1, 1) := by decide +kernel
theorem dX12_init_138 : decode prog_14_method_1_code 138 = .ok (.bipush 10, 2) := by decide +kernel
theorem dX12_init_140 : decode prog_14_method_1_code 140 = .ok (.if_icmp .ge 20, 3) := by decide +kernel
theorem dX12_init_143 : decode prog_14_method_1_code 143 = .ok (.aload_n 0, 1) := by decide +kernel
theorem dX12_init_144 : decode prog_14_method_1_code 144 = .ok (.getfield 7, 3) := by decide +kernel
theorem dX12_init_147 : decode prog_14_method_1_code 147 = .ok (.sipush 213, 3) := by decide +kernel
theorem dX12_init_150 : decode prog_14_method_1_code 150 = .ok (.iload_n 1, 1) := by decide +kernel
theorem dX12_init_151 : decode prog_14_method_1_code 151 = .ok (.iadd, 1) := by decide +kernel
theorem dX12_init_152 : decode prog_14_method_1_code 152 = .ok (.iload_n 1, 1) := by decide +kernel
theorem dX12_init_153 : decode prog_14_method_1_code 153 = .ok (.iastore, 1) := by decide +kernel
theorem dX12_init_154 : decode prog_14_method_1_code 154 = .ok (.iinc 1 1, 3) := by decide +kernel
theorem dX12_init_157 : decode prog_14_method_1_code 157 = .ok (.goto (-20), 3) := by decide +kernel
theorem dX12_init_160 : decode prog_14_method_1_code 160 = .ok (.return_, 1) := by decide +kernel
theorem dX12_isIn_0 : decode prog_14_method_2_code 0 = .ok (.iload_n 0, 1) := by decide +kernel
theorem dX12_isIn_1 : decode prog_14_method_2_code 1 = .ok (.iload_n 1, 1) := by decide +kernel
theorem dX12_isIn_2 : decode prog_14_method_2_code 2 = .ok (.if_icmp .lt 12, 3) := by decide +kernel
theorem dX12_isIn_5 : decode prog_14_method_2_code 5 = .ok (.iload_n 0, 1) := by decide +kernel
theorem dX12_isIn_6 : decode prog_14_method_2_code 6 = .ok (.iload_n 2, 1) := by decide +kernel
theorem dX12_isIn_7 : decode prog_14_method_2_code 7 = .ok (.if_icmp .gt 7, 3) := by decide +kernel
theorem dX12_isIn_10 : decode prog_14_method_2_code 10 = .ok (.iconst 1, 1) := by decide +kernel
theorem dX12_isIn_11 : decode prog_14_method_2_code 11 = .ok (.goto 4, 3) := by decide +kernel
theorem dX12_isIn_14 : decode prog_14_method_2_code 14 = .ok (.iconst 0, 1) := by decide +kernel
theorem dX12_isIn_15 : decode prog_14_method_2_code 15 = .ok (.ireturn, 1) := by decide +kernel
theorem dX12_lesser_0 : decode prog_14_method_3_code 0 = .ok (.iload_n 0, 1) := by decide +kernel
theorem dX12_lesser_1 : decode prog_14_method_3_code 1 = .ok (.iload_n 1, 1) := by decide +kernel
theorem dX12_lesser_2 : decode prog_14_method_3_code 2 = .ok (.if_icmp .ge 7, 3) := by decide +kernel
theorem dX12_lesser_5 : decode prog_14_method_3_code 5 = .ok (.iload_n 0, 1) := by decide +kernel
theorem dX12_lesser_6 : decode prog_14_method_3_code 6 = .ok (.goto 4, 3) := by decide +kernel
theorem dX12_lesser_9 : decode prog_14_method_3_code 9 = .ok (.iload_n 1, 1) := by decide +kernel
theorem dX12_lesser_10 : decode prog_14_method_3_code 10 = .ok (.ireturn, 1) := by decide +kernel
theorem dX12_greater_0 : decode prog_14_method_4_code 0 = .ok (.iload_n 0, 1) := by decide +kernel
theorem dX12_greater_1 : decode prog_14_method_4_code 1 = .ok (.iload_n 1, 1) := by decide +kernel
theorem dX12_greater_2 : decode prog_14_method_4_code 2 = .ok (.if_icmp .le 7, 3) := by decide +kernel
theorem dX12_greater_5 : decode prog_14_method_4_code 5 = .ok (.iload_n 0, 1) := by decide +kernel
theorem dX12_greater_6 : decode prog_14_method_4_code 6 = .ok (.goto 4, 3) := by decide +kernel
theorem dX12_greater_9 : decode prog_14_method_4_code 9 = .ok (.iload_n 1, 1) := by decide +kernel
theorem dX12_greater_10 : decode prog_14_method_4_code 10 = .ok (.ireturn, 1) := by decide +kernel
theorem dX12_isHearer_0 : decode prog_14_method_5_code 0 = .ok (.iload_n 1, 1) := by decide +kernel
theorem dX12_isHearer_1 : decode prog_14_method_5_code 1 = .ok (.iconst 0, 1) := by decide +kernel
theorem dX12_isHearer_2 : decode prog_14_method_5_code 2 = .ok (.aload_n 0, 1) := by decide +kernel
theorem dX12_isHearer_3 : decode prog_14_method_5_code 3 = .ok (.getfield 7, 3) := by decide +kernel
theorem dX12_isHearer_6 : decode prog_14_method_5_code 6 = .ok (.bipush 37, 2) := by decide +kernel
theorem dX12_isHearer_8 : decode prog_14_method_5_code 8 = .ok (.iaload, 1) := by decide +kernel
theorem dX12_isHearer_9 : decode prog_14_method_5_code 9 = .ok (.iconst 1, 1) := by decide +kernel
theorem dX12_isHearer_10 : decode prog_14_method_5_code 10 = .ok (.isub, 1) := by decide +kernel
theorem dX12_isHearer_11 : decode prog_14_method_5_code 11 = .ok (.invokestatic 56, 3) := by decide +kernel
theorem dX12_isHearer_14 : decode prog_14_method_5_code 14 = .ok (.ireturn, 1) := by decide +kernel
theorem dX12_isDeed_0 : decode prog_14_method_6_code 0 = .ok (.iload_n 1, 1) := by decide +kernel
theorem dX12_isDeed_1 : decode prog_14_method_6_code 1 = .ok (.iconst 0, 1) := by decide +kernel
theorem dX12_isDeed_2 : decode prog_14_method_6_code 2 = .ok (.aload_n 0, 1) := by decide +kernel
theorem dX12_isDeed_3 : decode prog_14_method_6_code 3 = .ok (.getfield 7, 3) := by decide +kernel
theorem dX12_isDeed_6 : decode prog_14_method_6_code 6 = .ok (.bipush 38, 2) := by decide +kernel
theorem dX12_isDeed_8 : decode prog_14_method_6_code 8 = .ok (.iaload, 1) := by decide +kernel
theorem dX12_isDeed_9 : decode prog_14_method_6_code 9 = .ok (.iconst 1, 1) := by decide +kernel
theorem dX12_isDeed_10 : decode prog_14_method_6_code 10 = .ok (.isub, 1) := by decide +kernel
theorem dX12_isDeed_11 : decode prog_14_method_6_code 11 = .ok (.invokestatic 56, 3) := by decide +kernel
theorem dX12_isDeed_14 : decode prog_14_method_6_code 14 = .ok (.ireturn, 1) := by decide +kernel
theorem dX12_isThere_0 : decode prog_14_method_7_code 0 = .ok (.aload_n 0, 1) := by decide +kernel
theorem dX12_isThere_1 : decode prog_14_method_7_code 1 = .ok (.getfield 7, 3) := by decide +kernel
theorem dX12_isThere_4 : decode prog_14_method_7_code 4 = .ok (.bipush 7, 2) := by decide +kernel
theorem dX12_isThere_6 : decode prog_14_method_7_code 6 = .ok (.iaload, 1) := by decide +kernel
theorem dX12_isThere_7 : decode prog_14_method_7_code 7 = .ok (.iload_n 1, 1) := by decide +kernel
theorem dX12_isThere_8 : decode prog_14_method_7_code 8 = .ok (.ishr, 1) := by decide +kernel
theorem dX12_isThere_9 : decode prog_14_method_7_code 9 = .ok (.iconst 1, 1) := by decide +kernel
theorem dX12_isThere_10 : decode prog_14_method_7_code 10 = .ok (.iand, 1) := by decide +kernel
theorem dX12_isThere_11 : decode prog_14_method_7_code 11 = .ok (.iconst 1, 1) := by decide +kernel
theorem dX12_isThere_12 : decode prog_14_method_7_code 12 = .ok (.if_icmp .ne 7, 3) := by decide +kernel
theorem dX12_isThere_15 : decode prog_14_method_7_code 15 = .ok (.iconst 1, 1) := by decide +kernel
theorem dX12_isThere_16 : decode prog_14_method_7_code 16 = .ok (.goto 4, 3) := by decide +kernel
theorem dX12_isThere_19 : decode prog_14_method_7_code 19 = .ok (.iconst 0, 1) := by decide +kernel
theorem dX12_isThere_20 : decode prog_14_method_7_code 20 = .ok (.ireturn, 1) := by decide +kernel
theorem dX12_isGloved_0 : decode prog_14_method_8_code 0 = .ok (.aload_n 0, 1) := by decide +kernel
theorem dX12_isGloved_1 : decode prog_14_method_8_code 1 = .ok (.getfield 7, 3) := by decide +kernel
theorem dX12_isGloved_4 : decode prog_14_method_8_code 4 = .ok (.bipush 8, 2) := by decide +kernel
theorem dX12_isGloved_6 : decode prog_14_method_8_code 6 = .ok (.iaload, 1) := by decide +kernel
theorem dX12_isGloved_7 : decode prog_14_method_8_code 7 = .ok (.iload_n 1, 1) := by decide +kernel
theorem dX12_isGloved_8 : decode prog_14_method_8_code 8 = .ok (.ishr, 1) := by decide +kernel
theorem dX12_isGloved_9 : decode prog_14_method_8_code 9 = .ok (.iconst 1, 1) := by decide +kernel
theorem dX12_isGloved_10 : decode prog_14_method_8_code 10 = .ok (.iand, 1) := by decide +kernel
theorem dX12_isGloved_11 : decode prog_14_method_8_code 11 = .ok (.iconst 1, 1) := by decide +kernel
theorem dX12_isGloved_12 : decode prog_14_method_8_code 12 = .ok (.if_icmp .ne 7, 3) := by decide +kernel
theorem dX12_isGloved_15 : decode prog_14_method_8_code 15 = .ok (.iconst 1, 1) := by decide +kernel
theorem dX12_isGloved_16 : decode prog_14_method_8_code 16 = .ok (.goto 4, 3) := by decide +kernel
theorem dX12_isGloved_19 : decode prog_14_method_8_code 19 = .ok (.iconst 0, 1) := by decide +kernel
theorem dX12_isGloved_20 : decode prog_14_method_8_code 20 = .ok (.ireturn, 1) := by decide +kernel
theorem dX12_allHearers_0 : decode prog_14_method_9_code 0 = .ok (.iconst 1, 1) := by decide +kernel
theorem dX12_allHearers_1 : decode prog_14_method_9_code 1 = .ok (.aload_n 0, 1) := by decide +kernel
theorem dX12_allHearers_2 : decode prog_14_method_9_code 2 = .ok (.getfield 7, 3) := by decide +kernel
theorem dX12_allHearers_5 : decode prog_14_method_9_code 5 = .ok (.bipush 37, 2) := by decide +kernel
theorem dX12_allHearers_7 : decode prog_14_method_9_code 7 = .ok (.iaload, 1) := by decide +kernel
theorem dX12_allHearers_8 : decode prog_14_method_9_code 8 = .ok (.ishl, 1) := by decide +kernel
theorem dX12_allHearers_9 : decode prog_14_method_9_code 9 = .ok (.iconst 1, 1) := by decide +kernel
theorem dX12_allHearers_10 : decode prog_14_method_9_code 10 = .ok (.isub, 1) := by decide +kernel
theorem dX12_allHearers_11 : decode prog_14_method_9_code 11 = .ok (.ireturn, 1) := by decide +kernel
theorem dX12_count_0 : decode prog_14_method_10_code 0 = .ok (.iconst 0, 1) := by decide +kernel
theorem dX12_count_1 : decode prog_14_method_10_code 1 = .ok (.istore_n 1, 1) := by decide +kernel
theorem dX12_count_2 : decode prog_14_method_10_code 2 = .ok (.iconst 0, 1) := by decide +kernel
theorem dX12_count_3 : decode prog_14_method_10_code 3 = .ok (.istore_n 2, 1) := by decide +kernel
theorem dX12_count_4 : decode prog_14_method_10_code 4 = .ok (.iload_n 2, 1) := by decide +kernel
theorem dX12_count_5 : decode prog_14_method_10_code 5 = .ok (.bipush 12, 2) := by decide +kernel
theorem dX12_count_7 : decode prog_14_method_10_code 7 = .ok (.if_icmp .ge 17, 3) := by decide +kernel
theorem dX12_count_10 : decode prog_14_method_10_code 10 = .ok (.iload_n 1, 1) := by decide +kernel
theorem dX12_count_11 : decode prog_14_method_10_code 11 = .ok (.iload_n 0, 1) := by decide +kernel
theorem dX12_count_12 : decode prog_14_method_10_code 12 = .ok (.iload_n 2, 1) := by decide +kernel
theorem dX12_count_13 : decode prog_14_method_10_code 13 = .ok (.ishr, 1) := by decide +kernel
theorem dX12_count_14 : decode prog_14_method_10_code 14 = .ok (.iconst 1, 1) := by decide +kernel
theorem dX12_count_15 : decode prog_14_method_10_code 15 = .ok (.iand, 1) := by decide +kernel
theorem dX12_count_16 : decode prog_14_method_10_code 16 = .ok (.iadd, 1) := by decide +kernel
theorem dX12_count_17 : decode prog_14_method_10_code 17 = .ok (.istore_n 1, 1) := by decide +kernel
theorem dX12_count_18 : decode prog_14_method_10_code 18 = .ok (.iinc 2 1, 3) := by decide +kernel
theorem dX12_count_21 : decode prog_14_method_10_code 21 = .ok (.goto (-17), 3) := by decide +kernel
theorem dX12_count_24 : decode prog_14_method_10_code 24 = .ok (.iload_n 1, 1) := by decide +kernel
theorem dX12_count_25 : decode prog_14_method_10_code 25 = .ok (.ireturn, 1) := by decide +kernel
theorem dX12_forgets_0 : decode prog_14_method_11_code 0 = .ok (.aload_n 0, 1) := by decide +kernel
theorem dX12_forgets_1 : decode prog_14_method_11_code 1 = .ok (.iconst 0, 1) := by decide +kernel
theorem dX12_forgets_2 : decode prog_14_method_11_code 2 = .ok (.putfield 60, 3) := by decide +kernel
theorem dX12_forgets_5 : decode prog_14_method_11_code 5 = .ok (.return_, 1) := by decide +kernel
theorem dX12_state_0 : decode prog_14_method_12_code 0 = .ok (.aload_n 0, 1) := by decide +kernel
theorem dX12_state_1 : decode prog_14_method_12_code 1 = .ok (.getfield 7, 3) := by decide +kernel
theorem dX12_state_4 : decode prog_14_method_12_code 4 = .ok (.iconst 5, 1) := by decide +kernel
theorem dX12_state_5 : decode prog_14_method_12_code 5 = .ok (.iaload, 1) := by decide +kernel
theorem dX12_state_6 : decode prog_14_method_12_code 6 = .ok (.istore_n 2, 1) := by decide +kernel
theorem dX12_state_7 : decode prog_14_method_12_code 7 = .ok (.aload_n 0, 1) := by decide +kernel
theorem dX12_state_8 : decode prog_14_method_12_code 8 = .ok (.getfield 7, 3) := by decide +kernel
theorem dX12_state_11 : decode prog_14_method_12_code 11 = .ok (.iconst 5, 1) := by decide +kernel
theorem dX12_state_12 : decode prog_14_method_12_code 12 = .ok (.iload_n 1, 1) := by decide +kernel
theorem dX12_state_13 : decode prog_14_method_12_code 13 = .ok (.iastore, 1) := by decide +kernel
theorem dX12_state_14 : decode prog_14_method_12_code 14 = .ok (.aload_n 0, 1) := by decide +kernel
theorem dX12_state_15 : decode prog_14_method_12_code 15 = .ok (.invokevirtual 63, 3) := by decide +kernel
theorem dX12_state_18 : decode prog_14_method_12_code 18 = .ok (.iload_n 2, 1) := by decide +kernel
theorem dX12_state_19 : decode prog_14_method_12_code 19 = .ok (.ireturn, 1) := by decide +kernel
theorem dX12_draw_0 : decode prog_14_method_13_code 0 = .ok (.aload_n 0, 1) := by decide +kernel
theorem dX12_draw_1 : decode prog_14_method_13_code 1 = .ok (.getfield 7, 3) := by decide +kernel
theorem dX12_draw_4 : decode prog_14_method_13_code 4 = .ok (.iconst 5, 1) := by decide +kernel
theorem dX12_draw_5 : decode prog_14_method_13_code 5 = .ok (.ldc 66, 2) := by decide +kernel
theorem dX12_draw_7 : decode prog_14_method_13_code 7 = .ok (.aload_n 0, 1) := by decide +kernel
theorem dX12_draw_8 : decode prog_14_method_13_code 8 = .ok (.getfield 7, 3) := by decide +kernel
theorem dX12_draw_11 : decode prog_14_method_13_code 11 = .ok (.iconst 5, 1) := by decide +kernel
theorem dX12_draw_12 : decode prog_14_method_13_code 12 = .ok (.iaload, 1) := by decide +kernel
theorem dX12_draw_13 : decode prog_14_method_13_code 13 = .ok (.imul, 1) := by decide +kernel
theorem dX12_draw_14 : decode prog_14_method_13_code 14 = .ok (.ldc 67, 2) := by decide +kernel
theorem dX12_draw_16 : decode prog_14_method_13_code 16 = .ok (.iadd, 1) := by decide +kernel
theorem dX12_draw_17 : decode prog_14_method_13_code 17 = .ok (.iastore, 1) := by decide +kernel
theorem dX12_draw_18 : decode prog_14_method_13_code 18 = .ok (.aload_n 0, 1) := by decide +kernel
theorem dX12_draw_19 : decode prog_14_method_13_code 19 = .ok (.getfield 7, 3) := by decide +kernel
theorem dX12_draw_22 : decode prog_14_method_13_code 22 = .ok (.iconst 5, 1) := by decide +kernel
theorem dX12_draw_23 : decode prog_14_method_13_code 23 = .ok (.iaload, 1) := by decide +kernel
theorem dX12_draw_24 : decode prog_14_method_13_code 24 = .ok (.bipush 8, 2) := by decide +kernel
theorem dX12_draw_26 : decode prog_14_method_13_code 26 = .ok (.iushr, 1) := by decide +kernel
theorem dX12_draw_27 : decode prog_14_method_13_code 27 = .ok (.iload_n 1, 1) := by decide +kernel
theorem dX12_draw_28 : decode prog_14_method_13_code 28 = .ok (.irem, 1) := by decide +kernel
theorem dX12_draw_29 : decode prog_14_method_13_code 29 = .ok (.ireturn, 1) := by decide +kernel
theorem dX12_hearer_0 : decode prog_14_method_14_code 0 = .ok (.iload_n 1, 1) := by decide +kernel
theorem dX12_hearer_1 : decode prog_14_method_14_code 1 = .ok (.iconst 0, 1) := by decide +kernel
theorem dX12_hearer_2 : decode prog_14_method_14_code 2 = .ok (.bipush 9, 2) := by decide +kernel
theorem dX12_hearer_4 : decode prog_14_method_14_code 4 = .ok (.invokestatic 56, 3) := by decide +kernel
theorem dX12_hearer_7 : decode prog_14_method_14_code 7 = .ok (.ifCond .eq 35, 3) := by decide +kernel
theorem dX12_hearer_10 : decode prog_14_method_14_code 10 = .ok (.iload_n 2, 1) := by decide +kernel
theorem dX12_hearer_11 : decode prog_14_method_14_code 11 = .ok (.iconst 0, 1) := by decide +kernel
theorem dX12_hearer_12 : decode prog_14_method_14_code 12 = .ok (.bipush 9, 2) := by decide +kernel
theorem dX12_hearer_14 : decode prog_14_method_14_code 14 = .ok (.invokestatic 56, 3) := by decide +kernel
theorem dX12_hearer_17 : decode prog_14_method_14_code 17 = .ok (.ifCond .eq 25, 3) := by decide +kernel
theorem dX12_hearer_20 : decode prog_14_method_14_code 20 = .ok (.iload_n 3, 1) := by decide +kernel
theorem dX12_hearer_21 : decode prog_14_method_14_code 21 = .ok (.iconst 0, 1) := by decide +kernel
theorem dX12_hearer_22 : decode prog_14_method_14_code 22 = .ok (.bipush 9, 2) := by decide +kernel
theorem dX12_hearer_24 : decode prog_14_method_14_code 24 = .ok (.invokestatic 56, 3) := by decide +kernel
theorem dX12_hearer_27 : decode prog_14_method_14_code 27 = .ok (.ifCond .eq 15, 3) := by decide +kernel
theorem dX12_hearer_30 : decode prog_14_method_14_code 30 = .ok (.aload_n 0, 1) := by decide +kernel
theorem dX12_hearer_31 : decode prog_14_method_14_code 31 = .ok (.getfield 7, 3) := by decide +kernel
theorem dX12_hearer_34 : decode prog_14_method_14_code 34 = .ok (.bipush 37, 2) := by decide +kernel
theorem dX12_hearer_36 : decode prog_14_method_14_code 36 = .ok (.iaload, 1) := by decide +kernel
theorem dX12_hearer_37 : decode prog_14_method_14_code 37 = .ok (.bipush 12, 2) := by decide +kernel
theorem dX12_hearer_39 : decode prog_14_method_14_code 39 = .ok (.if_icmp .ne 5, 3) := by decide +kernel
theorem dX12_hearer_42 : decode prog_14_method_14_code 42 = .ok (.iconst (-1), 1) := by decide +kernel
theorem dX12_hearer_43 : decode prog_14_method_14_code 43 = .ok (.ireturn, 1) := by decide +kernel
theorem dX12_hearer_44 : decode prog_14_method_14_code 44 = .ok (.aload_n 0, 1) := by decide +kernel
theorem dX12_hearer_45 : decode prog_14_method_14_code 45 = .ok (.getfield 7, 3) := by decide +kernel
theorem dX12_hearer_48 : decode prog_14_method_14_code 48 = .ok (.bipush 37, 2) := by decide +kernel
theorem dX12_hearer_50 : decode prog_14_method_14_code 50 = .ok (.iaload, 1) := by decide +kernel
theorem dX12_hearer_51 : decode prog_14_method_14_code 51 = .ok (.istore 4, 2) := by decide +kernel
theorem dX12_hearer_53 : decode prog_14_method_14_code 53 = .ok (.aload_n 0, 1) := by decide +kernel
theorem dX12_hearer_54 : decode prog_14_method_14_code 54 = .ok (.getfield 7, 3) := by decide +kernel
theorem dX12_hearer_57 : decode prog_14_method_14_code 57 = .ok (.bipush 45, 2) := by decide +kernel
theorem dX12_hearer_59 : decode prog_14_method_14_code 59 = .ok (.iload 4, 2) := by decide +kernel
theorem dX12_hearer_61 : decode prog_14_method_14_code 61 = .ok (.iadd, 1) := by decide +kernel
theorem dX12_hearer_62 : decode prog_14_method_14_code 62 = .ok (.iload_n 1, 1) := by decide +kernel
theorem dX12_hearer_63 : decode prog_14_method_14_code 63 = .ok (.iastore, 1) := by decide +kernel
theorem dX12_hearer_64 : decode prog_14_method_14_code 64 = .ok (.aload_n 0, 1) := by decide +kernel
theorem dX12_hearer_65 : decode prog_14_method_14_code 65 = .ok (.getfield 7, 3) := by decide +kernel
theorem dX12_hearer_68 : decode prog_14_method_14_code 68 = .ok (.bipush 57, 2) := by decide +kernel
theorem dX12_hearer_70 : decode prog_14_method_14_code 70 = .ok (.iload 4, 2) := by decide +kernel
theorem dX12_hearer_72 : decode prog_14_method_14_code 72 = .ok (.iadd, 1) := by decide +kernel
theorem dX12_hearer_73 : decode prog_14_method_14_code 73 = .ok (.iload_n 2, 1) := by decide +kernel
theorem dX12_hearer_74 : decode prog_14_method_14_code 74 = .ok (.iastore, 1) := by decide +kernel
theorem dX12_hearer_75 : decode prog_14_method_14_code 75 = .ok (.aload_n 0, 1) := by decide +kernel
theorem dX12_hearer_76 : decode prog_14_method_14_code 76 = .ok (.getfield 7, 3) := by decide +kernel
theorem dX12_hearer_79 : decode prog_14_method_14_code 79 = .ok (.bipush 69, 2) := by decide +kernel
theorem dX12_hearer_81 : decode prog_14_method_14_code 81 = .ok (.iload 4, 2) := by decide +kernel
theorem dX12_hearer_83 : decode prog_14_method_14_code 83 = .ok (.iadd, 1) := by decide +kernel
theorem dX12_hearer_84 : decode prog_14_method_14_code 84 = .ok (.iload_n 3, 1) := by decide +kernel
theorem dX12_hearer_85 : decode prog_14_method_14_code 85 = .ok (.iastore, 1) := by decide +kernel
theorem dX12_hearer_86 : decode prog_14_method_14_code 86 = .ok (.aload_n 0, 1) := by decide +kernel
theorem dX12_hearer_87 : decode prog_14_method_14_code 87 = .ok (.getfield 7, 3) := by decide +kernel
theorem dX12_hearer_90 : decode prog_14_method_14_code 90 = .ok (.bipush 9, 2) := by decide +kernel
theorem dX12_hearer_92 : decode prog_14_method_14_code 92 = .ok (.iload 4, 2) := by decide +kernel
theorem dX12_hearer_94 : decode prog_14_method_14_code 94 = .ok (.iadd, 1) := by decide +kernel
theorem dX12_hearer_95 : decode prog_14_method_14_code 95 = .ok (.iconst 0, 1) := by decide +kernel
theorem dX12_hearer_96 : decode prog_14_method_14_code 96 = .ok (.iastore, 1) := by decide +kernel
theorem dX12_hearer_97 : decode prog_14_method_14_code 97 = .ok (.aload_n 0, 1) := by decide +kernel
theorem dX12_hearer_98 : decode prog_14_method_14_code 98 = .ok (.getfield 7, 3) := by decide +kernel
theorem dX12_hearer_101 : decode prog_14_method_14_code 101 = .ok (.bipush 7, 2) := by decide +kernel
theorem dX12_hearer_103 : decode prog_14_method_14_code 103 = .ok (.dup2, 1) := by decide +kernel
theorem dX12_hearer_104 : decode prog_14_method_14_code 104 = .ok (.iaload, 1) := by decide +kernel
theorem dX12_hearer_105 : decode prog_14_method_14_code 105 = .ok (.iconst 1, 1) := by decide +kernel
theorem dX12_hearer_106 : decode prog_14_method_14_code 106 = .ok (.iload 4, 2) := by decide +kernel
theorem dX12_hearer_108 : decode prog_14_method_14_code 108 = .ok (.ishl, 1) := by decide +kernel
theorem dX12_hearer_109 : decode prog_14_method_14_code 109 = .ok (.ior, 1) := by decide +kernel
theorem dX12_hearer_110 : decode prog_14_method_14_code 110 = .ok (.iastore, 1) := by decide +kernel
theorem dX12_hearer_111 : decode prog_14_method_14_code 111 = .ok (.aload_n 0, 1) := by decide +kernel
theorem dX12_hearer_112 : decode prog_14_method_14_code 112 = .ok (.getfield 7, 3) := by decide +kernel
theorem dX12_hearer_115 : decode prog_14_method_14_code 115 = .ok (.bipush 8, 2) := by decide +kernel
theorem dX12_hearer_117 : decode prog_14_method_14_code 117 = .ok (.dup2, 1) := by decide +kernel
theorem dX12_hearer_118 : decode prog_14_method_14_code 118 = .ok (.iaload, 1) := by decide +kernel
theorem dX12_hearer_119 : decode prog_14_method_14_code 119 = .ok (.iconst 1, 1) := by decide +kernel
theorem dX12_hearer_120 : decode prog_14_method_14_code 120 = .ok (.iload 4, 2) := by decide +kernel
theorem dX12_hearer_122 : decode prog_14_method_14_code 122 = .ok (.ishl, 1) := by decide +kernel
theorem dX12_hearer_123 : decode prog_14_method_14_code 123 = .ok (.iconst (-1), 1) := by decide +kernel
theorem dX12_hearer_124 : decode prog_14_method_14_code 124 = .ok (.ixor, 1) := by decide +kernel
theorem dX12_hearer_125 : decode prog_14_method_14_code 125 = .ok (.iand, 1) := by decide +kernel
theorem dX12_hearer_126 : decode prog_14_method_14_code 126 = .ok (.iastore, 1) := by decide +kernel
theorem dX12_hearer_127 : decode prog_14_method_14_code 127 = .ok (.aload_n 0, 1) := by decide +kernel
theorem dX12_hearer_128 : decode prog_14_method_14_code 128 = .ok (.getfield 7, 3) := by decide +kernel
theorem dX12_hearer_131 : decode prog_14_method_14_code 131 = .ok (.bipush 37, 2) := by decide +kernel
theorem dX12_hearer_133 : decode prog_14_method_14_code 133 = .ok (.dup2, 1) := by decide +kernel
theorem dX12_hearer_134 : decode prog_14_method_14_code 134 = .ok (.iaload, 1) := by decide +kernel
theorem dX12_hearer_135 : decode prog_14_method_14_code 135 = .ok (.iconst 1, 1) := by decide +kernel
theorem dX12_hearer_136 : decode prog_14_method_14_code 136 = .ok (.iadd, 1) := by decide +kernel
theorem dX12_hearer_137 : decode prog_14_method_14_code 137 = .ok (.iastore, 1) := by decide +kernel
theorem dX12_hearer_138 : decode prog_14_method_14_code 138 = .ok (.aload_n 0, 1) := by decide +kernel
theorem dX12_hearer_139 : decode prog_14_method_14_code 139 = .ok (.invokevirtual 63, 3) := by decide +kernel
theorem dX12_hearer_142 : decode prog_14_method_14_code 142 = .ok (.iload 4, 2) := by decide +kernel
theorem dX12_hearer_144 : decode prog_14_method_14_code 144 = .ok (.ireturn, 1) := by decide +kernel
theorem dX12_deed_0 : decode prog_14_method_15_code 0 = .ok (.iload_n 1, 1) := by decide +kernel
theorem dX12_deed_1 : decode prog_14_method_15_code 1 = .ok (.iconst 0, 1) := by decide +kernel
theorem dX12_deed_2 : decode prog_14_method_15_code 2 = .ok (.bipush 9, 2) := by decide +kernel
theorem dX12_deed_4 : decode prog_14_method_15_code 4 = .ok (.invokestatic 56, 3) := by decide +kernel
theorem dX12_deed_7 : decode prog_14_method_15_code 7 = .ok (.ifCond .eq 35, 3) := by decide +kernel
theorem dX12_deed_10 : decode prog_14_method_15_code 10 = .ok (.iload_n 2, 1) := by decide +kernel
theorem dX12_deed_11 : decode prog_14_method_15_code 11 = .ok (.iconst 1, 1) := by decide +kernel
theorem dX12_deed_12 : decode prog_14_method_15_code 12 = .ok (.bipush 60, 2) := by decide +kernel
theorem dX12_deed_14 : decode prog_14_method_15_code 14 = .ok (.invokestatic 56, 3) := by decide +kernel
theorem dX12_deed_17 : decode prog_14_method_15_code 17 = .ok (.ifCond .eq 25, 3) := by decide +kernel
theorem dX12_deed_20 : decode prog_14_method_15_code 20 = .ok (.iload_n 3, 1) := by decide +kernel
theorem dX12_deed_21 : decode prog_14_method_15_code 21 = .ok (.iconst 0, 1) := by decide +kernel
theorem dX12_deed_22 : decode prog_14_method_15_code 22 = .ok (.bipush 99, 2) := by decide +kernel
theorem dX12_deed_24 : decode prog_14_method_15_code 24 = .ok (.invokestatic 56, 3) := by decide +kernel
theorem dX12_deed_27 : decode prog_14_method_15_code 27 = .ok (.ifCond .eq 15, 3) := by decide +kernel
theorem dX12_deed_30 : decode prog_14_method_15_code 30 = .ok (.aload_n 0, 1) := by decide +kernel
theorem dX12_deed_31 : decode prog_14_method_15_code 31 = .ok (.getfield 7, 3) := by decide +kernel
theorem dX12_deed_34 : decode prog_14_method_15_code 34 = .ok (.bipush 38, 2) := by decide +kernel
theorem dX12_deed_36 : decode prog_14_method_15_code 36 = .ok (.iaload, 1) := by decide +kernel
theorem dX12_deed_37 : decode prog_14_method_15_code 37 = .ok (.bipush 8, 2) := by decide +kernel
theorem dX12_deed_39 : decode prog_14_method_15_code 39 = .ok (.if_icmp .ne 5, 3) := by decide +kernel
theorem dX12_deed_42 : decode prog_14_method_15_code 42 = .ok (.iconst (-1), 1) := by decide +kernel
theorem dX12_deed_43 : decode prog_14_method_15_code 43 = .ok (.ireturn, 1) := by decide +kernel
theorem dX12_deed_44 : decode prog_14_method_15_code 44 = .ok (.aload_n 0, 1) := by decide +kernel
theorem dX12_deed_45 : decode prog_14_method_15_code 45 = .ok (.getfield 7, 3) := by decide +kernel
theorem dX12_deed_48 : decode prog_14_method_15_code 48 = .ok (.bipush 38, 2) := by decide +kernel
theorem dX12_deed_50 : decode prog_14_method_15_code 50 = .ok (.iaload, 1) := by decide +kernel
theorem dX12_deed_51 : decode prog_14_method_15_code 51 = .ok (.istore 4, 2) := by decide +kernel
theorem dX12_deed_53 : decode prog_14_method_15_code 53 = .ok (.aload_n 0, 1) := by decide +kernel
theorem dX12_deed_54 : decode prog_14_method_15_code 54 = .ok (.getfield 7, 3) := by decide +kernel
theorem dX12_deed_57 : decode prog_14_method_15_code 57 = .ok (.bipush 81, 2) := by decide +kernel
theorem dX12_deed_59 : decode prog_14_method_15_code 59 = .ok (.iload 4, 2) := by decide +kernel
theorem dX12_deed_61 : decode prog_14_method_15_code 61 = .ok (.iadd, 1) := by decide +kernel
theorem dX12_deed_62 : decode prog_14_method_15_code 62 = .ok (.iload_n 1, 1) := by decide +kernel
theorem dX12_deed_63 : decode prog_14_method_15_code 63 = .ok (.iastore, 1) := by decide +kernel
theorem dX12_deed_64 : decode prog_14_method_15_code 64 = .ok (.aload_n 0, 1) := by decide +kernel
theorem dX12_deed_65 : decode prog_14_method_15_code 65 = .ok (.getfield 7, 3) := by decide +kernel
theorem dX12_deed_68 : decode prog_14_method_15_code 68 = .ok (.bipush 89, 2) := by decide +kernel
theorem dX12_deed_70 : decode prog_14_method_15_code 70 = .ok (.iload 4, 2) := by decide +kernel
theorem dX12_deed_72 : decode prog_14_method_15_code 72 = .ok (.iadd, 1) := by decide +kernel
theorem dX12_deed_73 : decode prog_14_method_15_code 73 = .ok (.iload_n 2, 1) := by decide +kernel
theorem dX12_deed_74 : decode prog_14_method_15_code 74 = .ok (.iastore, 1) := by decide +kernel
theorem dX12_deed_75 : decode prog_14_method_15_code 75 = .ok (.aload_n 0, 1) := by decide +kernel
theorem dX12_deed_76 : decode prog_14_method_15_code 76 = .ok (.getfield 7, 3) := by decide +kernel
theorem dX12_deed_79 : decode prog_14_method_15_code 79 = .ok (.bipush 97, 2) := by decide +kernel
theorem dX12_deed_81 : decode prog_14_method_15_code 81 = .ok (.iload 4, 2) := by decide +kernel
theorem dX12_deed_83 : decode prog_14_method_15_code 83 = .ok (.iadd, 1) := by decide +kernel
theorem dX12_deed_84 : decode prog_14_method_15_code 84 = .ok (.iload_n 3, 1) := by decide +kernel
theorem dX12_deed_85 : decode prog_14_method_15_code 85 = .ok (.iastore, 1) := by decide +kernel
theorem dX12_deed_86 : decode prog_14_method_15_code 86 = .ok (.aload_n 0, 1) := by decide +kernel
theorem dX12_deed_87 : decode prog_14_method_15_code 87 = .ok (.getfield 7, 3) := by decide +kernel
theorem dX12_deed_90 : decode prog_14_method_15_code 90 = .ok (.bipush 21, 2) := by decide +kernel
theorem dX12_deed_92 : decode prog_14_method_15_code 92 = .ok (.iload 4, 2) := by decide +kernel
theorem dX12_deed_94 : decode prog_14_method_15_code 94 = .ok (.iadd, 1) := by decide +kernel
theorem dX12_deed_95 : decode prog_14_method_15_code 95 = .ok (.iconst 0, 1) := by decide +kernel
theorem dX12_deed_96 : decode prog_14_method_15_code 96 = .ok (.iastore, 1) := by decide +kernel
theorem dX12_deed_97 : decode prog_14_method_15_code 97 = .ok (.aload_n 0, 1) := by decide +kernel
theorem dX12_deed_98 : decode prog_14_method_15_code 98 = .ok (.getfield 7, 3) := by decide +kernel
theorem dX12_deed_101 : decode prog_14_method_15_code 101 = .ok (.bipush 29, 2) := by decide +kernel
theorem dX12_deed_103 : decode prog_14_method_15_code 103 = .ok (.iload 4, 2) := by decide +kernel
theorem dX12_deed_105 : decode prog_14_method_15_code 105 = .ok (.iadd, 1) := by decide +kernel
theorem dX12_deed_106 : decode prog_14_method_15_code 106 = .ok (.iconst 0, 1) := by decide +kernel
theorem dX12_deed_107 : decode prog_14_method_15_code 107 = .ok (.iastore, 1) := by decide +kernel
theorem dX12_deed_108 : decode prog_14_method_15_code 108 = .ok (.aload_n 0, 1) := by decide +kernel
theorem dX12_deed_109 : decode prog_14_method_15_code 109 = .ok (.getfield 7, 3) := by decide +kernel
theorem dX12_deed_112 : decode prog_14_method_15_code 112 = .ok (.bipush 38, 2) := by decide +kernel
theorem dX12_deed_114 : decode prog_14_method_15_code 114 = .ok (.dup2, 1) := by decide +kernel
theorem dX12_deed_115 : decode prog_14_method_15_code 115 = .ok (.iaload, 1) := by decide +kernel
theorem dX12_deed_116 : decode prog_14_method_15_code 116 = .ok (.iconst 1, 1) := by decide +kernel
theorem dX12_deed_117 : decode prog_14_method_15_code 117 = .ok (.iadd, 1) := by decide +kernel
theorem dX12_deed_118 : decode prog_14_method_15_code 118 = .ok (.iastore, 1) := by decide +kernel
theorem dX12_deed_119 : decode prog_14_method_15_code 119 = .ok (.aload_n 0, 1) := by decide +kernel
theorem dX12_deed_120 : decode prog_14_method_15_code 120 = .ok (.invokevirtual 63, 3) := by decide +kernel
theorem dX12_deed_123 : decode prog_14_method_15_code 123 = .ok (.iload 4, 2) := by decide +kernel
theorem dX12_deed_125 : decode prog_14_method_15_code 125 = .ok (.ireturn, 1) := by decide +kernel
theorem dX12_canSet_0 : decode prog_14_method_16_code 0 = .ok (.iload_n 1, 1) := by decide +kernel
theorem dX12_canSet_1 : decode prog_14_method_16_code 1 = .ok (.ifCond .ne 12, 3) := by decide +kernel
theorem dX12_canSet_4 : decode prog_14_method_16_code 4 = .ok (.iload_n 3, 1) := by decide +kernel
theorem dX12_canSet_5 : decode prog_14_method_16_code 5 = .ok (.iconst 0, 1) := by decide +kernel
theorem dX12_canSet_6 : decode prog_14_method_16_code 6 = .ok (.sipush 1000, 3) := by decide +kernel
theorem dX12_canSet_9 : decode prog_14_method_16_code 9 = .ok (.invokestatic 56, 3) := by decide +kernel
theorem dX12_canSet_12 : decode prog_14_method_16_code 12 = .ok (.ireturn, 1) := by decide +kernel
theorem dX12_canSet_13 : decode prog_14_method_16_code 13 = .ok (.iload_n 1, 1) := by decide +kernel
theorem dX12_canSet_14 : decode prog_14_method_16_code 14 = .ok (.iconst 1, 1) := by decide +kernel
theorem dX12_canSet_15 : decode prog_14_method_16_code 15 = .ok (.iconst 3, 1) := by decide +kernel
theorem dX12_canSet_16 : decode prog_14_method_16_code 16 = .ok (.invokestatic 56, 3) := by decide +kernel
theorem dX12_canSet_19 : decode prog_14_method_16_code 19 = .ok (.ifCond .eq 27, 3) := by decide +kernel
theorem dX12_canSet_22 : decode prog_14_method_16_code 22 = .ok (.aload_n 0, 1) := by decide +kernel
theorem dX12_canSet_23 : decode prog_14_method_16_code 23 = .ok (.iload_n 2, 1) := by decide +kernel
theorem dX12_canSet_24 : decode prog_14_method_16_code 24 = .ok (.invokevirtual 68, 3) := by decide +kernel
theorem dX12_canSet_27 : decode prog_14_method_16_code 27 = .ok (.ifCond .eq 17, 3) := by decide +kernel
theorem dX12_canSet_30 : decode prog_14_method_16_code 30 = .ok (.iload_n 3, 1) := by decide +kernel
theorem dX12_canSet_31 : decode prog_14_method_16_code 31 = .ok (.iconst 0, 1) := by decide +kernel
theorem dX12_canSet_32 : decode prog_14_method_16_code 32 = .ok (.bipush 9, 2) := by decide +kernel
theorem dX12_canSet_34 : decode prog_14_method_16_code 34 = .ok (.invokestatic 56, 3) := by decide +kernel
theorem dX12_canSet_37 : decode prog_14_method_16_code 37 = .ok (.ifCond .eq 7, 3) := by decide +kernel
theorem dX12_canSet_40 : decode prog_14_method_16_code 40 = .ok (.iconst 1, 1) := by decide +kernel
theorem dX12_canSet_41 : decode prog_14_method_16_code 41 = .ok (.goto 4, 3) := by decide +kernel
theorem dX12_canSet_44 : decode prog_14_method_16_code 44 = .ok (.iconst 0, 1) := by decide +kernel
theorem dX12_canSet_45 : decode prog_14_method_16_code 45 = .ok (.ireturn, 1) := by decide +kernel
theorem dX12_canSet_46 : decode prog_14_method_16_code 46 = .ok (.aload_n 0, 1) := by decide +kernel
theorem dX12_canSet_47 : decode prog_14_method_16_code 47 = .ok (.iload_n 2, 1) := by decide +kernel
theorem dX12_canSet_48 : decode prog_14_method_16_code 48 = .ok (.invokevirtual 72, 3) := by decide +kernel
theorem dX12_canSet_51 : decode prog_14_method_16_code 51 = .ok (.ifCond .eq 40, 3) := by decide +kernel
theorem dX12_canSet_54 : decode prog_14_method_16_code 54 = .ok (.iload_n 1, 1) := by decide +kernel
theorem dX12_canSet_55 : decode prog_14_method_16_code 55 = .ok (.iconst 4, 1) := by decide +kernel
theorem dX12_canSet_56 : decode prog_14_method_16_code 56 = .ok (.if_icmp .ne 16, 3) := by decide +kernel
theorem dX12_canSet_59 : decode prog_14_method_16_code 59 = .ok (.iload_n 3, 1) := by decide +kernel
theorem dX12_canSet_60 : decode prog_14_method_16_code 60 = .ok (.iconst 0, 1) := by decide +kernel
theorem dX12_canSet_61 : decode prog_14_method_16_code 61 = .ok (.bipush 9, 2) := by decide +kernel
theorem dX12_canSet_63 : decode prog_14_method_16_code 63 = .ok (.invokestatic 56, 3) := by decide +kernel
theorem dX12_canSet_66 : decode prog_14_method_16_code 66 = .ok (.ifCond .eq 25, 3) := by decide +kernel
theorem dX12_canSet_69 : decode prog_14_method_16_code 69 = .ok (.goto 18, 3) := by decide +kernel
theorem dX12_canSet_72 : decode prog_14_method_16_code 72 = .ok (.iload_n 1, 1) := by decide +kernel
theorem dX12_canSet_73 : decode prog_14_method_16_code 73 = .ok (.iconst 5, 1) := by decide +kernel
theorem dX12_canSet_74 : decode prog_14_method_16_code 74 = .ok (.if_icmp .ne 17, 3) := by decide +kernel
theorem dX12_canSet_77 : decode prog_14_method_16_code 77 = .ok (.iload_n 3, 1) := by decide +kernel
theorem dX12_canSet_78 : decode prog_14_method_16_code 78 = .ok (.iconst 0, 1) := by decide +kernel
theorem dX12_canSet_79 : decode prog_14_method_16_code 79 = .ok (.bipush 99, 2) := by decide +kernel
theorem dX12_canSet_81 : decode prog_14_method_16_code 81 = .ok (.invokestatic 56, 3) := by decide +kernel
theorem dX12_canSet_84 : decode prog_14_method_16_code 84 = .ok (.ifCond .eq 7, 3) := by decide +kernel
theorem dX12_canSet_87 : decode prog_14_method_16_code 87 = .ok (.iconst 1, 1) := by decide +kernel
theorem dX12_canSet_88 : decode prog_14_method_16_code 88 = .ok (.goto 4, 3) := by decide +kernel
theorem dX12_canSet_91 : decode prog_14_method_16_code 91 = .ok (.iconst 0, 1) := by decide +kernel
theorem dX12_canSet_92 : decode prog_14_method_16_code 92 = .ok (.ireturn, 1) := by decide +kernel
theorem dX12_set_0 : decode prog_14_method_17_code 0 = .ok (.aload_n 0, 1) := by decide +kernel
theorem dX12_set_1 : decode prog_14_method_17_code 1 = .ok (.iload_n 1, 1) := by decide +kernel
theorem dX12_set_2 : decode prog_14_method_17_code 2 = .ok (.iload_n 2, 1) := by decide +kernel
theorem dX12_set_3 : decode prog_14_method_17_code 3 = .ok (.iload_n 3, 1) := by decide +kernel
theorem dX12_set_4 : decode prog_14_method_17_code 4 = .ok (.invokevirtual 75, 3) := by decide +kernel
theorem dX12_set_7 : decode prog_14_method_17_code 7 = .ok (.ifCond .ne 5, 3) := by decide +kernel
theorem dX12_set_10 : decode prog_14_method_17_code 10 = .ok (.iconst 0, 1) := by decide +kernel
theorem dX12_set_11 : decode prog_14_method_17_code 11 = .ok (.ireturn, 1) := by decide +kernel
theorem dX12_set_12 : decode prog_14_method_17_code 12 = .ok (.iload_n 1, 1) := by decide +kernel
theorem dX12_set_13 : decode prog_14_method_17_code 13 = .ok (.lookupswitch 72 #[(0, 35), (4, 46), (5, 59)], 35) := by decide +kernel
theorem dX12_set_48 : decode prog_14_method_17_code 48 = .ok (.aload_n 0, 1) := by decide +kernel
theorem dX12_set_49 : decode prog_14_method_17_code 49 = .ok (.getfield 7, 3) := by decide +kernel
theorem dX12_set_52 : decode prog_14_method_17_code 52 = .ok (.bipush 39, 2) := by decide +kernel
theorem dX12_set_54 : decode prog_14_method_17_code 54 = .ok (.iload_n 3, 1) := by decide +kernel
theorem dX12_set_55 : decode prog_14_method_17_code 55 = .ok (.iastore, 1) := by decide +kernel
theorem dX12_set_56 : decode prog_14_method_17_code 56 = .ok (.goto 46, 3) := by decide +kernel
theorem dX12_set_59 : decode prog_14_method_17_code 59 = .ok (.aload_n 0, 1) := by decide +kernel
theorem dX12_set_60 : decode prog_14_method_17_code 60 = .ok (.getfield 7, 3) := by decide +kernel
theorem dX12_set_63 : decode prog_14_method_17_code 63 = .ok (.bipush 81, 2) := by decide +kernel
theorem dX12_set_65 : decode prog_14_method_17_code 65 = .ok (.iload_n 2, 1) := by decide +kernel
theorem dX12_set_66 : decode prog_14_method_17_code 66 = .ok (.iadd, 1) := by decide +kernel
theorem dX12_set_67 : decode prog_14_method_17_code 67 = .ok (.iload_n 3, 1) := by decide +kernel
theorem dX12_set_68 : decode prog_14_method_17_code 68 = .ok (.iastore, 1) := by decide +kernel
theorem dX12_set_69 : decode prog_14_method_17_code 69 = .ok (.goto 33, 3) := by decide +kernel
theorem dX12_set_72 : decode prog_14_method_17_code 72 = .ok (.aload_n 0, 1) := by decide +kernel
theorem dX12_set_73 : decode prog_14_method_17_code 73 = .ok (.getfield 7, 3) := by decide +kernel
theorem dX12_set_76 : decode prog_14_method_17_code 76 = .ok (.bipush 21, 2) := by decide +kernel
theorem dX12_set_78 : decode prog_14_method_17_code 78 = .ok (.iload_n 2, 1) := by decide +kernel
theorem dX12_set_79 : decode prog_14_method_17_code 79 = .ok (.iadd, 1) := by decide +kernel
theorem dX12_set_80 : decode prog_14_method_17_code 80 = .ok (.iload_n 3, 1) := by decide +kernel
theorem dX12_set_81 : decode prog_14_method_17_code 81 = .ok (.iastore, 1) := by decide +kernel
theorem dX12_set_82 : decode prog_14_method_17_code 82 = .ok (.goto 20, 3) := by decide +kernel
theorem dX12_set_85 : decode prog_14_method_17_code 85 = .ok (.aload_n 0, 1) := by decide +kernel
theorem dX12_set_86 : decode prog_14_method_17_code 86 = .ok (.getfield 7, 3) := by decide +kernel
theorem dX12_set_89 : decode prog_14_method_17_code 89 = .ok (.bipush 45, 2) := by decide +kernel
theorem dX12_set_91 : decode prog_14_method_17_code 91 = .ok (.bipush 12, 2) := by decide +kernel
theorem dX12_set_93 : decode prog_14_method_17_code 93 = .ok (.iload_n 1, 1) := by decide +kernel
theorem dX12_set_94 : decode prog_14_method_17_code 94 = .ok (.iconst 1, 1) := by decide +kernel
theorem dX12_set_95 : decode prog_14_method_17_code 95 = .ok (.isub, 1) := by decide +kernel
theorem dX12_set_96 : decode prog_14_method_17_code 96 = .ok (.imul, 1) := by decide +kernel
theorem dX12_set_97 : decode prog_14_method_17_code 97 = .ok (.iadd, 1) := by decide +kernel
theorem dX12_set_98 : decode prog_14_method_17_code 98 = .ok (.iload_n 2, 1) := by decide +kernel
theorem dX12_set_99 : decode prog_14_method_17_code 99 = .ok (.iadd, 1) := by decide +kernel
theorem dX12_set_100 : decode prog_14_method_17_code 100 = .ok (.iload_n 3, 1) := by decide +kernel
theorem dX12_set_101 : decode prog_14_method_17_code 101 = .ok (.iastore, 1) := by decide +kernel
theorem dX12_set_102 : decode prog_14_method_17_code 102 = .ok (.aload_n 0, 1) := by decide +kernel
theorem dX12_set_103 : decode prog_14_method_17_code 103 = .ok (.invokevirtual 63, 3) := by decide +kernel
theorem dX12_set_106 : decode prog_14_method_17_code 106 = .ok (.iconst 1, 1) := by decide +kernel
theorem dX12_set_107 : decode prog_14_method_17_code 107 = .ok (.ireturn, 1) := by decide +kernel
theorem dX12_feed_0 : decode prog_14_method_18_code 0 = .ok (.aload_n 0, 1) := by decide +kernel
theorem dX12_feed_1 : decode prog_14_method_18_code 1 = .ok (.getfield 78, 3) := by decide +kernel
theorem dX12_feed_4 : decode prog_14_method_18_code 4 = .ok (.bipush 20, 2) := by decide +kernel
theorem dX12_feed_6 : decode prog_14_method_18_code 6 = .ok (.iadd, 1) := by decide +kernel
theorem dX12_feed_7 : decode prog_14_method_18_code 7 = .ok (.sipush 400, 3) := by decide +kernel
theorem dX12_feed_10 : decode prog_14_method_18_code 10 = .ok (.if_icmp .le 5, 3) := by decide +kernel
theorem dX12_feed_13 : decode prog_14_method_18_code 13 = .ok (.iconst (-1), 1) := by decide +kernel
theorem dX12_feed_14 : decode prog_14_method_18_code 14 = .ok (.ireturn, 1) := by decide +kernel
theorem dX12_feed_15 : decode prog_14_method_18_code 15 = .ok (.iconst 0, 1) := by decide +kernel
theorem dX12_feed_16 : decode prog_14_method_18_code 16 = .ok (.istore 6, 2) := by decide +kernel
theorem dX12_feed_18 : decode prog_14_method_18_code 18 = .ok (.iload 6, 2) := by decide +kernel
theorem dX12_feed_20 : decode prog_14_method_18_code 20 = .ok (.bipush 20, 2) := by decide +kernel
theorem dX12_feed_22 : decode prog_14_method_18_code 22 = .ok (.if_icmp .ge 93, 3) := by decide +kernel
theorem dX12_feed_25 : decode prog_14_method_18_code 25 = .ok (.iload 6, 2) := by decide +kernel
theorem dX12_feed_27 : decode prog_14_method_18_code 27 = .ok (.iconst 4, 1) := by decide +kernel
theorem dX12_feed_28 : decode prog_14_method_18_code 28 = .ok (.if_icmp .ge 7, 3) := by decide +kernel
theorem dX12_feed_31 : decode prog_14_method_18_code 31 = .ok (.iload_n 1, 1) := by decide +kernel
theorem dX12_feed_32 : decode prog_14_method_18_code 32 = .ok (.goto 39, 3) := by decide +kernel
theorem dX12_feed_35 : decode prog_14_method_18_code 35 = .ok (.iload 6, 2) := by decide +kernel
theorem dX12_feed_37 : decode prog_14_method_18_code 37 = .ok (.bipush 8, 2) := by decide +kernel
theorem dX12_feed_39 : decode prog_14_method_18_code 39 = .ok (.if_icmp .ge 7, 3) := by decide +kernel
theorem dX12_feed_42 : decode prog_14_method_18_code 42 = .ok (.iload_n 2, 1) := by decide +kernel
theorem dX12_feed_43 : decode prog_14_method_18_code 43 = .ok (.goto 28, 3) := by decide +kernel
theorem dX12_feed_46 : decode prog_14_method_18_code 46 = .ok (.iload 6, 2) := by decide +kernel
theorem dX12_feed_48 : decode prog_14_method_18_code 48 = .ok (.bipush 12, 2) := by decide +kernel
theorem dX12_feed_50 : decode prog_14_method_18_code 50 = .ok (.if_icmp .ge 7, 3) := by decide +kernel
theorem dX12_feed_53 : decode prog_14_method_18_code 53 = .ok (.iload_n 3, 1) := by decide +kernel
theorem dX12_feed_54 : decode prog_14_method_18_code 54 = .ok (.goto 17, 3) := by decide +kernel
theorem dX12_feed_57 : decode prog_14_method_18_code 57 = .ok (.iload 6, 2) := by decide +kernel
theorem dX12_feed_59 : decode prog_14_method_18_code 59 = .ok (.bipush 16, 2) := by decide +kernel
theorem dX12_feed_61 : decode prog_14_method_18_code 61 = .ok (.if_icmp .ge 8, 3) := by decide +kernel
theorem dX12_feed_64 : decode prog_14_method_18_code 64 = .ok (.iload 4, 2) := by decide +kernel
theorem dX12_feed_66 : decode prog_14_method_18_code 66 = .ok (.goto 5, 3) := by decide +kernel
theorem dX12_feed_69 : decode prog_14_method_18_code 69 = .ok (.iload 5, 2) := by decide +kernel
theorem dX12_feed_71 : decode prog_14_method_18_code 71 = .ok (.istore 7, 2) := by decide +kernel
theorem dX12_feed_73 : decode prog_14_method_18_code 73 = .ok (.aload_n 0, 1) := by decide +kernel
theorem dX12_feed_74 : decode prog_14_method_18_code 74 = .ok (.getfield 31, 3) := by decide +kernel
theorem dX12_feed_77 : decode prog_14_method_18_code 77 = .ok (.aload_n 0, 1) := by decide +kernel
theorem dX12_feed_78 : decode prog_14_method_18_code 78 = .ok (.getfield 78, 3) := by decide +kernel
theorem dX12_feed_81 : decode prog_14_method_18_code 81 = .ok (.iload 7, 2) := by decide +kernel
theorem dX12_feed_83 : decode prog_14_method_18_code 83 = .ok (.bipush 24, 2) := by decide +kernel
theorem dX12_feed_85 : decode prog_14_method_18_code 85 = .ok (.bipush 8, 2) := by decide +kernel
theorem dX12_feed_87 : decode prog_14_method_18_code 87 = .ok (.iload 6, 2) := by decide +kernel
theorem dX12_feed_89 : decode prog_14_method_18_code 89 = .ok (.iconst 4, 1) := by decide +kernel
theorem dX12_feed_90 : decode prog_14_method_18_code 90 = .ok (.irem, 1) := by decide +kernel
theorem dX12_feed_91 : decode prog_14_method_18_code 91 = .ok (.imul, 1) := by decide +kernel
theorem dX12_feed_92 : decode prog_14_method_18_code 92 = .ok (.isub, 1) := by decide +kernel
theorem dX12_feed_93 : decode prog_14_method_18_code 93 = .ok (.ishr, 1) := by decide +kernel
theorem dX12_feed_94 : decode prog_14_method_18_code 94 = .ok (.sipush 255, 3) := by decide +kernel
theorem dX12_feed_97 : decode prog_14_method_18_code 97 = .ok (.iand, 1) := by decide +kernel
theorem dX12_feed_98 : decode prog_14_method_18_code 98 = .ok (.iastore, 1) := by decide +kernel
theorem dX12_feed_99 : decode prog_14_method_18_code 99 = .ok (.aload_n 0, 1) := by decide +kernel
theorem dX12_feed_100 : decode prog_14_method_18_code 100 = .ok (.dup, 1) := by decide +kernel
theorem dX12_feed_101 : decode prog_14_method_18_code 101 = .ok (.getfield 78, 3) := by decide +kernel
theorem dX12_feed_104 : decode prog_14_method_18_code 104 = .ok (.iconst 1, 1) := by decide +kernel
theorem dX12_feed_105 : decode prog_14_method_18_code 105 = .ok (.iadd, 1) := by decide +kernel
theorem dX12_feed_106 : decode prog_14_method_18_code 106 = .ok (.putfield 78, 3) := by decide +kernel
theorem dX12_feed_109 : decode prog_14_method_18_code 109 = .ok (.iinc 6 1, 3) := by decide +kernel
theorem dX12_feed_112 : decode prog_14_method_18_code 112 = .ok (.goto (-94), 3) := by decide +kernel
theorem dX12_feed_115 : decode prog_14_method_18_code 115 = .ok (.aload_n 0, 1) := by decide +kernel
theorem dX12_feed_116 : decode prog_14_method_18_code 116 = .ok (.getfield 78, 3) := by decide +kernel
theorem dX12_feed_119 : decode prog_14_method_18_code 119 = .ok (.ireturn, 1) := by decide +kernel
theorem dX12_end_0 : decode prog_14_method_19_code 0 = .ok (.iload_n 1, 1) := by decide +kernel
theorem dX12_end_1 : decode prog_14_method_19_code 1 = .ok (.iconst 0, 1) := by decide +kernel
theorem dX12_end_2 : decode prog_14_method_19_code 2 = .ok (.aload_n 0, 1) := by decide +kernel
theorem dX12_end_3 : decode prog_14_method_19_code 3 = .ok (.getfield 78, 3) := by decide +kernel
theorem dX12_end_6 : decode prog_14_method_19_code 6 = .ok (.invokestatic 56, 3) := by decide +kernel
theorem dX12_end_9 : decode prog_14_method_19_code 9 = .ok (.ifCond .ne 5, 3) := by decide +kernel
theorem dX12_end_12 : decode prog_14_method_19_code 12 = .ok (.iconst 0, 1) := by decide +kernel
theorem dX12_end_13 : decode prog_14_method_19_code 13 = .ok (.ireturn, 1) := by decide +kernel
theorem dX12_end_14 : decode prog_14_method_19_code 14 = .ok (.aload_n 0, 1) := by decide +kernel
theorem dX12_end_15 : decode prog_14_method_19_code 15 = .ok (.iload_n 1, 1) := by decide +kernel
theorem dX12_end_16 : decode prog_14_method_19_code 16 = .ok (.putfield 78, 3) := by decide +kernel
theorem dX12_end_19 : decode prog_14_method_19_code 19 = .ok (.iconst 1, 1) := by decide +kernel
theorem dX12_end_20 : decode prog_14_method_19_code 20 = .ok (.ireturn, 1) := by decide +kernel
theorem dX12_see_0 : decode prog_14_method_20_code 0 = .ok (.iload_n 1, 1) := by decide +kernel
theorem dX12_see_1 : decode prog_14_method_20_code 1 = .ok (.aload_n 0, 1) := by decide +kernel
theorem dX12_see_2 : decode prog_14_method_20_code 2 = .ok (.getfield 78, 3) := by decide +kernel
theorem dX12_see_5 : decode prog_14_method_20_code 5 = .ok (.if_icmp .ge 12, 3) := by decide +kernel
theorem dX12_see_8 : decode prog_14_method_20_code 8 = .ok (.aload_n 0, 1) := by decide +kernel
theorem dX12_see_9 : decode prog_14_method_20_code 9 = .ok (.getfield 31, 3) := by decide +kernel
theorem dX12_see_12 : decode prog_14_method_20_code 12 = .ok (.iload_n 1, 1) := by decide +kernel
theorem dX12_see_13 : decode prog_14_method_20_code 13 = .ok (.iaload, 1) := by decide +kernel
theorem dX12_see_14 : decode prog_14_method_20_code 14 = .ok (.goto 4, 3) := by decide +kernel
theorem dX12_see_17 : decode prog_14_method_20_code 17 = .ok (.iconst (-1), 1) := by decide +kernel
theorem dX12_see_18 : decode prog_14_method_20_code 18 = .ok (.ireturn, 1) := by decide +kernel
theorem dX12_isLetter_0 : decode prog_14_method_21_code 0 = .ok (.iload_n 0, 1) := by decide +kernel
theorem dX12_isLetter_1 : decode prog_14_method_21_code 1 = .ok (.bipush 97, 2) := by decide +kernel
theorem dX12_isLetter_3 : decode prog_14_method_21_code 3 = .ok (.bipush 122, 2) := by decide +kernel
theorem dX12_isLetter_5 : decode prog_14_method_21_code 5 = .ok (.invokestatic 56, 3) := by decide +kernel
theorem dX12_isLetter_8 : decode prog_14_method_21_code 8 = .ok (.ifCond .ne 14, 3) := by decide +kernel
theorem dX12_isLetter_11 : decode prog_14_method_21_code 11 = .ok (.iload_n 0, 1) := by decide +kernel
theorem dX12_isLetter_12 : decode prog_14_method_21_code 12 = .ok (.bipush 65, 2) := by decide +kernel
theorem dX12_isLetter_14 : decode prog_14_method_21_code 14 = .ok (.bipush 90, 2) := by decide +kernel
theorem dX12_isLetter_16 : decode prog_14_method_21_code 16 = .ok (.invokestatic 56, 3) := by decide +kernel
theorem dX12_isLetter_19 : decode prog_14_method_21_code 19 = .ok (.ifCond .eq 7, 3) := by decide +kernel
theorem dX12_isLetter_22 : decode prog_14_method_21_code 22 = .ok (.iconst 1, 1) := by decide +kernel
theorem dX12_isLetter_23 : decode prog_14_method_21_code 23 = .ok (.goto 4, 3) := by decide +kernel
theorem dX12_isLetter_26 : decode prog_14_method_21_code 26 = .ok (.iconst 0, 1) := by decide +kernel
theorem dX12_isLetter_27 : decode prog_14_method_21_code 27 = .ok (.ireturn, 1) := by decide +kernel
theorem dX12_isDigit_0 : decode prog_14_method_22_code 0 = .ok (.iload_n 0, 1) := by decide +kernel
theorem dX12_isDigit_1 : decode prog_14_method_22_code 1 = .ok (.bipush 48, 2) := by decide +kernel
theorem dX12_isDigit_3 : decode prog_14_method_22_code 3 = .ok (.bipush 57, 2) := by decide +kernel
theorem dX12_isDigit_5 : decode prog_14_method_22_code 5 = .ok (.invokestatic 56, 3) := by decide +kernel
theorem dX12_isDigit_8 : decode prog_14_method_22_code 8 = .ok (.ireturn, 1) := by decide +kernel
theorem dX12_is_0 : decode prog_14_method_23_code 0 = .ok (.aload_n 0, 1) := by decide +kernel
theorem dX12_is_1 : decode prog_14_method_23_code 1 = .ok (.getfield 81, 3) := by decide +kernel
theorem dX12_is_4 : decode prog_14_method_23_code 4 = .ok (.aload_n 0, 1) := by decide +kernel
theorem dX12_is_5 : decode prog_14_method_23_code 5 = .ok (.getfield 84, 3) := by decide +kernel
theorem dX12_is_8 : decode prog_14_method_23_code 8 = .ok (.isub, 1) := by decide +kernel
theorem dX12_is_9 : decode prog_14_method_23_code 9 = .ok (.aload_n 1, 1) := by decide +kernel
theorem dX12_is_10 : decode prog_14_method_23_code 10 = .ok (.invokevirtual 87, 3) := by decide +kernel
theorem dX12_is_13 : decode prog_14_method_23_code 13 = .ok (.if_icmp .ne 7, 3) := by decide +kernel
theorem dX12_is_16 : decode prog_14_method_23_code 16 = .ok (.iconst 1, 1) := by decide +kernel
theorem dX12_is_17 : decode prog_14_method_23_code 17 = .ok (.goto 4, 3) := by decide +kernel
theorem dX12_is_20 : decode prog_14_method_23_code 20 = .ok (.iconst 0, 1) := by decide +kernel
theorem dX12_is_21 : decode prog_14_method_23_code 21 = .ok (.istore_n 2, 1) := by decide +kernel
theorem dX12_is_22 : decode prog_14_method_23_code 22 = .ok (.iconst 0, 1) := by decide +kernel
theorem dX12_is_23 : decode prog_14_method_23_code 23 = .ok (.istore_n 3, 1) := by decide +kernel
theorem dX12_is_24 : decode prog_14_method_23_code 24 = .ok (.iload_n 3, 1) := by decide +kernel
theorem dX12_is_25 : decode prog_14_method_23_code 25 = .ok (.aload_n 1, 1) := by decide +kernel
theorem dX12_is_26 : decode prog_14_method_23_code 26 = .ok (.invokevirtual 87, 3) := by decide +kernel
theorem dX12_is_29 : decode prog_14_method_23_code 29 = .ok (.if_icmp .ge 38, 3) := by decide +kernel
theorem dX12_is_32 : decode prog_14_method_23_code 32 = .ok (.iload_n 2, 1) := by decide +kernel
theorem dX12_is_33 : decode prog_14_method_23_code 33 = .ok (.ifCond .eq 34, 3) := by decide +kernel
theorem dX12_is_36 : decode prog_14_method_23_code 36 = .ok (.aload_n 0, 1) := by decide +kernel
theorem dX12_is_37 : decode prog_14_method_23_code 37 = .ok (.getfield 31, 3) := by decide +kernel
theorem dX12_is_40 : decode prog_14_method_23_code 40 = .ok (.aload_n 0, 1) := by decide +kernel
theorem dX12_is_41 : decode prog_14_method_23_code 41 = .ok (.getfield 84, 3) := by decide +kernel
theorem dX12_is_44 : decode prog_14_method_23_code 44 = .ok (.iload_n 3, 1) := by decide +kernel
theorem dX12_is_45 : decode prog_14_method_23_code 45 = .ok (.iadd, 1) := by decide +kernel
theorem dX12_is_46 : decode prog_14_method_23_code 46 = .ok (.iaload, 1) := by decide +kernel
theorem dX12_is_47 : decode prog_14_method_23_code 47 = .ok (.aload_n 1, 1) := by decide +kernel
theorem dX12_is_48 : decode prog_14_method_23_code 48 = .ok (.iload_n 3, 1) := by decide +kernel
theorem dX12_is_49 : decode prog_14_method_23_code 49 = .ok (.invokevirtual 93, 3) := by decide +kernel
theorem dX12_is_52 : decode prog_14_method_23_code 52 = .ok (.if_icmp .ne 7, 3) := by decide +kernel
theorem dX12_is_55 : decode prog_14_method_23_code 55 = .ok (.iconst 1, 1) := by decide +kernel
theorem dX12_is_56 : decode prog_14_method_23_code 56 = .ok (.goto 4, 3) := by decide +kernel
theorem dX12_is_59 : decode prog_14_method_23_code 59 = .ok (.iconst 0, 1) := by decide +kernel
theorem dX12_is_60 : decode prog_14_method_23_code 60 = .ok (.istore_n 2, 1) := by decide +kernel
theorem dX12_is_61 : decode prog_14_method_23_code 61 = .ok (.iinc 3 1, 3) := by decide +kernel
theorem dX12_is_64 : decode prog_14_method_23_code 64 = .ok (.goto (-40), 3) := by decide +kernel
theorem dX12_is_67 : decode prog_14_method_23_code 67 = .ok (.iload_n 2, 1) := by decide +kernel
theorem dX12_is_68 : decode prog_14_method_23_code 68 = .ok (.ireturn, 1) := by decide +kernel
theorem dX12_asked_0 : decode prog_14_method_24_code 0 = .ok (.aload_n 0, 1) := by decide +kernel
theorem dX12_asked_1 : decode prog_14_method_24_code 1 = .ok (.ldc 97, 2) := by decide +kernel
theorem dX12_asked_3 : decode prog_14_method_24_code 3 = .ok (.invokevirtual 99, 3) := by decide +kernel
theorem dX12_asked_6 : decode prog_14_method_24_code 6 = .ok (.ifCond .eq 6, 3) := by decide +kernel
theorem dX12_asked_9 : decode prog_14_method_24_code 9 = .ok (.bipush 41, 2) := by decide +kernel
theorem dX12_asked_11 : decode prog_14_method_24_code 11 = .ok (.ireturn, 1) := by decide +kernel
theorem dX12_asked_12 : decode prog_14_method_24_code 12 = .ok (.aload_n 0, 1) := by decide +kernel
theorem dX12_asked_13 : decode prog_14_method_24_code 13 = .ok (.ldc 103, 2) := by decide +kernel
theorem dX12_asked_15 : decode prog_14_method_24_code 15 = .ok (.invokevirtual 99, 3) := by decide +kernel
theorem dX12_asked_18 : decode prog_14_method_24_code 18 = .ok (.ifCond .eq 6, 3) := by decide +kernel
theorem dX12_asked_21 : decode prog_14_method_24_code 21 = .ok (.bipush 42, 2) := by decide +kernel
theorem dX12_asked_23 : decode prog_14_method_24_code 23 = .ok (.ireturn, 1) := by decide +kernel
theorem dX12_asked_24 : decode prog_14_method_24_code 24 = .ok (.aload_n 0, 1) := by decide +kernel
theorem dX12_asked_25 : decode prog_14_method_24_code 25 = .ok (.ldc 105, 2) := by decide +kernel
theorem dX12_asked_27 : decode prog_14_method_24_code 27 = .ok (.invokevirtual 99, 3) := by decide +kernel
theorem dX12_asked_30 : decode prog_14_method_24_code 30 = .ok (.ifCond .eq 6, 3) := by decide +kernel
theorem dX12_asked_33 : decode prog_14_method_24_code 33 = .ok (.bipush 43, 2) := by decide +kernel
theorem dX12_asked_35 : decode prog_14_method_24_code 35 = .ok (.ireturn, 1) := by decide +kernel
theorem dX12_asked_36 : decode prog_14_method_24_code 36 = .ok (.aload_n 0, 1) := by decide +kernel
theorem dX12_asked_37 : decode prog_14_method_24_code 37 = .ok (.ldc 107, 2) := by decide +kernel
theorem dX12_asked_39 : decode prog_14_method_24_code 39 = .ok (.invokevirtual 99, 3) := by decide +kernel
theorem dX12_asked_42 : decode prog_14_method_24_code 42 = .ok (.ifCond .eq 6, 3) := by decide +kernel
theorem dX12_asked_45 : decode prog_14_method_24_code 45 = .ok (.bipush 44, 2) := by decide +kernel
theorem dX12_asked_47 : decode prog_14_method_24_code 47 = .ok (.ireturn, 1) := by decide +kernel
theorem dX12_asked_48 : decode prog_14_method_24_code 48 = .ok (.aload_n 0, 1) := by decide +kernel
theorem dX12_asked_49 : decode prog_14_method_24_code 49 = .ok (.ldc 109, 2) := by decide +kernel
theorem dX12_asked_51 : decode prog_14_method_24_code 51 = .ok (.invokevirtual 99, 3) := by decide +kernel
theorem dX12_asked_54 : decode prog_14_method_24_code 54 = .ok (.ifCond .eq 6, 3) := by decide +kernel
theorem dX12_asked_57 : decode prog_14_method_24_code 57 = .ok (.bipush 45, 2) := by decide +kernel
theorem dX12_asked_59 : decode prog_14_method_24_code 59 = .ok (.ireturn, 1) := by decide +kernel
theorem dX12_asked_60 : decode prog_14_method_24_code 60 = .ok (.aload_n 0, 1) := by decide +kernel
theorem dX12_asked_61 : decode prog_14_method_24_code 61 = .ok (.ldc 111, 2) := by decide +kernel
theorem dX12_asked_63 : decode prog_14_method_24_code 63 = .ok (.invokevirtual 99, 3) := by decide +kernel
theorem dX12_asked_66 : decode prog_14_method_24_code 66 = .ok (.ifCond .eq 6, 3) := by decide +kernel
theorem dX12_asked_69 : decode prog_14_method_24_code 69 = .ok (.bipush 46, 2) := by decide +kernel
theorem dX12_asked_71 : decode prog_14_method_24_code 71 = .ok (.ireturn, 1) := by decide +kernel
theorem dX12_asked_72 : decode prog_14_method_24_code 72 = .ok (.aload_n 0, 1) := by decide +kernel
theorem dX12_asked_73 : decode prog_14_method_24_code 73 = .ok (.ldc 113, 2) := by decide +kernel
theorem dX12_asked_75 : decode prog_14_method_24_code 75 = .ok (.invokevirtual 99, 3) := by decide +kernel
theorem dX12_asked_78 : decode prog_14_method_24_code 78 = .ok (.ifCond .eq 6, 3) := by decide +kernel
theorem dX12_asked_81 : decode prog_14_method_24_code 81 = .ok (.bipush 47, 2) := by decide +kernel
theorem dX12_asked_83 : decode prog_14_method_24_code 83 = .ok (.ireturn, 1) := by decide +kernel
theorem dX12_asked_84 : decode prog_14_method_24_code 84 = .ok (.aload_n 0, 1) := by decide +kernel
theorem dX12_asked_85 : decode prog_14_method_24_code 85 = .ok (.ldc 115, 2) := by decide +kernel
theorem dX12_asked_87 : decode prog_14_method_24_code 87 = .ok (.invokevirtual 99, 3) := by decide +kernel
theorem dX12_asked_90 : decode prog_14_method_24_code 90 = .ok (.ifCond .eq 6, 3) := by decide +kernel
theorem dX12_asked_93 : decode prog_14_method_24_code 93 = .ok (.bipush 48, 2) := by decide +kernel
theorem dX12_asked_95 : decode prog_14_method_24_code 95 = .ok (.ireturn, 1) := by decide +kernel
theorem dX12_asked_96 : decode prog_14_method_24_code 96 = .ok (.aload_n 0, 1) := by decide +kernel
theorem dX12_asked_97 : decode prog_14_method_24_code 97 = .ok (.ldc 117, 2) := by decide +kernel
theorem dX12_asked_99 : decode prog_14_method_24_code 99 = .ok (.invokevirtual 99, 3) := by decide +kernel
theorem dX12_asked_102 : decode prog_14_method_24_code 102 = .ok (.ifCond .eq 6, 3) := by decide +kernel
theorem dX12_asked_105 : decode prog_14_method_24_code 105 = .ok (.bipush 49, 2) := by decide +kernel
theorem dX12_asked_107 : decode prog_14_method_24_code 107 = .ok (.ireturn, 1) := by decide +kernel
theorem dX12_asked_108 : decode prog_14_method_24_code 108 = .ok (.aload_n 0, 1) := by decide +kernel
theorem dX12_asked_109 : decode prog_14_method_24_code 109 = .ok (.ldc 119, 2) := by decide +kernel
theorem dX12_asked_111 : decode prog_14_method_24_code 111 = .ok (.invokevirtual 99, 3) := by decide +kernel
theorem dX12_asked_114 : decode prog_14_method_24_code 114 = .ok (.ifCond .eq 8, 3) := by decide +kernel
theorem dX12_asked_117 : decode prog_14_method_24_code 117 = .ok (.bipush 50, 2) := by decide +kernel
theorem dX12_asked_119 : decode prog_14_method_24_code 119 = .ok (.goto 4, 3) := by decide +kernel
theorem dX12_asked_122 : decode prog_14_method_24_code 122 = .ok (.iconst 1, 1) := by decide +kernel
theorem dX12_asked_123 : decode prog_14_method_24_code 123 = .ok (.ireturn, 1) := by decide +kernel
theorem dX12_lawWord_0 : decode prog_14_method_25_code 0 = .ok (.aload_n 0, 1) := by decide +kernel
theorem dX12_lawWord_1 : decode prog_14_method_25_code 1 = .ok (.ldc 121, 2) := by decide +kernel
theorem dX12_lawWord_3 : decode prog_14_method_25_code 3 = .ok (.invokevirtual 99, 3) := by decide +kernel
theorem dX12_lawWord_6 : decode prog_14_method_25_code 6 = .ok (.ifCond .eq 5, 3) := by decide +kernel
theorem dX12_lawWord_9 : decode prog_14_method_25_code 9 = .ok (.iconst 3, 1) := by decide +kernel
theorem dX12_lawWord_10 : decode prog_14_method_25_code 10 = .ok (.ireturn, 1) := by decide +kernel
theorem dX12_lawWord_11 : decode prog_14_method_25_code 11 = .ok (.aload_n 0, 1) := by decide +kernel
theorem dX12_lawWord_12 : decode prog_14_method_25_code 12 = .ok (.ldc 123, 2) := by decide +kernel
theorem dX12_lawWord_14 : decode prog_14_method_25_code 14 = .ok (.invokevirtual 99, 3) := by decide +kernel
theorem dX12_lawWord_17 : decode prog_14_method_25_code 17 = .ok (.ifCond .eq 5, 3) := by decide +kernel
theorem dX12_lawWord_20 : decode prog_14_method_25_code 20 = .ok (.iconst 4, 1) := by decide +kernel
theorem dX12_lawWord_21 : decode prog_14_method_25_code 21 = .ok (.ireturn, 1) := by decide +kernel
theorem dX12_lawWord_22 : decode prog_14_method_25_code 22 = .ok (.aload_n 0, 1) := by decide +kernel
theorem dX12_lawWord_23 : decode prog_14_method_25_code 23 = .ok (.ldc 125, 2) := by decide +kernel
theorem dX12_lawWord_25 : decode prog_14_method_25_code 25 = .ok (.invokevirtual 99, 3) := by decide +kernel
theorem dX12_lawWord_28 : decode prog_14_method_25_code 28 = .ok (.ifCond .eq 5, 3) := by decide +kernel
theorem dX12_lawWord_31 : decode prog_14_method_25_code 31 = .ok (.iconst 5, 1) := by decide +kernel
theorem dX12_lawWord_32 : decode prog_14_method_25_code 32 = .ok (.ireturn, 1) := by decide +kernel
theorem dX12_lawWord_33 : decode prog_14_method_25_code 33 = .ok (.aload_n 0, 1) := by decide +kernel
theorem dX12_lawWord_34 : decode prog_14_method_25_code 34 = .ok (.ldc 127, 2) := by decide +kernel
theorem dX12_lawWord_36 : decode prog_14_method_25_code 36 = .ok (.invokevirtual 99, 3) := by decide +kernel
theorem dX12_lawWord_39 : decode prog_14_method_25_code 39 = .ok (.ifCond .eq 6, 3) := by decide +kernel
theorem dX12_lawWord_42 : decode prog_14_method_25_code 42 = .ok (.bipush 6, 2) := by decide +kernel
theorem dX12_lawWord_44 : decode prog_14_method_25_code 44 = .ok (.ireturn, 1) := by decide +kernel
theorem dX12_lawWord_45 : decode prog_14_method_25_code 45 = .ok (.aload_n 0, 1) := by decide +kernel
theorem dX12_lawWord_46 : decode prog_14_method_25_code 46 = .ok (.ldc 129, 2) := by decide +kernel
theorem dX12_lawWord_48 : decode prog_14_method_25_code 48 = .ok (.invokevirtual 99, 3) := by decide +kernel
theorem dX12_lawWord_51 : decode prog_14_method_25_code 51 = .ok (.ifCond .eq 6, 3) := by decide +kernel
theorem dX12_lawWord_54 : decode prog_14_method_25_code 54 = .ok (.bipush 20, 2) := by decide +kernel
theorem dX12_lawWord_56 : decode prog_14_method_25_code 56 = .ok (.ireturn, 1) := by decide +kernel
theorem dX12_lawWord_57 : decode prog_14_method_25_code 57 = .ok (.aload_n 0, 1) := by decide +kernel
theorem dX12_lawWord_58 : decode prog_14_method_25_code 58 = .ok (.ldc 131, 2) := by decide +kernel
theorem dX12_lawWord_60 : decode prog_14_method_25_code 60 = .ok (.invokevirtual 99, 3) := by decide +kernel
theorem dX12_lawWord_63 : decode prog_14_method_25_code 63 = .ok (.ifCond .eq 6, 3) := by decide +kernel
theorem dX12_lawWord_66 : decode prog_14_method_25_code 66 = .ok (.bipush 21, 2) := by decide +kernel
theorem dX12_lawWord_68 : decode prog_14_method_25_code 68 = .ok (.ireturn, 1) := by decide +kernel
theorem dX12_lawWord_69 : decode prog_14_method_25_code 69 = .ok (.aload_n 0, 1) := by decide +kernel
theorem dX12_lawWord_70 : decode prog_14_method_25_code 70 = .ok (.ldc 133, 2) := by decide +kernel
theorem dX12_lawWord_72 : decode prog_14_method_25_code 72 = .ok (.invokevirtual 99, 3) := by decide +kernel
theorem dX12_lawWord_75 : decode prog_14_method_25_code 75 = .ok (.ifCond .eq 8, 3) := by decide +kernel
theorem dX12_lawWord_78 : decode prog_14_method_25_code 78 = .ok (.bipush 22, 2) := by decide +kernel
theorem dX12_lawWord_80 : decode prog_14_method_25_code 80 = .ok (.goto 7, 3) := by decide +kernel
theorem dX12_lawWord_83 : decode prog_14_method_25_code 83 = .ok (.aload_n 0, 1) := by decide +kernel
theorem dX12_lawWord_84 : decode prog_14_method_25_code 84 = .ok (.invokevirtual 135, 3) := by decide +kernel
theorem dX12_lawWord_87 : decode prog_14_method_25_code 87 = .ok (.ireturn, 1) := by decide +kernel
theorem dX12_statuteWord_0 : decode prog_14_method_26_code 0 = .ok (.aload_n 0, 1) := by decide +kernel
theorem dX12_statuteWord_1 : decode prog_14_method_26_code 1 = .ok (.ldc 103, 2) := by decide +kernel
theorem dX12_statuteWord_3 : decode prog_14_method_26_code 3 = .ok (.invokevirtual 99, 3) := by decide +kernel
theorem dX12_statuteWord_6 : decode prog_14_method_26_code 6 = .ok (.ifCond .eq 6, 3) := by decide +kernel
theorem dX12_statuteWord_9 : decode prog_14_method_26_code 9 = .ok (.bipush 7, 2) := by decide +kernel
theorem dX12_statuteWord_11 : decode prog_14_method_26_code 11 = .ok (.ireturn, 1) := by decide +kernel
theorem dX12_statuteWord_12 : decode prog_14_method_26_code 12 = .ok (.aload_n 0, 1) := by decide +kernel
theorem dX12_statuteWord_13 : decode prog_14_method_26_code 13 = .ok (.ldc 138, 2) := by decide +kernel
theorem dX12_statuteWord_15 : decode prog_14_method_26_code 15 = .ok (.invokevirtual 99, 3) := by decide +kernel
theorem dX12_statuteWord_18 : decode prog_14_method_26_code 18 = .ok (.ifCond .eq 6, 3) := by decide +kernel
theorem dX12_statuteWord_21 : decode prog_14_method_26_code 21 = .ok (.bipush 8, 2) := by decide +kernel
theorem dX12_statuteWord_23 : decode prog_14_method_26_code 23 = .ok (.ireturn, 1) := by decide +kernel
theorem dX12_statuteWord_24 : decode prog_14_method_26_code 24 = .ok (.aload_n 0, 1) := by decide +kernel
theorem dX12_statuteWord_25 : decode prog_14_method_26_code 25 = .ok (.ldc 140, 2) := by decide +kernel
theorem dX12_statuteWord_27 : decode prog_14_method_26_code 27 = .ok (.invokevirtual 99, 3) := by decide +kernel
theorem dX12_statuteWord_30 : decode prog_14_method_26_code 30 = .ok (.ifCond .eq 6, 3) := by decide +kernel
theorem dX12_statuteWord_33 : decode prog_14_method_26_code 33 = .ok (.bipush 9, 2) := by decide +kernel
theorem dX12_statuteWord_35 : decode prog_14_method_26_code 35 = .ok (.ireturn, 1) := by decide +kernel
theorem dX12_statuteWord_36 : decode prog_14_method_26_code 36 = .ok (.aload_n 0, 1) := by decide +kernel
theorem dX12_statuteWord_37 : decode prog_14_method_26_code 37 = .ok (.ldc 142, 2) := by decide +kernel
theorem dX12_statuteWord_39 : decode prog_14_method_26_code 39 = .ok (.invokevirtual 99, 3) := by decide +kernel
theorem dX12_statuteWord_42 : decode prog_14_method_26_code 42 = .ok (.ifCond .eq 6, 3) := by decide +kernel
theorem dX12_statuteWord_45 : decode prog_14_method_26_code 45 = .ok (.bipush 10, 2) := by decide +kernel
theorem dX12_statuteWord_47 : decode prog_14_method_26_code 47 = .ok (.ireturn, 1) := by decide +kernel
theorem dX12_statuteWord_48 : decode prog_14_method_26_code 48 = .ok (.aload_n 0, 1) := by decide +kernel
theorem dX12_statuteWord_49 : decode prog_14_method_26_code 49 = .ok (.ldc 144, 2) := by decide +kernel
theorem dX12_statuteWord_51 : decode prog_14_method_26_code 51 = .ok (.invokevirtual 99, 3) := by decide +kernel
theorem dX12_statuteWord_54 : decode prog_14_method_26_code 54 = .ok (.ifCond .eq 8, 3) := by decide +kernel
theorem dX12_statuteWord_57 : decode prog_14_method_26_code 57 = .ok (.bipush 11, 2) := by decide +kernel
theorem dX12_statuteWord_59 : decode prog_14_method_26_code 59 = .ok (.goto 4, 3) := by decide +kernel
theorem dX12_statuteWord_62 : decode prog_14_method_26_code 62 = .ok (.iconst 1, 1) := by decide +kernel
theorem dX12_statuteWord_63 : decode prog_14_method_26_code 63 = .ok (.ireturn, 1) := by decide +kernel
theorem dX12_word_0 : decode prog_14_method_27_code 0 = .ok (.aload_n 0, 1) := by decide +kernel
theorem dX12_word_1 : decode prog_14_method_27_code 1 = .ok (.getfield 146, 3) := by decide +kernel
theorem dX12_word_4 : decode prog_14_method_27_code 4 = .ok (.tableswitch 68 0 2 #[28, 33, 38], 28) := by decide +kernel
theorem dX12_word_32 : decode prog_14_method_27_code 32 = .ok (.aload_n 0, 1) := by decide +kernel
theorem dX12_word_33 : decode prog_14_method_27_code 33 = .ok (.invokevirtual 149, 3) := by decide +kernel
theorem dX12_word_36 : decode prog_14_method_27_code 36 = .ok (.ireturn, 1) := by decide +kernel
theorem dX12_word_37 : decode prog_14_method_27_code 37 = .ok (.aload_n 0, 1) := by decide +kernel
theorem dX12_word_38 : decode prog_14_method_27_code 38 = .ok (.invokevirtual 152, 3) := by decide +kernel
theorem dX12_word_41 : decode prog_14_method_27_code 41 = .ok (.ireturn, 1) := by decide +kernel
theorem dX12_word_42 : decode prog_14_method_27_code 42 = .ok (.aload_n 0, 1) := by decide +kernel
theorem dX12_word_43 : decode prog_14_method_27_code 43 = .ok (.ldc 155, 2) := by decide +kernel
theorem dX12_word_45 : decode prog_14_method_27_code 45 = .ok (.invokevirtual 99, 3) := by decide +kernel
theorem dX12_word_48 : decode prog_14_method_27_code 48 = .ok (.ifCond .eq 8, 3) := by decide +kernel
theorem dX12_word_51 : decode prog_14_method_27_code 51 = .ok (.bipush 12, 2) := by decide +kernel
theorem dX12_word_53 : decode prog_14_method_27_code 53 = .ok (.goto 18, 3) := by decide +kernel
theorem dX12_word_56 : decode prog_14_method_27_code 56 = .ok (.aload_n 0, 1) := by decide +kernel
theorem dX12_word_57 : decode prog_14_method_27_code 57 = .ok (.ldc 156, 2) := by decide +kernel
theorem dX12_word_59 : decode prog_14_method_27_code 59 = .ok (.invokevirtual 99, 3) := by decide +kernel
theorem dX12_word_62 : decode prog_14_method_27_code 62 = .ok (.ifCond .eq 8, 3) := by decide +kernel
theorem dX12_word_65 : decode prog_14_method_27_code 65 = .ok (.bipush 13, 2) := by decide +kernel
theorem dX12_word_67 : decode prog_14_method_27_code 67 = .ok (.goto 4, 3) := by decide +kernel
theorem dX12_word_70 : decode prog_14_method_27_code 70 = .ok (.iconst 1, 1) := by decide +kernel
theorem dX12_word_71 : decode prog_14_method_27_code 71 = .ok (.ireturn, 1) := by decide +kernel
theorem dX12_word_72 : decode prog_14_method_27_code 72 = .ok (.aload_n 0, 1) := by decide +kernel
theorem dX12_word_73 : decode prog_14_method_27_code 73 = .ok (.ldc 97, 2) := by decide +kernel
theorem dX12_word_75 : decode prog_14_method_27_code 75 = .ok (.invokevirtual 99, 3) := by decide +kernel
theorem dX12_word_78 : decode prog_14_method_27_code 78 = .ok (.ifCond .eq 8, 3) := by decide +kernel
theorem dX12_word_81 : decode prog_14_method_27_code 81 = .ok (.bipush 14, 2) := by decide +kernel
theorem dX12_word_83 : decode prog_14_method_27_code 83 = .ok (.goto 18, 3) := by decide +kernel
theorem dX12_word_86 : decode prog_14_method_27_code 86 = .ok (.aload_n 0, 1) := by decide +kernel
theorem dX12_word_87 : decode prog_14_method_27_code 87 = .ok (.ldc 117, 2) := by decide +kernel
theorem dX12_word_89 : decode prog_14_method_27_code 89 = .ok (.invokevirtual 99, 3) := by decide +kernel
theorem dX12_word_92 : decode prog_14_method_27_code 92 = .ok (.ifCond .eq 8, 3) := by decide +kernel
theorem dX12_word_95 : decode prog_14_method_27_code 95 = .ok (.bipush 15, 2) := by decide +kernel
theorem dX12_word_97 : decode prog_14_method_27_code 97 = .ok (.goto 4, 3) := by decide +kernel
theorem dX12_word_100 : decode prog_14_method_27_code 100 = .ok (.iconst 1, 1) := by decide +kernel
theorem dX12_word_101 : decode prog_14_method_27_code 101 = .ok (.ireturn, 1) := by decide +kernel
theorem dX12_next0_0 : decode prog_14_method_28_code 0 = .ok (.aload_n 0, 1) := by decide +kernel
theorem dX12_next0_1 : decode prog_14_method_28_code 1 = .ok (.aload_n 0, 1) := by decide +kernel
theorem dX12_next0_2 : decode prog_14_method_28_code 2 = .ok (.getfield 81, 3) := by decide +kernel
theorem dX12_next0_5 : decode prog_14_method_28_code 5 = .ok (.invokevirtual 158, 3) := by decide +kernel
theorem dX12_next0_8 : decode prog_14_method_28_code 8 = .ok (.bipush 32, 2) := by decide +kernel
theorem dX12_next0_10 : decode prog_14_method_28_code 10 = .ok (.if_icmp .eq 16, 3) := by decide +kernel
theorem dX12_next0_13 : decode prog_14_method_28_code 13 = .ok (.aload_n 0, 1) := by decide +kernel
theorem dX12_next0_14 : decode prog_14_method_28_code 14 = .ok (.aload_n 0, 1) := by decide +kernel
theorem dX12_next0_15 : decode prog_14_method_28_code 15 = .ok (.getfield 81, 3) := by decide +kernel
theorem dX12_next0_18 : decode prog_14_method_28_code 18 = .ok (.invokevirtual 158, 3) := by decide +kernel
theorem dX12_next0_21 : decode prog_14_method_28_code 21 = .ok (.bipush 10, 2) := by decide +kernel
theorem dX12_next0_23 : decode prog_14_method_28_code 23 = .ok (.if_icmp .ne 16, 3) := by decide +kernel
theorem dX12_next0_26 : decode prog_14_method_28_code 26 = .ok (.aload_n 0, 1) := by decide +kernel
theorem dX12_next0_27 : decode prog_14_method_28_code 27 = .ok (.dup, 1) := by decide +kernel
theorem dX12_next0_28 : decode prog_14_method_28_code 28 = .ok (.getfield 81, 3) := by decide +kernel
theorem dX12_next0_31 : decode prog_14_method_28_code 31 = .ok (.iconst 1, 1) := by decide +kernel
theorem dX12_next0_32 : decode prog_14_method_28_code 32 = .ok (.iadd, 1) := by decide +kernel
theorem dX12_next0_33 : decode prog_14_method_28_code 33 = .ok (.putfield 81, 3) := by decide +kernel
theorem dX12_next0_36 : decode prog_14_method_28_code 36 = .ok (.goto (-36), 3) := by decide +kernel
theorem dX12_next0_39 : decode prog_14_method_28_code 39 = .ok (.aload_n 0, 1) := by decide +kernel
theorem dX12_next0_40 : decode prog_14_method_28_code 40 = .ok (.aload_n 0, 1) := by decide +kernel
theorem dX12_next0_41 : decode prog_14_method_28_code 41 = .ok (.getfield 81, 3) := by decide +kernel
theorem dX12_next0_44 : decode prog_14_method_28_code 44 = .ok (.putfield 84, 3) := by decide +kernel
theorem dX12_next0_47 : decode prog_14_method_28_code 47 = .ok (.aload_n 0, 1) := by decide +kernel
theorem dX12_next0_48 : decode prog_14_method_28_code 48 = .ok (.aload_n 0, 1) := by decide +kernel
theorem dX12_next0_49 : decode prog_14_method_28_code 49 = .ok (.getfield 81, 3) := by decide +kernel
theorem dX12_next0_52 : decode prog_14_method_28_code 52 = .ok (.invokevirtual 158, 3) := by decide +kernel
theorem dX12_next0_55 : decode prog_14_method_28_code 55 = .ok (.istore_n 1, 1) := by decide +kernel
theorem dX12_next0_56 : decode prog_14_method_28_code 56 = .ok (.iload_n 1, 1) := by decide +kernel
theorem dX12_next0_57 : decode prog_14_method_28_code 57 = .ok (.iconst (-1), 1) := by decide +kernel
theorem dX12_next0_58 : decode prog_14_method_28_code 58 = .ok (.if_icmp .ne 11, 3) := by decide +kernel
theorem dX12_next0_61 : decode prog_14_method_28_code 61 = .ok (.aload_n 0, 1) := by decide +kernel
theorem dX12_next0_62 : decode prog_14_method_28_code 62 = .ok (.iconst 0, 1) := by decide +kernel
theorem dX12_next0_63 : decode prog_14_method_28_code 63 = .ok (.putfield 162, 3) := by decide +kernel
theorem dX12_next0_66 : decode prog_14_method_28_code 66 = .ok (.goto 240, 3) := by decide +kernel
theorem dX12_next0_69 : decode prog_14_method_28_code 69 = .ok (.iload_n 1, 1) := by decide +kernel
theorem dX12_next0_70 : decode prog_14_method_28_code 70 = .ok (.invokestatic 165, 3) := by decide +kernel
theorem dX12_next0_73 : decode prog_14_method_28_code 73 = .ok (.ifCond .eq 41, 3) := by decide +kernel
theorem dX12_next0_76 : decode prog_14_method_28_code 76 = .ok (.aload_n 0, 1) := by decide +kernel
theorem dX12_next0_77 : decode prog_14_method_28_code 77 = .ok (.aload_n 0, 1) := by decide +kernel
theorem dX12_next0_78 : decode prog_14_method_28_code 78 = .ok (.getfield 81, 3) := by decide +kernel
theorem dX12_next0_81 : decode prog_14_method_28_code 81 = .ok (.invokevirtual 158, 3) := by decide +kernel
theorem dX12_next0_84 : decode prog_14_method_28_code 84 = .ok (.invokestatic 165, 3) := by decide +kernel
theorem dX12_next0_87 : decode prog_14_method_28_code 87 = .ok (.ifCond .eq 16, 3) := by decide +kernel
theorem dX12_next0_90 : decode prog_14_method_28_code 90 = .ok (.aload_n 0, 1) := by decide +kernel
theorem dX12_next0_91 : decode prog_14_method_28_code 91 = .ok (.dup, 1) := by decide +kernel
theorem dX12_next0_92 : decode prog_14_method_28_code 92 = .ok (.getfield 81, 3) := by decide +kernel
theorem dX12_next0_95 : decode prog_14_method_28_code 95 = .ok (.iconst 1, 1) := by decide +kernel
theorem dX12_next0_96 : decode prog_14_method_28_code 96 = .ok (.iadd, 1) := by decide +kernel
theorem dX12_next0_97 : decode prog_14_method_28_code 97 = .ok (.putfield 81, 3) := by decide +kernel
theorem dX12_next0_100 : decode prog_14_method_28_code 100 = .ok (.goto (-24), 3) := by decide +kernel
theorem dX12_next0_103 : decode prog_14_method_28_code 103 = .ok (.aload_n 0, 1) := by decide +kernel
theorem dX12_next0_104 : decode prog_14_method_28_code 104 = .ok (.aload_n 0, 1) := by decide +kernel
theorem dX12_next0_105 : decode prog_14_method_28_code 105 = .ok (.invokevirtual 168, 3) := by decide +kernel
theorem dX12_next0_108 : decode prog_14_method_28_code 108 = .ok (.putfield 162, 3) := by decide +kernel
theorem dX12_next0_111 : decode prog_14_method_28_code 111 = .ok (.goto 195, 3) := by decide +kernel
theorem dX12_next0_114 : decode prog_14_method_28_code 114 = .ok (.iload_n 1, 1) := by decide +kernel
theorem dX12_next0_115 : decode prog_14_method_28_code 115 = .ok (.invokestatic 171, 3) := by decide +kernel
theorem dX12_next0_118 : decode prog_14_method_28_code 118 = .ok (.ifCond .eq 96, 3) := by decide +kernel
theorem dX12_next0_121 : decode prog_14_method_28_code 121 = .ok (.aload_n 0, 1) := by decide +kernel
theorem dX12_next0_122 : decode prog_14_method_28_code 122 = .ok (.iconst 0, 1) := by decide +kernel
theorem dX12_next0_123 : decode prog_14_method_28_code 123 = .ok (.putfield 174, 3) := by decide +kernel
theorem dX12_next0_126 : decode prog_14_method_28_code 126 = .ok (.aload_n 0, 1) := by decide +kernel
theorem dX12_next0_127 : decode prog_14_method_28_code 127 = .ok (.aload_n 0, 1) := by decide +kernel
theorem dX12_next0_128 : decode prog_14_method_28_code 128 = .ok (.getfield 81, 3) := by decide +kernel
theorem dX12_next0_131 : decode prog_14_method_28_code 131 = .ok (.invokevirtual 158, 3) := by decide +kernel
theorem dX12_next0_134 : decode prog_14_method_28_code 134 = .ok (.invokestatic 171, 3) := by decide +kernel
theorem dX12_next0_137 : decode prog_14_method_28_code 137 = .ok (.ifCond .eq 52, 3) := by decide +kernel
theorem dX12_next0_140 : decode prog_14_method_28_code 140 = .ok (.aload_n 0, 1) := by decide +kernel
theorem dX12_next0_141 : decode prog_14_method_28_code 141 = .ok (.getfield 81, 3) := by decide +kernel
theorem dX12_next0_144 : decode prog_14_method_28_code 144 = .ok (.aload_n 0, 1) := by decide +kernel
theorem dX12_next0_145 : decode prog_14_method_28_code 145 = .ok (.getfield 84, 3) := by decide +kernel
theorem dX12_next0_148 : decode prog_14_method_28_code 148 = .ok (.iconst 4, 1) := by decide +kernel
theorem dX12_next0_149 : decode prog_14_method_28_code 149 = .ok (.iadd, 1) := by decide +kernel
theorem dX12_next0_150 : decode prog_14_method_28_code 150 = .ok (.if_icmp .ge 26, 3) := by decide +kernel
theorem dX12_next0_153 : decode prog_14_method_28_code 153 = .ok (.aload_n 0, 1) := by decide +kernel
theorem dX12_next0_154 : decode prog_14_method_28_code 154 = .ok (.bipush 10, 2) := by decide +kernel
theorem dX12_next0_156 : decode prog_14_method_28_code 156 = .ok (.aload_n 0, 1) := by decide +kernel
theorem dX12_next0_157 : decode prog_14_method_28_code 157 = .ok (.getfield 174, 3) := by decide +kernel
theorem dX12_next0_160 : decode prog_14_method_28_code 160 = .ok (.imul, 1) := by decide +kernel
theorem dX12_next0_161 : decode prog_14_method_28_code 161 = .ok (.aload_n 0, 1) := by decide +kernel
theorem dX12_next0_162 : decode prog_14_method_28_code 162 = .ok (.aload_n 0, 1) := by decide +kernel
theorem dX12_next0_163 : decode prog_14_method_28_code 163 = .ok (.getfield 81, 3) := by decide +kernel
theorem dX12_next0_166 : decode prog_14_method_28_code 166 = .ok (.invokevirtual 158, 3) := by decide +kernel
theorem dX12_next0_169 : decode prog_14_method_28_code 169 = .ok (.iadd, 1) := by decide +kernel
theorem dX12_next0_170 : decode prog_14_method_28_code 170 = .ok (.bipush 48, 2) := by decide +kernel
theorem dX12_next0_172 : decode prog_14_method_28_code 172 = .ok (.isub, 1) := by decide +kernel
theorem dX12_next0_173 : decode prog_14_method_28_code 173 = .ok (.putfield 174, 3) := by decide +kernel
theorem dX12_next0_176 : decode prog_14_method_28_code 176 = .ok (.aload_n 0, 1) := by decide +kernel
theorem dX12_next0_177 : decode prog_14_method_28_code 177 = .ok (.dup, 1) := by decide +kernel
theorem dX12_next0_178 : decode prog_14_method_28_code 178 = .ok (.getfield 81, 3) := by decide +kernel
theorem dX12_next0_181 : decode prog_14_method_28_code 181 = .ok (.iconst 1, 1) := by decide +kernel
theorem dX12_next0_182 : decode prog_14_method_28_code 182 = .ok (.iadd, 1) := by decide +kernel
theorem dX12_next0_183 : decode prog_14_method_28_code 183 = .ok (.putfield 81, 3) := by decide +kernel
theorem dX12_next0_186 : decode prog_14_method_28_code 186 = .ok (.goto (-60), 3) := by decide +kernel
theorem dX12_next0_189 : decode prog_14_method_28_code 189 = .ok (.aload_n 0, 1) := by decide +kernel
theorem dX12_next0_190 : decode prog_14_method_28_code 190 = .ok (.aload_n 0, 1) := by decide +kernel
theorem dX12_next0_191 : decode prog_14_method_28_code 191 = .ok (.getfield 81, 3) := by decide +kernel
theorem dX12_next0_194 : decode prog_14_method_28_code 194 = .ok (.aload_n 0, 1) := by decide +kernel
theorem dX12_next0_195 : decode prog_14_method_28_code 195 = .ok (.getfield 84, 3) := by decide +kernel
theorem dX12_next0_198 : decode prog_14_method_28_code 198 = .ok (.isub, 1) := by decide +kernel
theorem dX12_next0_199 : decode prog_14_method_28_code 199 = .ok (.iconst 5, 1) := by decide +kernel
theorem dX12_next0_200 : decode prog_14_method_28_code 200 = .ok (.if_icmp .ge 7, 3) := by decide +kernel
theorem dX12_next0_203 : decode prog_14_method_28_code 203 = .ok (.iconst 2, 1) := by decide +kernel
theorem dX12_next0_204 : decode prog_14_method_28_code 204 = .ok (.goto 4, 3) := by decide +kernel
theorem dX12_next0_207 : decode prog_14_method_28_code 207 = .ok (.iconst 1, 1) := by decide +kernel
theorem dX12_next0_208 : decode prog_14_method_28_code 208 = .ok (.putfield 162, 3) := by decide +kernel
theorem dX12_next0_211 : decode prog_14_method_28_code 211 = .ok (.goto 95, 3) := by decide +kernel
theorem dX12_next0_214 : decode prog_14_method_28_code 214 = .ok (.aload_n 0, 1) := by decide +kernel
theorem dX12_next0_215 : decode prog_14_method_28_code 215 = .ok (.dup, 1) := by decide +kernel
theorem dX12_next0_216 : decode prog_14_method_28_code 216 = .ok (.getfield 81, 3) := by decide +kernel
theorem dX12_next0_219 : decode prog_14_method_28_code 219 = .ok (.iconst 1, 1) := by decide +kernel
theorem dX12_next0_220 : decode prog_14_method_28_code 220 = .ok (.iadd, 1) := by decide +kernel
theorem dX12_next0_221 : decode prog_14_method_28_code 221 = .ok (.putfield 81, 3) := by decide +kernel
theorem dX12_next0_224 : decode prog_14_method_28_code 224 = .ok (.iload_n 1, 1) := by decide +kernel
theorem dX12_next0_225 : decode prog_14_method_28_code 225 = .ok (.bipush 59, 2) := by decide +kernel
theorem dX12_next0_227 : decode prog_14_method_28_code 227 = .ok (.if_icmp .eq 57, 3) := by decide +kernel
theorem dX12_next0_230 : decode prog_14_method_28_code 230 = .ok (.iload_n 1, 1) := by decide +kernel
theorem dX12_next0_231 : decode prog_14_method_28_code 231 = .ok (.bipush 43, 2) := by decide +kernel
theorem dX12_next0_233 : decode prog_14_method_28_code 233 = .ok (.if_icmp .eq 51, 3) := by decide +kernel
theorem dX12_next0_236 : decode prog_14_method_28_code 236 = .ok (.iload_n 1, 1) := by decide +kernel
theorem dX12_next0_237 : decode prog_14_method_28_code 237 = .ok (.bipush 45, 2) := by decide +kernel
theorem dX12_next0_239 : decode prog_14_method_28_code 239 = .ok (.if_icmp .eq 45, 3) := by decide +kernel
theorem dX12_next0_242 : decode prog_14_method_28_code 242 = .ok (.iload_n 1, 1) := by decide +kernel
theorem dX12_next0_243 : decode prog_14_method_28_code 243 = .ok (.bipush 42, 2) := by decide +kernel
theorem dX12_next0_245 : decode prog_14_method_28_code 245 = .ok (.if_icmp .eq 39, 3) := by decide +kernel
theorem dX12_next0_248 : decode prog_14_method_28_code 248 = .ok (.iload_n 1, 1) := by decide +kernel
theorem dX12_next0_249 : decode prog_14_method_28_code 249 = .ok (.bipush 47, 2) := by decide +kernel
theorem dX12_next0_251 : decode prog_14_method_28_code 251 = .ok (.if_icmp .eq 33, 3) := by decide +kernel
theorem dX12_next0_254 : decode prog_14_method_28_code 254 = .ok (.iload_n 1, 1) := by decide +kernel
theorem dX12_next0_255 : decode prog_14_method_28_code 255 = .ok (.bipush 40, 2) := by decide +kernel
theorem dX12_next0_257 : decode prog_14_method_28_code 257 = .ok (.if_icmp .eq 27, 3) := by decide +kernel
theorem dX12_next0_260 : decode prog_14_method_28_code 260 = .ok (.iload_n 1, 1) := by decide +kernel
theorem dX12_next0_261 : decode prog_14_method_28_code 261 = .ok (.bipush 41, 2) := by decide +kernel
theorem dX12_next0_263 : decode prog_14_method_28_code 263 = .ok (.if_icmp .eq 21, 3) := by decide +kernel
theorem dX12_next0_266 : decode prog_14_method_28_code 266 = .ok (.iload_n 1, 1) := by decide +kernel
theorem dX12_next0_267 : decode prog_14_method_28_code 267 = .ok (.bipush 60, 2) := by decide +kernel
theorem dX12_next0_269 : decode prog_14_method_28_code 269 = .ok (.if_icmp .eq 15, 3) := by decide +kernel
theorem dX12_next0_272 : decode prog_14_method_28_code 272 = .ok (.iload_n 1, 1) := by decide +kernel
theorem dX12_next0_273 : decode prog_14_method_28_code 273 = .ok (.bipush 61, 2) := by decide +kernel
theorem dX12_next0_275 : decode prog_14_method_28_code 275 = .ok (.if_icmp .eq 9, 3) := by decide +kernel
theorem dX12_next0_278 : decode prog_14_method_28_code 278 = .ok (.iload_n 1, 1) := by decide +kernel
theorem dX12_next0_279 : decode prog_14_method_28_code 279 = .ok (.bipush 62, 2) := by decide +kernel
theorem dX12_next0_281 : decode prog_14_method_28_code 281 = .ok (.if_icmp .ne 7, 3) := by decide +kernel
theorem dX12_next0_284 : decode prog_14_method_28_code 284 = .ok (.iconst 1, 1) := by decide +kernel
theorem dX12_next0_285 : decode prog_14_method_28_code 285 = .ok (.goto 4, 3) := by decide +kernel
theorem dX12_next0_288 : decode prog_14_method_28_code 288 = .ok (.iconst 0, 1) := by decide +kernel
theorem dX12_next0_289 : decode prog_14_method_28_code 289 = .ok (.istore_n 2, 1) := by decide +kernel
theorem dX12_next0_290 : decode prog_14_method_28_code 290 = .ok (.aload_n 0, 1) := by decide +kernel
theorem dX12_next0_291 : decode prog_14_method_28_code 291 = .ok (.iload_n 2, 1) := by decide +kernel
theorem dX12_next0_292 : decode prog_14_method_28_code 292 = .ok (.ifCond .eq 10, 3) := by decide +kernel
theorem dX12_next0_295 : decode prog_14_method_28_code 295 = .ok (.bipush 100, 2) := by decide +kernel
theorem dX12_next0_297 : decode prog_14_method_28_code 297 = .ok (.iload_n 1, 1) := by decide +kernel
theorem dX12_next0_298 : decode prog_14_method_28_code 298 = .ok (.iadd, 1) := by decide +kernel
theorem dX12_next0_299 : decode prog_14_method_28_code 299 = .ok (.goto 4, 3) := by decide +kernel
theorem dX12_next0_302 : decode prog_14_method_28_code 302 = .ok (.iconst 1, 1) := by decide +kernel
theorem dX12_next0_303 : decode prog_14_method_28_code 303 = .ok (.putfield 162, 3) := by decide +kernel
theorem dX12_next0_306 : decode prog_14_method_28_code 306 = .ok (.return_, 1) := by decide +kernel
theorem dX12_bad_0 : decode prog_14_method_29_code 0 = .ok (.aload_n 0, 1) := by decide +kernel
theorem dX12_bad_1 : decode prog_14_method_29_code 1 = .ok (.iload_n 1, 1) := by decide +kernel
theorem dX12_bad_2 : decode prog_14_method_29_code 2 = .ok (.putfield 177, 3) := by decide +kernel
theorem dX12_bad_5 : decode prog_14_method_29_code 5 = .ok (.aload_n 0, 1) := by decide +kernel
theorem dX12_bad_6 : decode prog_14_method_29_code 6 = .ok (.aload_n 0, 1) := by decide +kernel
theorem dX12_bad_7 : decode prog_14_method_29_code 7 = .ok (.getfield 84, 3) := by decide +kernel
theorem dX12_bad_10 : decode prog_14_method_29_code 10 = .ok (.putfield 180, 3) := by decide +kernel
theorem dX12_bad_13 : decode prog_14_method_29_code 13 = .ok (.iconst 0, 1) := by decide +kernel
theorem dX12_bad_14 : decode prog_14_method_29_code 14 = .ok (.ireturn, 1) := by decide +kernel
theorem dX12_need_0 : decode prog_14_method_30_code 0 = .ok (.aload_n 0, 1) := by decide +kernel
theorem dX12_need_1 : decode prog_14_method_30_code 1 = .ok (.getfield 162, 3) := by decide +kernel
theorem dX12_need_4 : decode prog_14_method_30_code 4 = .ok (.iload_n 1, 1) := by decide +kernel
theorem dX12_need_5 : decode prog_14_method_30_code 5 = .ok (.if_icmp .eq 9, 3) := by decide +kernel
theorem dX12_need_8 : decode prog_14_method_30_code 8 = .ok (.aload_n 0, 1) := by decide +kernel
theorem dX12_need_9 : decode prog_14_method_30_code 9 = .ok (.iconst 1, 1) := by decide +kernel
theorem dX12_need_10 : decode prog_14_method_30_code 10 = .ok (.invokevirtual 183, 3) := by decide +kernel
theorem dX12_need_13 : decode prog_14_method_30_code 13 = .ok (.ireturn, 1) := by decide +kernel
theorem dX12_need_14 : decode prog_14_method_30_code 14 = .ok (.aload_n 0, 1) := by decide +kernel
theorem dX12_need_15 : decode prog_14_method_30_code 15 = .ok (.invokevirtual 186, 3) := by decide +kernel
theorem dX12_need_18 : decode prog_14_method_30_code 18 = .ok (.iconst 1, 1) := by decide +kernel
theorem dX12_need_19 : decode prog_14_method_30_code 19 = .ok (.ireturn, 1) := by decide +kernel
theorem dX12_lay_0 : decode prog_14_method_31_code 0 = .ok (.aload_n 0, 1) := by decide +kernel
theorem dX12_lay_1 : decode prog_14_method_31_code 1 = .ok (.getfield 25, 3) := by decide +kernel
theorem dX12_lay_4 : decode prog_14_method_31_code 4 = .ok (.iconst 2, 1) := by decide +kernel
theorem dX12_lay_5 : decode prog_14_method_31_code 5 = .ok (.aload_n 0, 1) := by decide +kernel
theorem dX12_lay_6 : decode prog_14_method_31_code 6 = .ok (.getfield 189, 3) := by decide +kernel
theorem dX12_lay_9 : decode prog_14_method_31_code 9 = .ok (.imul, 1) := by decide +kernel
theorem dX12_lay_10 : decode prog_14_method_31_code 10 = .ok (.iload_n 1, 1) := by decide +kernel
theorem dX12_lay_11 : decode prog_14_method_31_code 11 = .ok (.iastore, 1) := by decide +kernel
theorem dX12_lay_12 : decode prog_14_method_31_code 12 = .ok (.aload_n 0, 1) := by decide +kernel
theorem dX12_lay_13 : decode prog_14_method_31_code 13 = .ok (.getfield 25, 3) := by decide +kernel
theorem dX12_lay_16 : decode prog_14_method_31_code 16 = .ok (.iconst 2, 1) := by decide +kernel
theorem dX12_lay_17 : decode prog_14_method_31_code 17 = .ok (.aload_n 0, 1) := by decide +kernel
theorem dX12_lay_18 : decode prog_14_method_31_code 18 = .ok (.getfield 189, 3) := by decide +kernel
theorem dX12_lay_21 : decode prog_14_method_31_code 21 = .ok (.imul, 1) := by decide +kernel
theorem dX12_lay_22 : decode prog_14_method_31_code 22 = .ok (.iconst 1, 1) := by decide +kernel
theorem dX12_lay_23 : decode prog_14_method_31_code 23 = .ok (.iadd, 1) := by decide +kernel
theorem dX12_lay_24 : decode prog_14_method_31_code 24 = .ok (.iload_n 2, 1) := by decide +kernel
theorem dX12_lay_25 : decode prog_14_method_31_code 25 = .ok (.iastore, 1) := by decide +kernel
theorem dX12_lay_26 : decode prog_14_method_31_code 26 = .ok (.aload_n 0, 1) := by decide +kernel
theorem dX12_lay_27 : decode prog_14_method_31_code 27 = .ok (.dup, 1) := by decide +kernel
theorem dX12_lay_28 : decode prog_14_method_31_code 28 = .ok (.getfield 189, 3) := by decide +kernel
theorem dX12_lay_31 : decode prog_14_method_31_code 31 = .ok (.iconst 1, 1) := by decide +kernel
theorem dX12_lay_32 : decode prog_14_method_31_code 32 = .ok (.iadd, 1) := by decide +kernel
theorem dX12_lay_33 : decode prog_14_method_31_code 33 = .ok (.putfield 189, 3) := by decide +kernel
theorem dX12_lay_36 : decode prog_14_method_31_code 36 = .ok (.return_, 1) := by decide +kernel
theorem dX12_opens_0 : decode prog_14_method_32_code 0 = .ok (.aload_n 0, 1) := by decide +kernel
theorem dX12_opens_1 : decode prog_14_method_32_code 1 = .ok (.getfield 192, 3) := by decide +kernel
theorem dX12_opens_4 : decode prog_14_method_32_code 4 = .ok (.bipush 8, 2) := by decide +kernel
theorem dX12_opens_6 : decode prog_14_method_32_code 6 = .ok (.if_icmp .ne 9, 3) := by decide +kernel
theorem dX12_opens_9 : decode prog_14_method_32_code 9 = .ok (.aload_n 0, 1) := by decide +kernel
theorem dX12_opens_10 : decode prog_14_method_32_code 10 = .ok (.iconst 3, 1) := by decide +kernel
theorem dX12_opens_11 : decode prog_14_method_32_code 11 = .ok (.invokevirtual 183, 3) := by decide +kernel
theorem dX12_opens_14 : decode prog_14_method_32_code 14 = .ok (.ireturn, 1) := by decide +kernel
theorem dX12_opens_15 : decode prog_14_method_32_code 15 = .ok (.aload_n 0, 1) := by decide +kernel
theorem dX12_opens_16 : decode prog_14_method_32_code 16 = .ok (.dup, 1) := by decide +kernel
theorem dX12_opens_17 : decode prog_14_method_32_code 17 = .ok (.getfield 192, 3) := by decide +kernel
theorem dX12_opens_20 : decode prog_14_method_32_code 20 = .ok (.iconst 1, 1) := by decide +kernel
theorem dX12_opens_21 : decode prog_14_method_32_code 21 = .ok (.iadd, 1) := by decide +kernel
theorem dX12_opens_22 : decode prog_14_method_32_code 22 = .ok (.putfield 192, 3) := by decide +kernel
theorem dX12_opens_25 : decode prog_14_method_32_code 25 = .ok (.aload_n 0, 1) := by decide +kernel
theorem dX12_opens_26 : decode prog_14_method_32_code 26 = .ok (.invokevirtual 186, 3) := by decide +kernel
theorem dX12_opens_29 : decode prog_14_method_32_code 29 = .ok (.iconst 1, 1) := by decide +kernel
theorem dX12_opens_30 : decode prog_14_method_32_code 30 = .ok (.ireturn, 1) := by decide +kernel
theorem dX12_sumUp_0 : decode prog_14_method_33_code 0 = .ok (.aload_n 0, 1) := by decide +kernel
theorem dX12_sumUp_1 : decode prog_14_method_33_code 1 = .ok (.invokevirtual 195, 3) := by decide +kernel
theorem dX12_sumUp_4 : decode prog_14_method_33_code 4 = .ok (.ifCond .ne 5, 3) := by decide +kernel
theorem dX12_sumUp_7 : decode prog_14_method_33_code 7 = .ok (.iconst 0, 1) := by decide +kernel
theorem dX12_sumUp_8 : decode prog_14_method_33_code 8 = .ok (.ireturn, 1) := by decide +kernel
theorem dX12_sumUp_9 : decode prog_14_method_33_code 9 = .ok (.aload_n 0, 1) := by decide +kernel
theorem dX12_sumUp_10 : decode prog_14_method_33_code 10 = .ok (.getfield 162, 3) := by decide +kernel
theorem dX12_sumUp_13 : decode prog_14_method_33_code 13 = .ok (.sipush 143, 3) := by decide +kernel
theorem dX12_sumUp_16 : decode prog_14_method_33_code 16 = .ok (.if_icmp .eq 13, 3) := by decide +kernel
theorem dX12_sumUp_19 : decode prog_14_method_33_code 19 = .ok (.aload_n 0, 1) := by decide +kernel
theorem dX12_sumUp_20 : decode prog_14_method_33_code 20 = .ok (.getfield 162, 3) := by decide +kernel
theorem dX12_sumUp_23 : decode prog_14_method_33_code 23 = .ok (.sipush 145, 3) := by decide +kernel
theorem dX12_sumUp_26 : decode prog_14_method_33_code 26 = .ok (.if_icmp .ne 43, 3) := by decide +kernel
theorem dX12_sumUp_29 : decode prog_14_method_33_code 29 = .ok (.aload_n 0, 1) := by decide +kernel
theorem dX12_sumUp_30 : decode prog_14_method_33_code 30 = .ok (.getfield 162, 3) := by decide +kernel
theorem dX12_sumUp_33 : decode prog_14_method_33_code 33 = .ok (.sipush 143, 3) := by decide +kernel
theorem dX12_sumUp_36 : decode prog_14_method_33_code 36 = .ok (.if_icmp .ne 8, 3) := by decide +kernel
theorem dX12_sumUp_39 : decode prog_14_method_33_code 39 = .ok (.bipush 23, 2) := by decide +kernel
theorem dX12_sumUp_41 : decode prog_14_method_33_code 41 = .ok (.goto 5, 3) := by decide +kernel
theorem dX12_sumUp_44 : decode prog_14_method_33_code 44 = .ok (.bipush 24, 2) := by decide +kernel
theorem dX12_sumUp_46 : decode prog_14_method_33_code 46 = .ok (.istore_n 1, 1) := by decide +kernel
theorem dX12_sumUp_47 : decode prog_14_method_33_code 47 = .ok (.aload_n 0, 1) := by decide +kernel
theorem dX12_sumUp_48 : decode prog_14_method_33_code 48 = .ok (.invokevirtual 186, 3) := by decide +kernel
theorem dX12_sumUp_51 : decode prog_14_method_33_code 51 = .ok (.aload_n 0, 1) := by decide +kernel
theorem dX12_sumUp_52 : decode prog_14_method_33_code 52 = .ok (.invokevirtual 195, 3) := by decide +kernel
theorem dX12_sumUp_55 : decode prog_14_method_33_code 55 = .ok (.ifCond .ne 5, 3) := by decide +kernel
theorem dX12_sumUp_58 : decode prog_14_method_33_code 58 = .ok (.iconst 0, 1) := by decide +kernel
theorem dX12_sumUp_59 : decode prog_14_method_33_code 59 = .ok (.ireturn, 1) := by decide +kernel
theorem dX12_sumUp_60 : decode prog_14_method_33_code 60 = .ok (.aload_n 0, 1) := by decide +kernel
theorem dX12_sumUp_61 : decode prog_14_method_33_code 61 = .ok (.iload_n 1, 1) := by decide +kernel
theorem dX12_sumUp_62 : decode prog_14_method_33_code 62 = .ok (.iconst 0, 1) := by decide +kernel
theorem dX12_sumUp_63 : decode prog_14_method_33_code 63 = .ok (.invokevirtual 199, 3) := by decide +kernel
theorem dX12_sumUp_66 : decode prog_14_method_33_code 66 = .ok (.goto (-57), 3) := by decide +kernel
theorem dX12_sumUp_69 : decode prog_14_method_33_code 69 = .ok (.iconst 1, 1) := by decide +kernel
theorem dX12_sumUp_70 : decode prog_14_method_33_code 70 = .ok (.ireturn, 1) := by decide +kernel
theorem dX12_product_0 : decode prog_14_method_34_code 0 = .ok (.aload_n 0, 1) := by decide +kernel
theorem dX12_product_1 : decode prog_14_method_34_code 1 = .ok (.invokevirtual 203, 3) := by decide +kernel
theorem dX12_product_4 : decode prog_14_method_34_code 4 = .ok (.ifCond .ne 5, 3) := by decide +kernel
theorem dX12_product_7 : decode prog_14_method_34_code 7 = .ok (.iconst 0, 1) := by decide +kernel
theorem dX12_product_8 : decode prog_14_method_34_code 8 = .ok (.ireturn, 1) := by decide +kernel
theorem dX12_product_9 : decode prog_14_method_34_code 9 = .ok (.aload_n 0, 1) := by decide +kernel
theorem dX12_product_10 : decode prog_14_method_34_code 10 = .ok (.getfield 162, 3) := by decide +kernel
theorem dX12_product_13 : decode prog_14_method_34_code 13 = .ok (.sipush 142, 3) := by decide +kernel
theorem dX12_product_16 : decode prog_14_method_34_code 16 = .ok (.if_icmp .eq 13, 3) := by decide +kernel
theorem dX12_product_19 : decode prog_14_method_34_code 19 = .ok (.aload_n 0, 1) := by decide +kernel
theorem dX12_product_20 : decode prog_14_method_34_code 20 = .ok (.getfield 162, 3) := by decide +kernel
theorem dX12_product_23 : decode prog_14_method_34_code 23 = .ok (.sipush 147, 3) := by decide +kernel
theorem dX12_product_26 : decode prog_14_method_34_code 26 = .ok (.if_icmp .ne 89, 3) := by decide +kernel
theorem dX12_product_29 : decode prog_14_method_34_code 29 = .ok (.aload_n 0, 1) := by decide +kernel
theorem dX12_product_30 : decode prog_14_method_34_code 30 = .ok (.getfield 162, 3) := by decide +kernel
theorem dX12_product_33 : decode prog_14_method_34_code 33 = .ok (.sipush 147, 3) := by decide +kernel
theorem dX12_product_36 : decode prog_14_method_34_code 36 = .ok (.if_icmp .ne 7, 3) := by decide +kernel
theorem dX12_product_39 : decode prog_14_method_34_code 39 = .ok (.iconst 1, 1) := by decide +kernel
theorem dX12_product_40 : decode prog_14_method_34_code 40 = .ok (.goto 4, 3) := by decide +kernel
theorem dX12_product_43 : decode prog_14_method_34_code 43 = .ok (.iconst 0, 1) := by decide +kernel
theorem dX12_product_44 : decode prog_14_method_34_code 44 = .ok (.istore_n 1, 1) := by decide +kernel
theorem dX12_product_45 : decode prog_14_method_34_code 45 = .ok (.aload_n 0, 1) := by decide +kernel
theorem dX12_product_46 : decode prog_14_method_34_code 46 = .ok (.invokevirtual 186, 3) := by decide +kernel
theorem dX12_product_49 : decode prog_14_method_34_code 49 = .ok (.iload_n 1, 1) := by decide +kernel
theorem dX12_product_50 : decode prog_14_method_34_code 50 = .ok (.ifCond .eq 46, 3) := by decide +kernel
theorem dX12_product_53 : decode prog_14_method_34_code 53 = .ok (.aload_n 0, 1) := by decide +kernel
theorem dX12_product_54 : decode prog_14_method_34_code 54 = .ok (.getfield 174, 3) := by decide +kernel
theorem dX12_product_57 : decode prog_14_method_34_code 57 = .ok (.istore_n 2, 1) := by decide +kernel
theorem dX12_product_58 : decode prog_14_method_34_code 58 = .ok (.aload_n 0, 1) := by decide +kernel
theorem dX12_product_59 : decode prog_14_method_34_code 59 = .ok (.getfield 162, 3) := by decide +kernel
theorem dX12_product_62 : decode prog_14_method_34_code 62 = .ok (.iconst 2, 1) := by decide +kernel
theorem dX12_product_63 : decode prog_14_method_34_code 63 = .ok (.if_icmp .eq 9, 3) := by decide +kernel
theorem dX12_product_66 : decode prog_14_method_34_code 66 = .ok (.aload_n 0, 1) := by decide +kernel
theorem dX12_product_67 : decode prog_14_method_34_code 67 = .ok (.iconst 1, 1) := by decide +kernel
theorem dX12_product_68 : decode prog_14_method_34_code 68 = .ok (.invokevirtual 183, 3) := by decide +kernel
theorem dX12_product_71 : decode prog_14_method_34_code 71 = .ok (.ireturn, 1) := by decide +kernel
theorem dX12_product_72 : decode prog_14_method_34_code 72 = .ok (.iload_n 2, 1) := by decide +kernel
theorem dX12_product_73 : decode prog_14_method_34_code 73 = .ok (.ifCond .ne 9, 3) := by decide +kernel
theorem dX12_product_76 : decode prog_14_method_34_code 76 = .ok (.aload_n 0, 1) := by decide +kernel
theorem dX12_product_77 : decode prog_14_method_34_code 77 = .ok (.iconst 2, 1) := by decide +kernel
theorem dX12_product_78 : decode prog_14_method_34_code 78 = .ok (.invokevirtual 183, 3) := by decide +kernel
theorem dX12_product_81 : decode prog_14_method_34_code 81 = .ok (.ireturn, 1) := by decide +kernel
theorem dX12_product_82 : decode prog_14_method_34_code 82 = .ok (.aload_n 0, 1) := by decide +kernel
theorem dX12_product_83 : decode prog_14_method_34_code 83 = .ok (.invokevirtual 186, 3) := by decide +kernel
theorem dX12_product_86 : decode prog_14_method_34_code 86 = .ok (.aload_n 0, 1) := by decide +kernel
theorem dX12_product_87 : decode prog_14_method_34_code 87 = .ok (.bipush 26, 2) := by decide +kernel
theorem dX12_product_89 : decode prog_14_method_34_code 89 = .ok (.iload_n 2, 1) := by decide +kernel
theorem dX12_product_90 : decode prog_14_method_34_code 90 = .ok (.invokevirtual 199, 3) := by decide +kernel
theorem dX12_product_93 : decode prog_14_method_34_code 93 = .ok (.goto 19, 3) := by decide +kernel
theorem dX12_product_96 : decode prog_14_method_34_code 96 = .ok (.aload_n 0, 1) := by decide +kernel
theorem dX12_product_97 : decode prog_14_method_34_code 97 = .ok (.invokevirtual 203, 3) := by decide +kernel
theorem dX12_product_100 : decode prog_14_method_34_code 100 = .ok (.ifCond .ne 5, 3) := by decide +kernel
theorem dX12_product_103 : decode prog_14_method_34_code 103 = .ok (.iconst 0, 1) := by decide +kernel
theorem dX12_product_104 : decode prog_14_method_34_code 104 = .ok (.ireturn, 1) := by decide +kernel
theorem dX12_product_105 : decode prog_14_method_34_code 105 = .ok (.aload_n 0, 1) := by decide +kernel
theorem dX12_product_106 : decode prog_14_method_34_code 106 = .ok (.bipush 25, 2) := by decide +kernel
theorem dX12_product_108 : decode prog_14_method_34_code 108 = .ok (.iconst 0, 1) := by decide +kernel
theorem dX12_product_109 : decode prog_14_method_34_code 109 = .ok (.invokevirtual 199, 3) := by decide +kernel
theorem dX12_product_112 : decode prog_14_method_34_code 112 = .ok (.goto (-103), 3) := by decide +kernel
theorem dX12_product_115 : decode prog_14_method_34_code 115 = .ok (.iconst 1, 1) := by decide +kernel
theorem dX12_product_116 : decode prog_14_method_34_code 116 = .ok (.ireturn, 1) := by decide +kernel
theorem dX12_unit_0 : decode prog_14_method_35_code 0 = .ok (.aload_n 0, 1) := by decide +kernel
theorem dX12_unit_1 : decode prog_14_method_35_code 1 = .ok (.getfield 162, 3) := by decide +kernel
theorem dX12_unit_4 : decode prog_14_method_35_code 4 = .ok (.bipush 41, 2) := by decide +kernel
theorem dX12_unit_6 : decode prog_14_method_35_code 6 = .ok (.bipush 50, 2) := by decide +kernel
theorem dX12_unit_8 : decode prog_14_method_35_code 8 = .ok (.invokestatic 56, 3) := by decide +kernel
theorem dX12_unit_11 : decode prog_14_method_35_code 11 = .ok (.istore_n 1, 1) := by decide +kernel
theorem dX12_unit_12 : decode prog_14_method_35_code 12 = .ok (.aload_n 0, 1) := by decide +kernel
theorem dX12_unit_13 : decode prog_14_method_35_code 13 = .ok (.getfield 162, 3) := by decide +kernel
theorem dX12_unit_16 : decode prog_14_method_35_code 16 = .ok (.iconst 2, 1) := by decide +kernel
theorem dX12_unit_17 : decode prog_14_method_35_code 17 = .ok (.if_icmp .eq 13, 3) := by decide +kernel
theorem dX12_unit_20 : decode prog_14_method_35_code 20 = .ok (.iload_n 1, 1) := by decide +kernel
theorem dX12_unit_21 : decode prog_14_method_35_code 21 = .ok (.ifCond .ne 9, 3) := by decide +kernel
theorem dX12_unit_24 : decode prog_14_method_35_code 24 = .ok (.aload_n 0, 1) := by decide +kernel
theorem dX12_unit_25 : decode prog_14_method_35_code 25 = .ok (.iconst 1, 1) := by decide +kernel
theorem dX12_unit_26 : decode prog_14_method_35_code 26 = .ok (.invokevirtual 183, 3) := by decide +kernel
theorem dX12_unit_29 : decode prog_14_method_35_code 29 = .ok (.ireturn, 1) := by decide +kernel
theorem dX12_unit_30 : decode prog_14_method_35_code 30 = .ok (.aload_n 0, 1) := by decide +kernel
theorem dX12_unit_31 : decode prog_14_method_35_code 31 = .ok (.iload_n 1, 1) := by decide +kernel
theorem dX12_unit_32 : decode prog_14_method_35_code 32 = .ok (.ifCond .eq 13, 3) := by decide +kernel
theorem dX12_unit_35 : decode prog_14_method_35_code 35 = .ok (.aload_n 0, 1) := by decide +kernel
theorem dX12_unit_36 : decode prog_14_method_35_code 36 = .ok (.getfield 162, 3) := by decide +kernel
theorem dX12_unit_39 : decode prog_14_method_35_code 39 = .ok (.bipush 40, 2) := by decide +kernel
theorem dX12_unit_41 : decode prog_14_method_35_code 41 = .ok (.isub, 1) := by decide +kernel
theorem dX12_unit_42 : decode prog_14_method_35_code 42 = .ok (.goto 4, 3) := by decide +kernel
theorem dX12_unit_45 : decode prog_14_method_35_code 45 = .ok (.iconst 0, 1) := by decide +kernel
theorem dX12_unit_46 : decode prog_14_method_35_code 46 = .ok (.aload_n 0, 1) := by decide +kernel
theorem dX12_unit_47 : decode prog_14_method_35_code 47 = .ok (.getfield 174, 3) := by decide +kernel
theorem dX12_unit_50 : decode prog_14_method_35_code 50 = .ok (.invokevirtual 199, 3) := by decide +kernel
theorem dX12_unit_53 : decode prog_14_method_35_code 53 = .ok (.aload_n 0, 1) := by decide +kernel
theorem dX12_unit_54 : decode prog_14_method_35_code 54 = .ok (.invokevirtual 186, 3) := by decide +kernel
theorem dX12_unit_57 : decode prog_14_method_35_code 57 = .ok (.iconst 1, 1) := by decide +kernel
theorem dX12_unit_58 : decode prog_14_method_35_code 58 = .ok (.ireturn, 1) := by decide +kernel
theorem dX12_any_0 : decode prog_14_method_36_code 0 = .ok (.aload_n 0, 1) := by decide +kernel
theorem dX12_any_1 : decode prog_14_method_36_code 1 = .ok (.invokevirtual 206, 3) := by decide +kernel
theorem dX12_any_4 : decode prog_14_method_36_code 4 = .ok (.ifCond .ne 5, 3) := by decide +kernel
theorem dX12_any_7 : decode prog_14_method_36_code 7 = .ok (.iconst 0, 1) := by decide +kernel
theorem dX12_any_8 : decode prog_14_method_36_code 8 = .ok (.ireturn, 1) := by decide +kernel
theorem dX12_any_9 : decode prog_14_method_36_code 9 = .ok (.aload_n 0, 1) := by decide +kernel
theorem dX12_any_10 : decode prog_14_method_36_code 10 = .ok (.getfield 162, 3) := by decide +kernel
theorem dX12_any_13 : decode prog_14_method_36_code 13 = .ok (.iconst 4, 1) := by decide +kernel
theorem dX12_any_14 : decode prog_14_method_36_code 14 = .ok (.if_icmp .ne 26, 3) := by decide +kernel
theorem dX12_any_17 : decode prog_14_method_36_code 17 = .ok (.aload_n 0, 1) := by decide +kernel
theorem dX12_any_18 : decode prog_14_method_36_code 18 = .ok (.invokevirtual 186, 3) := by decide +kernel
theorem dX12_any_21 : decode prog_14_method_36_code 21 = .ok (.aload_n 0, 1) := by decide +kernel
theorem dX12_any_22 : decode prog_14_method_36_code 22 = .ok (.invokevirtual 206, 3) := by decide +kernel
theorem dX12_any_25 : decode prog_14_method_36_code 25 = .ok (.ifCond .ne 5, 3) := by decide +kernel
theorem dX12_any_28 : decode prog_14_method_36_code 28 = .ok (.iconst 0, 1) := by decide +kernel
theorem dX12_any_29 : decode prog_14_method_36_code 29 = .ok (.ireturn, 1) := by decide +kernel
theorem dX12_any_30 : decode prog_14_method_36_code 30 = .ok (.aload_n 0, 1) := by decide +kernel
theorem dX12_any_31 : decode prog_14_method_36_code 31 = .ok (.bipush 32, 2) := by decide +kernel
theorem dX12_any_33 : decode prog_14_method_36_code 33 = .ok (.iconst 0, 1) := by decide +kernel
theorem dX12_any_34 : decode prog_14_method_36_code 34 = .ok (.invokevirtual 199, 3) := by decide +kernel
theorem dX12_any_37 : decode prog_14_method_36_code 37 = .ok (.goto (-28), 3) := by decide +kernel
theorem dX12_any_40 : decode prog_14_method_36_code 40 = .ok (.iconst 1, 1) := by decide +kernel
theorem dX12_any_41 : decode prog_14_method_36_code 41 = .ok (.ireturn, 1) := by decide +kernel
theorem dX12_every_0 : decode prog_14_method_37_code 0 = .ok (.aload_n 0, 1) := by decide +kernel
theorem dX12_every_1 : decode prog_14_method_37_code 1 = .ok (.invokevirtual 209, 3) := by decide +kernel
theorem dX12_every_4 : decode prog_14_method_37_code 4 = .ok (.ifCond .ne 5, 3) := by decide +kernel
theorem dX12_every_7 : decode prog_14_method_37_code 7 = .ok (.iconst 0, 1) := by decide +kernel
theorem dX12_every_8 : decode prog_14_method_37_code 8 = .ok (.ireturn, 1) := by decide +kernel
theorem dX12_every_9 : decode prog_14_method_37_code 9 = .ok (.aload_n 0, 1) := by decide +kernel
theorem dX12_every_10 : decode prog_14_method_37_code 10 = .ok (.getfield 162, 3) := by decide +kernel
theorem dX12_every_13 : decode prog_14_method_37_code 13 = .ok (.iconst 5, 1) := by decide +kernel
theorem dX12_every_14 : decode prog_14_method_37_code 14 = .ok (.if_icmp .ne 26, 3) := by decide +kernel
theorem dX12_every_17 : decode prog_14_method_37_code 17 = .ok (.aload_n 0, 1) := by decide +kernel
theorem dX12_every_18 : decode prog_14_method_37_code 18 = .ok (.invokevirtual 186, 3) := by decide +kernel
theorem dX12_every_21 : decode prog_14_method_37_code 21 = .ok (.aload_n 0, 1) := by decide +kernel
theorem dX12_every_22 : decode prog_14_method_37_code 22 = .ok (.invokevirtual 209, 3) := by decide +kernel
theorem dX12_every_25 : decode prog_14_method_37_code 25 = .ok (.ifCond .ne 5, 3) := by decide +kernel
theorem dX12_every_28 : decode prog_14_method_37_code 28 = .ok (.iconst 0, 1) := by decide +kernel
theorem dX12_every_29 : decode prog_14_method_37_code 29 = .ok (.ireturn, 1) := by decide +kernel
theorem dX12_every_30 : decode prog_14_method_37_code 30 = .ok (.aload_n 0, 1) := by decide +kernel
theorem dX12_every_31 : decode prog_14_method_37_code 31 = .ok (.bipush 31, 2) := by decide +kernel
theorem dX12_every_33 : decode prog_14_method_37_code 33 = .ok (.iconst 0, 1) := by decide +kernel
theorem dX12_every_34 : decode prog_14_method_37_code 34 = .ok (.invokevirtual 199, 3) := by decide +kernel
theorem dX12_every_37 : decode prog_14_method_37_code 37 = .ok (.goto (-28), 3) := by decide +kernel
theorem dX12_every_40 : decode prog_14_method_37_code 40 = .ok (.iconst 1, 1) := by decide +kernel
theorem dX12_every_41 : decode prog_14_method_37_code 41 = .ok (.ireturn, 1) := by decide +kernel
theorem dX12_oneTest_0 : decode prog_14_method_38_code 0 = .ok (.aload_n 0, 1) := by decide +kernel
theorem dX12_oneTest_1 : decode prog_14_method_38_code 1 = .ok (.getfield 162, 3) := by decide +kernel
theorem dX12_oneTest_4 : decode prog_14_method_38_code 4 = .ok (.bipush 6, 2) := by decide +kernel
theorem dX12_oneTest_6 : decode prog_14_method_38_code 6 = .ok (.if_icmp .ne 38, 3) := by decide +kernel
theorem dX12_oneTest_9 : decode prog_14_method_38_code 9 = .ok (.aload_n 0, 1) := by decide +kernel
theorem dX12_oneTest_10 : decode prog_14_method_38_code 10 = .ok (.invokevirtual 212, 3) := by decide +kernel
theorem dX12_oneTest_13 : decode prog_14_method_38_code 13 = .ok (.ifCond .eq 10, 3) := by decide +kernel
theorem dX12_oneTest_16 : decode prog_14_method_38_code 16 = .ok (.aload_n 0, 1) := by decide +kernel
theorem dX12_oneTest_17 : decode prog_14_method_38_code 17 = .ok (.invokevirtual 209, 3) := by decide +kernel
theorem dX12_oneTest_20 : decode prog_14_method_38_code 20 = .ok (.ifCond .ne 5, 3) := by decide +kernel
theorem dX12_oneTest_23 : decode prog_14_method_38_code 23 = .ok (.iconst 0, 1) := by decide +kernel
theorem dX12_oneTest_24 : decode prog_14_method_38_code 24 = .ok (.ireturn, 1) := by decide +kernel
theorem dX12_oneTest_25 : decode prog_14_method_38_code 25 = .ok (.aload_n 0, 1) := by decide +kernel
theorem dX12_oneTest_26 : decode prog_14_method_38_code 26 = .ok (.dup, 1) := by decide +kernel
theorem dX12_oneTest_27 : decode prog_14_method_38_code 27 = .ok (.getfield 192, 3) := by decide +kernel
theorem dX12_oneTest_30 : decode prog_14_method_38_code 30 = .ok (.iconst 1, 1) := by decide +kernel
theorem dX12_oneTest_31 : decode prog_14_method_38_code 31 = .ok (.isub, 1) := by decide +kernel
theorem dX12_oneTest_32 : decode prog_14_method_38_code 32 = .ok (.putfield 192, 3) := by decide +kernel
theorem dX12_oneTest_35 : decode prog_14_method_38_code 35 = .ok (.aload_n 0, 1) := by decide +kernel
theorem dX12_oneTest_36 : decode prog_14_method_38_code 36 = .ok (.bipush 30, 2) := by decide +kernel
theorem dX12_oneTest_38 : decode prog_14_method_38_code 38 = .ok (.iconst 0, 1) := by decide +kernel
theorem dX12_oneTest_39 : decode prog_14_method_38_code 39 = .ok (.invokevirtual 199, 3) := by decide +kernel
theorem dX12_oneTest_42 : decode prog_14_method_38_code 42 = .ok (.iconst 1, 1) := by decide +kernel
theorem dX12_oneTest_43 : decode prog_14_method_38_code 43 = .ok (.ireturn, 1) := by decide +kernel
theorem dX12_oneTest_44 : decode prog_14_method_38_code 44 = .ok (.aload_n 0, 1) := by decide +kernel
theorem dX12_oneTest_45 : decode prog_14_method_38_code 45 = .ok (.getfield 162, 3) := by decide +kernel
theorem dX12_oneTest_48 : decode prog_14_method_38_code 48 = .ok (.sipush 140, 3) := by decide +kernel
theorem dX12_oneTest_51 : decode prog_14_method_38_code 51 = .ok (.if_icmp .ne 41, 3) := by decide +kernel
theorem dX12_oneTest_54 : decode prog_14_method_38_code 54 = .ok (.aload_n 0, 1) := by decide +kernel
theorem dX12_oneTest_55 : decode prog_14_method_38_code 55 = .ok (.invokevirtual 212, 3) := by decide +kernel
theorem dX12_oneTest_58 : decode prog_14_method_38_code 58 = .ok (.ifCond .eq 20, 3) := by decide +kernel
theorem dX12_oneTest_61 : decode prog_14_method_38_code 61 = .ok (.aload_n 0, 1) := by decide +kernel
theorem dX12_oneTest_62 : decode prog_14_method_38_code 62 = .ok (.invokevirtual 215, 3) := by decide +kernel
theorem dX12_oneTest_65 : decode prog_14_method_38_code 65 = .ok (.ifCond .eq 13, 3) := by decide +kernel
theorem dX12_oneTest_68 : decode prog_14_method_38_code 68 = .ok (.aload_n 0, 1) := by decide +kernel
theorem dX12_oneTest_69 : decode prog_14_method_38_code 69 = .ok (.sipush 141, 3) := by decide +kernel
theorem dX12_oneTest_72 : decode prog_14_method_38_code 72 = .ok (.invokevirtual 218, 3) := by decide +kernel
theorem dX12_oneTest_75 : decode prog_14_method_38_code 75 = .ok (.ifCond .ne 5, 3) := by decide +kernel
theorem dX12_oneTest_78 : decode prog_14_method_38_code 78 = .ok (.iconst 0, 1) := by decide +kernel
theorem dX12_oneTest_79 : decode prog_14_method_38_code 79 = .ok (.ireturn, 1) := by decide +kernel
theorem dX12_oneTest_80 : decode prog_14_method_38_code 80 = .ok (.aload_n 0, 1) := by decide +kernel
theorem dX12_oneTest_81 : decode prog_14_method_38_code 81 = .ok (.dup, 1) := by decide +kernel
theorem dX12_oneTest_82 : decode prog_14_method_38_code 82 = .ok (.getfield 192, 3) := by decide +kernel
theorem dX12_oneTest_85 : decode prog_14_method_38_code 85 = .ok (.iconst 1, 1) := by decide +kernel
theorem dX12_oneTest_86 : decode prog_14_method_38_code 86 = .ok (.isub, 1) := by decide +kernel
theorem dX12_oneTest_87 : decode prog_14_method_38_code 87 = .ok (.putfield 192, 3) := by decide +kernel
theorem dX12_oneTest_90 : decode prog_14_method_38_code 90 = .ok (.iconst 1, 1) := by decide +kernel
theorem dX12_oneTest_91 : decode prog_14_method_38_code 91 = .ok (.ireturn, 1) := by decide +kernel
theorem dX12_oneTest_92 : decode prog_14_method_38_code 92 = .ok (.aload_n 0, 1) := by decide +kernel
theorem dX12_oneTest_93 : decode prog_14_method_38_code 93 = .ok (.invokevirtual 221, 3) := by decide +kernel
theorem dX12_oneTest_96 : decode prog_14_method_38_code 96 = .ok (.ifCond .ne 5, 3) := by decide +kernel
theorem dX12_oneTest_99 : decode prog_14_method_38_code 99 = .ok (.iconst 0, 1) := by decide +kernel
theorem dX12_oneTest_100 : decode prog_14_method_38_code 100 = .ok (.ireturn, 1) := by decide +kernel
theorem dX12_oneTest_101 : decode prog_14_method_38_code 101 = .ok (.aload_n 0, 1) := by decide +kernel
theorem dX12_oneTest_102 : decode prog_14_method_38_code 102 = .ok (.getfield 162, 3) := by decide +kernel
theorem dX12_oneTest_105 : decode prog_14_method_38_code 105 = .ok (.sipush 160, 3) := by decide +kernel
theorem dX12_oneTest_108 : decode prog_14_method_38_code 108 = .ok (.if_icmp .ne 8, 3) := by decide +kernel
theorem dX12_oneTest_111 : decode prog_14_method_38_code 111 = .ok (.bipush 27, 2) := by decide +kernel
theorem dX12_oneTest_113 : decode prog_14_method_38_code 113 = .ok (.goto 34, 3) := by decide +kernel
theorem dX12_oneTest_116 : decode prog_14_method_38_code 116 = .ok (.aload_n 0, 1) := by decide +kernel
theorem dX12_oneTest_117 : decode prog_14_method_38_code 117 = .ok (.getfield 162, 3) := by decide +kernel
theorem dX12_oneTest_120 : decode prog_14_method_38_code 120 = .ok (.sipush 161, 3) := by decide +kernel
theorem dX12_oneTest_123 : decode prog_14_method_38_code 123 = .ok (.if_icmp .ne 8, 3) := by decide +kernel
theorem dX12_oneTest_126 : decode prog_14_method_38_code 126 = .ok (.bipush 28, 2) := by decide +kernel
theorem dX12_oneTest_128 : decode prog_14_method_38_code 128 = .ok (.goto 19, 3) := by decide +kernel
theorem dX12_oneTest_131 : decode prog_14_method_38_code 131 = .ok (.aload_n 0, 1) := by decide +kernel
theorem dX12_oneTest_132 : decode prog_14_method_38_code 132 = .ok (.getfield 162, 3) := by decide +kernel
theorem dX12_oneTest_135 : decode prog_14_method_38_code 135 = .ok (.sipush 162, 3) := by decide +kernel
theorem dX12_oneTest_138 : decode prog_14_method_38_code 138 = .ok (.if_icmp .ne 8, 3) := by decide +kernel
theorem dX12_oneTest_141 : decode prog_14_method_38_code 141 = .ok (.bipush 29, 2) := by decide +kernel
theorem dX12_oneTest_143 : decode prog_14_method_38_code 143 = .ok (.goto 4, 3) := by decide +kernel
theorem dX12_oneTest_146 : decode prog_14_method_38_code 146 = .ok (.iconst (-1), 1) := by decide +kernel
theorem dX12_oneTest_147 : decode prog_14_method_38_code 147 = .ok (.istore_n 1, 1) := by decide +kernel
theorem dX12_oneTest_148 : decode prog_14_method_38_code 148 = .ok (.iload_n 1, 1) := by decide +kernel
theorem dX12_oneTest_149 : decode prog_14_method_38_code 149 = .ok (.iconst (-1), 1) := by decide +kernel
theorem dX12_oneTest_150 : decode prog_14_method_38_code 150 = .ok (.if_icmp .ne 9, 3) := by decide +kernel
theorem dX12_oneTest_153 : decode prog_14_method_38_code 153 = .ok (.aload_n 0, 1) := by decide +kernel
theorem dX12_oneTest_154 : decode prog_14_method_38_code 154 = .ok (.iconst 1, 1) := by decide +kernel
theorem dX12_oneTest_155 : decode prog_14_method_38_code 155 = .ok (.invokevirtual 183, 3) := by decide +kernel
theorem dX12_oneTest_158 : decode prog_14_method_38_code 158 = .ok (.ireturn, 1) := by decide +kernel
theorem dX12_oneTest_159 : decode prog_14_method_38_code 159 = .ok (.aload_n 0, 1) := by decide +kernel
theorem dX12_oneTest_160 : decode prog_14_method_38_code 160 = .ok (.invokevirtual 186, 3) := by decide +kernel
theorem dX12_oneTest_163 : decode prog_14_method_38_code 163 = .ok (.aload_n 0, 1) := by decide +kernel
theorem dX12_oneTest_164 : decode prog_14_method_38_code 164 = .ok (.invokevirtual 221, 3) := by decide +kernel
theorem dX12_oneTest_167 : decode prog_14_method_38_code 167 = .ok (.ifCond .ne 5, 3) := by decide +kernel
theorem dX12_oneTest_170 : decode prog_14_method_38_code 170 = .ok (.iconst 0, 1) := by decide +kernel
theorem dX12_oneTest_171 : decode prog_14_method_38_code 171 = .ok (.ireturn, 1) := by decide +kernel
theorem dX12_oneTest_172 : decode prog_14_method_38_code 172 = .ok (.aload_n 0, 1) := by decide +kernel
theorem dX12_oneTest_173 : decode prog_14_method_38_code 173 = .ok (.iload_n 1, 1) := by decide +kernel
theorem dX12_oneTest_174 : decode prog_14_method_38_code 174 = .ok (.iconst 0, 1) := by decide +kernel
theorem dX12_oneTest_175 : decode prog_14_method_38_code 175 = .ok (.invokevirtual 199, 3) := by decide +kernel
theorem dX12_oneTest_178 : decode prog_14_method_38_code 178 = .ok (.iconst 1, 1) := by decide +kernel
theorem dX12_oneTest_179 : decode prog_14_method_38_code 179 = .ok (.ireturn, 1) := by decide +kernel
theorem dX12_aLine_0 : decode prog_14_method_39_code 0 = .ok (.aload_n 0, 1) := by decide +kernel
theorem dX12_aLine_1 : decode prog_14_method_39_code 1 = .ok (.getfield 162, 3) := by decide +kernel
theorem dX12_aLine_4 : decode prog_14_method_39_code 4 = .ok (.bipush 20, 2) := by decide +kernel
theorem dX12_aLine_6 : decode prog_14_method_39_code 6 = .ok (.bipush 22, 2) := by decide +kernel
theorem dX12_aLine_8 : decode prog_14_method_39_code 8 = .ok (.invokestatic 56, 3) := by decide +kernel
theorem dX12_aLine_11 : decode prog_14_method_39_code 11 = .ok (.ifCond .ne 9, 3) := by decide +kernel
theorem dX12_aLine_14 : decode prog_14_method_39_code 14 = .ok (.aload_n 0, 1) := by decide +kernel
theorem dX12_aLine_15 : decode prog_14_method_39_code 15 = .ok (.iconst 1, 1) := by decide +kernel
theorem dX12_aLine_16 : decode prog_14_method_39_code 16 = .ok (.invokevirtual 183, 3) := by decide +kernel
theorem dX12_aLine_19 : decode prog_14_method_39_code 19 = .ok (.ireturn, 1) := by decide +kernel
theorem dX12_aLine_20 : decode prog_14_method_39_code 20 = .ok (.aload_n 0, 1) := by decide +kernel
theorem dX12_aLine_21 : decode prog_14_method_39_code 21 = .ok (.getfield 224, 3) := by decide +kernel
theorem dX12_aLine_24 : decode prog_14_method_39_code 24 = .ok (.bipush 16, 2) := by decide +kernel
theorem dX12_aLine_26 : decode prog_14_method_39_code 26 = .ok (.if_icmp .ne 9, 3) := by decide +kernel
theorem dX12_aLine_29 : decode prog_14_method_39_code 29 = .ok (.aload_n 0, 1) := by decide +kernel
theorem dX12_aLine_30 : decode prog_14_method_39_code 30 = .ok (.iconst 3, 1) := by decide +kernel
theorem dX12_aLine_31 : decode prog_14_method_39_code 31 = .ok (.invokevirtual 183, 3) := by decide +kernel
theorem dX12_aLine_34 : decode prog_14_method_39_code 34 = .ok (.ireturn, 1) := by decide +kernel
theorem dX12_aLine_35 : decode prog_14_method_39_code 35 = .ok (.aload_n 0, 1) := by decide +kernel
theorem dX12_aLine_36 : decode prog_14_method_39_code 36 = .ok (.iconst 0, 1) := by decide +kernel
theorem dX12_aLine_37 : decode prog_14_method_39_code 37 = .ok (.putfield 192, 3) := by decide +kernel
theorem dX12_aLine_40 : decode prog_14_method_39_code 40 = .ok (.aload_n 0, 1) := by decide +kernel
theorem dX12_aLine_41 : decode prog_14_method_39_code 41 = .ok (.getfield 22, 3) := by decide +kernel
theorem dX12_aLine_44 : decode prog_14_method_39_code 44 = .ok (.iconst 4, 1) := by decide +kernel
theorem dX12_aLine_45 : decode prog_14_method_39_code 45 = .ok (.aload_n 0, 1) := by decide +kernel
theorem dX12_aLine_46 : decode prog_14_method_39_code 46 = .ok (.getfield 224, 3) := by decide +kernel
theorem dX12_aLine_49 : decode prog_14_method_39_code 49 = .ok (.imul, 1) := by decide +kernel
theorem dX12_aLine_50 : decode prog_14_method_39_code 50 = .ok (.iconst 3, 1) := by decide +kernel
theorem dX12_aLine_51 : decode prog_14_method_39_code 51 = .ok (.iadd, 1) := by decide +kernel
theorem dX12_aLine_52 : decode prog_14_method_39_code 52 = .ok (.aload_n 0, 1) := by decide +kernel
theorem dX12_aLine_53 : decode prog_14_method_39_code 53 = .ok (.getfield 162, 3) := by decide +kernel
theorem dX12_aLine_56 : decode prog_14_method_39_code 56 = .ok (.iastore, 1) := by decide +kernel
theorem dX12_aLine_57 : decode prog_14_method_39_code 57 = .ok (.aload_n 0, 1) := by decide +kernel
theorem dX12_aLine_58 : decode prog_14_method_39_code 58 = .ok (.invokevirtual 186, 3) := by decide +kernel
theorem dX12_aLine_61 : decode prog_14_method_39_code 61 = .ok (.aload_n 0, 1) := by decide +kernel
theorem dX12_aLine_62 : decode prog_14_method_39_code 62 = .ok (.getfield 22, 3) := by decide +kernel
theorem dX12_aLine_65 : decode prog_14_method_39_code 65 = .ok (.iconst 4, 1) := by decide +kernel
theorem dX12_aLine_66 : decode prog_14_method_39_code 66 = .ok (.aload_n 0, 1) := by decide +kernel
theorem dX12_aLine_67 : decode prog_14_method_39_code 67 = .ok (.getfield 224, 3) := by decide +kernel
theorem dX12_aLine_70 : decode prog_14_method_39_code 70 = .ok (.imul, 1) := by decide +kernel
theorem dX12_aLine_71 : decode prog_14_method_39_code 71 = .ok (.aload_n 0, 1) := by decide +kernel
theorem dX12_aLine_72 : decode prog_14_method_39_code 72 = .ok (.getfield 189, 3) := by decide +kernel
theorem dX12_aLine_75 : decode prog_14_method_39_code 75 = .ok (.iastore, 1) := by decide +kernel
theorem dX12_aLine_76 : decode prog_14_method_39_code 76 = .ok (.aload_n 0, 1) := by decide +kernel
theorem dX12_aLine_77 : decode prog_14_method_39_code 77 = .ok (.invokevirtual 221, 3) := by decide +kernel
theorem dX12_aLine_80 : decode prog_14_method_39_code 80 = .ok (.ifCond .ne 5, 3) := by decide +kernel
theorem dX12_aLine_83 : decode prog_14_method_39_code 83 = .ok (.iconst 0, 1) := by decide +kernel
theorem dX12_aLine_84 : decode prog_14_method_39_code 84 = .ok (.ireturn, 1) := by decide +kernel
theorem dX12_aLine_85 : decode prog_14_method_39_code 85 = .ok (.aload_n 0, 1) := by decide +kernel
theorem dX12_aLine_86 : decode prog_14_method_39_code 86 = .ok (.getfield 22, 3) := by decide +kernel
theorem dX12_aLine_89 : decode prog_14_method_39_code 89 = .ok (.iconst 4, 1) := by decide +kernel
theorem dX12_aLine_90 : decode prog_14_method_39_code 90 = .ok (.aload_n 0, 1) := by decide +kernel
theorem dX12_aLine_91 : decode prog_14_method_39_code 91 = .ok (.getfield 224, 3) := by decide +kernel
theorem dX12_aLine_94 : decode prog_14_method_39_code 94 = .ok (.imul, 1) := by decide +kernel
theorem dX12_aLine_95 : decode prog_14_method_39_code 95 = .ok (.iconst 1, 1) := by decide +kernel
theorem dX12_aLine_96 : decode prog_14_method_39_code 96 = .ok (.iadd, 1) := by decide +kernel
theorem dX12_aLine_97 : decode prog_14_method_39_code 97 = .ok (.aload_n 0, 1) := by decide +kernel
theorem dX12_aLine_98 : decode prog_14_method_39_code 98 = .ok (.getfield 189, 3) := by decide +kernel
theorem dX12_aLine_101 : decode prog_14_method_39_code 101 = .ok (.iastore, 1) := by decide +kernel
theorem dX12_aLine_102 : decode prog_14_method_39_code 102 = .ok (.aload_n 0, 1) := by decide +kernel
theorem dX12_aLine_103 : decode prog_14_method_39_code 103 = .ok (.getfield 162, 3) := by decide +kernel
theorem dX12_aLine_106 : decode prog_14_method_39_code 106 = .ok (.iconst 3, 1) := by decide +kernel
theorem dX12_aLine_107 : decode prog_14_method_39_code 107 = .ok (.if_icmp .ne 16, 3) := by decide +kernel
theorem dX12_aLine_110 : decode prog_14_method_39_code 110 = .ok (.aload_n 0, 1) := by decide +kernel
theorem dX12_aLine_111 : decode prog_14_method_39_code 111 = .ok (.invokevirtual 186, 3) := by decide +kernel
theorem dX12_aLine_114 : decode prog_14_method_39_code 114 = .ok (.aload_n 0, 1) := by decide +kernel
theorem dX12_aLine_115 : decode prog_14_method_39_code 115 = .ok (.invokevirtual 215, 3) := by decide +kernel
theorem dX12_aLine_118 : decode prog_14_method_39_code 118 = .ok (.ifCond .ne 5, 3) := by decide +kernel
theorem dX12_aLine_121 : decode prog_14_method_39_code 121 = .ok (.iconst 0, 1) := by decide +kernel
theorem dX12_aLine_122 : decode prog_14_method_39_code 122 = .ok (.ireturn, 1) := by decide +kernel
theorem dX12_aLine_123 : decode prog_14_method_39_code 123 = .ok (.aload_n 0, 1) := by decide +kernel
theorem dX12_aLine_124 : decode prog_14_method_39_code 124 = .ok (.getfield 22, 3) := by decide +kernel
theorem dX12_aLine_127 : decode prog_14_method_39_code 127 = .ok (.iconst 4, 1) := by decide +kernel
theorem dX12_aLine_128 : decode prog_14_method_39_code 128 = .ok (.aload_n 0, 1) := by decide +kernel
theorem dX12_aLine_129 : decode prog_14_method_39_code 129 = .ok (.getfield 224, 3) := by decide +kernel
theorem dX12_aLine_132 : decode prog_14_method_39_code 132 = .ok (.imul, 1) := by decide +kernel
theorem dX12_aLine_133 : decode prog_14_method_39_code 133 = .ok (.iconst 2, 1) := by decide +kernel
theorem dX12_aLine_134 : decode prog_14_method_39_code 134 = .ok (.iadd, 1) := by decide +kernel
theorem dX12_aLine_135 : decode prog_14_method_39_code 135 = .ok (.aload_n 0, 1) := by decide +kernel
theorem dX12_aLine_136 : decode prog_14_method_39_code 136 = .ok (.getfield 189, 3) := by decide +kernel
theorem dX12_aLine_139 : decode prog_14_method_39_code 139 = .ok (.iastore, 1) := by decide +kernel
theorem dX12_aLine_140 : decode prog_14_method_39_code 140 = .ok (.aload_n 0, 1) := by decide +kernel
theorem dX12_aLine_141 : decode prog_14_method_39_code 141 = .ok (.sipush 159, 3) := by decide +kernel
theorem dX12_aLine_144 : decode prog_14_method_39_code 144 = .ok (.invokevirtual 218, 3) := by decide +kernel
theorem dX12_aLine_147 : decode prog_14_method_39_code 147 = .ok (.ireturn, 1) := by decide +kernel
theorem dX12_readsLaw_0 : decode prog_14_method_40_code 0 = .ok (.aload_n 0, 1) := by decide +kernel
theorem dX12_readsLaw_1 : decode prog_14_method_40_code 1 = .ok (.iconst 0, 1) := by decide +kernel
theorem dX12_readsLaw_2 : decode prog_14_method_40_code 2 = .ok (.putfield 224, 3) := by decide +kernel
theorem dX12_readsLaw_5 : decode prog_14_method_40_code 5 = .ok (.aload_n 0, 1) := by decide +kernel
theorem dX12_readsLaw_6 : decode prog_14_method_40_code 6 = .ok (.iconst 0, 1) := by decide +kernel
theorem dX12_readsLaw_7 : decode prog_14_method_40_code 7 = .ok (.putfield 189, 3) := by decide +kernel
theorem dX12_readsLaw_10 : decode prog_14_method_40_code 10 = .ok (.iconst 1, 1) := by decide +kernel
theorem dX12_readsLaw_11 : decode prog_14_method_40_code 11 = .ok (.istore_n 1, 1) := by decide +kernel
theorem dX12_readsLaw_12 : decode prog_14_method_40_code 12 = .ok (.iload_n 1, 1) := by decide +kernel
theorem dX12_readsLaw_13 : decode prog_14_method_40_code 13 = .ok (.ifCond .eq 36, 3) := by decide +kernel
theorem dX12_readsLaw_16 : decode prog_14_method_40_code 16 = .ok (.aload_n 0, 1) := by decide +kernel
theorem dX12_readsLaw_17 : decode prog_14_method_40_code 17 = .ok (.getfield 162, 3) := by decide +kernel
theorem dX12_readsLaw_20 : decode prog_14_method_40_code 20 = .ok (.ifCond .eq 29, 3) := by decide +kernel
theorem dX12_readsLaw_23 : decode prog_14_method_40_code 23 = .ok (.aload_n 0, 1) := by decide +kernel
theorem dX12_readsLaw_24 : decode prog_14_method_40_code 24 = .ok (.invokevirtual 227, 3) := by decide +kernel
theorem dX12_readsLaw_27 : decode prog_14_method_40_code 27 = .ok (.istore_n 1, 1) := by decide +kernel
theorem dX12_readsLaw_28 : decode prog_14_method_40_code 28 = .ok (.aload_n 0, 1) := by decide +kernel
theorem dX12_readsLaw_29 : decode prog_14_method_40_code 29 = .ok (.dup, 1) := by decide +kernel
theorem dX12_readsLaw_30 : decode prog_14_method_40_code 30 = .ok (.getfield 224, 3) := by decide +kernel
theorem dX12_readsLaw_33 : decode prog_14_method_40_code 33 = .ok (.iload_n 1, 1) := by decide +kernel
theorem dX12_readsLaw_34 : decode prog_14_method_40_code 34 = .ok (.ifCond .eq 7, 3) := by decide +kernel
theorem dX12_readsLaw_37 : decode prog_14_method_40_code 37 = .ok (.iconst 1, 1) := by decide +kernel
theorem dX12_readsLaw_38 : decode prog_14_method_40_code 38 = .ok (.goto 4, 3) := by decide +kernel
theorem dX12_readsLaw_41 : decode prog_14_method_40_code 41 = .ok (.iconst 0, 1) := by decide +kernel
theorem dX12_readsLaw_42 : decode prog_14_method_40_code 42 = .ok (.iadd, 1) := by decide +kernel
theorem dX12_readsLaw_43 : decode prog_14_method_40_code 43 = .ok (.putfield 224, 3) := by decide +kernel
theorem dX12_readsLaw_46 : decode prog_14_method_40_code 46 = .ok (.goto (-34), 3) := by decide +kernel
theorem dX12_readsLaw_49 : decode prog_14_method_40_code 49 = .ok (.iload_n 1, 1) := by decide +kernel
theorem dX12_readsLaw_50 : decode prog_14_method_40_code 50 = .ok (.ireturn, 1) := by decide +kernel
theorem dX12_number_0 : decode prog_14_method_41_code 0 = .ok (.aload_n 0, 1) := by decide +kernel
theorem dX12_number_1 : decode prog_14_method_41_code 1 = .ok (.getfield 162, 3) := by decide +kernel
theorem dX12_number_4 : decode prog_14_method_41_code 4 = .ok (.iconst 2, 1) := by decide +kernel
theorem dX12_number_5 : decode prog_14_method_41_code 5 = .ok (.if_icmp .eq 9, 3) := by decide +kernel
theorem dX12_number_8 : decode prog_14_method_41_code 8 = .ok (.aload_n 0, 1) := by decide +kernel
theorem dX12_number_9 : decode prog_14_method_41_code 9 = .ok (.iconst 1, 1) := by decide +kernel
theorem dX12_number_10 : decode prog_14_method_41_code 10 = .ok (.invokevirtual 183, 3) := by decide +kernel
theorem dX12_number_13 : decode prog_14_method_41_code 13 = .ok (.ireturn, 1) := by decide +kernel
theorem dX12_number_14 : decode prog_14_method_41_code 14 = .ok (.aload_n 0, 1) := by decide +kernel
theorem dX12_number_15 : decode prog_14_method_41_code 15 = .ok (.getfield 174, 3) := by decide +kernel
theorem dX12_number_18 : decode prog_14_method_41_code 18 = .ok (.iload_n 2, 1) := by decide +kernel
theorem dX12_number_19 : decode prog_14_method_41_code 19 = .ok (.iload_n 3, 1) := by decide +kernel
theorem dX12_number_20 : decode prog_14_method_41_code 20 = .ok (.invokestatic 56, 3) := by decide +kernel
theorem dX12_number_23 : decode prog_14_method_41_code 23 = .ok (.ifCond .ne 9, 3) := by decide +kernel
theorem dX12_number_26 : decode prog_14_method_41_code 26 = .ok (.aload_n 0, 1) := by decide +kernel
theorem dX12_number_27 : decode prog_14_method_41_code 27 = .ok (.iconst 2, 1) := by decide +kernel
theorem dX12_number_28 : decode prog_14_method_41_code 28 = .ok (.invokevirtual 183, 3) := by decide +kernel
theorem dX12_number_31 : decode prog_14_method_41_code 31 = .ok (.ireturn, 1) := by decide +kernel
theorem dX12_number_32 : decode prog_14_method_41_code 32 = .ok (.aload_n 0, 1) := by decide +kernel
theorem dX12_number_33 : decode prog_14_method_41_code 33 = .ok (.getfield 28, 3) := by decide +kernel
theorem dX12_number_36 : decode prog_14_method_41_code 36 = .ok (.iload_n 1, 1) := by decide +kernel
theorem dX12_number_37 : decode prog_14_method_41_code 37 = .ok (.aload_n 0, 1) := by decide +kernel
theorem dX12_number_38 : decode prog_14_method_41_code 38 = .ok (.getfield 174, 3) := by decide +kernel
theorem dX12_number_41 : decode prog_14_method_41_code 41 = .ok (.iastore, 1) := by decide +kernel
theorem dX12_number_42 : decode prog_14_method_41_code 42 = .ok (.aload_n 0, 1) := by decide +kernel
theorem dX12_number_43 : decode prog_14_method_41_code 43 = .ok (.invokevirtual 186, 3) := by decide +kernel
theorem dX12_number_46 : decode prog_14_method_41_code 46 = .ok (.iconst 1, 1) := by decide +kernel
theorem dX12_number_47 : decode prog_14_method_41_code 47 = .ok (.ireturn, 1) := by decide +kernel
theorem dX12_told_0 : decode prog_14_method_42_code 0 = .ok (.aload_n 0, 1) := by decide +kernel
theorem dX12_told_1 : decode prog_14_method_42_code 1 = .ok (.iload_n 2, 1) := by decide +kernel
theorem dX12_told_2 : decode prog_14_method_42_code 2 = .ok (.invokevirtual 218, 3) := by decide +kernel
theorem dX12_told_5 : decode prog_14_method_42_code 5 = .ok (.ifCond .eq 18, 3) := by decide +kernel
theorem dX12_told_8 : decode prog_14_method_42_code 8 = .ok (.aload_n 0, 1) := by decide +kernel
theorem dX12_told_9 : decode prog_14_method_42_code 9 = .ok (.iload_n 1, 1) := by decide +kernel
theorem dX12_told_10 : decode prog_14_method_42_code 10 = .ok (.iload_n 3, 1) := by decide +kernel
theorem dX12_told_11 : decode prog_14_method_42_code 11 = .ok (.iload 4, 2) := by decide +kernel
theorem dX12_told_13 : decode prog_14_method_42_code 13 = .ok (.invokevirtual 230, 3) := by decide +kernel
theorem dX12_told_16 : decode prog_14_method_42_code 16 = .ok (.ifCond .eq 7, 3) := by decide +kernel
theorem dX12_told_19 : decode prog_14_method_42_code 19 = .ok (.iconst 1, 1) := by decide +kernel
theorem dX12_told_20 : decode prog_14_method_42_code 20 = .ok (.goto 4, 3) := by decide +kernel
theorem dX12_told_23 : decode prog_14_method_42_code 23 = .ok (.iconst 0, 1) := by decide +kernel
theorem dX12_told_24 : decode prog_14_method_42_code 24 = .ok (.ireturn, 1) := by decide +kernel
theorem dX12_aRule_0 : decode prog_14_method_43_code 0 = .ok (.iconst 3, 1) := by decide +kernel
theorem dX12_aRule_1 : decode prog_14_method_43_code 1 = .ok (.aload_n 0, 1) := by decide +kernel
theorem dX12_aRule_2 : decode prog_14_method_43_code 2 = .ok (.getfield 233, 3) := by decide +kernel
theorem dX12_aRule_5 : decode prog_14_method_43_code 5 = .ok (.imul, 1) := by decide +kernel
theorem dX12_aRule_6 : decode prog_14_method_43_code 6 = .ok (.istore_n 1, 1) := by decide +kernel
theorem dX12_aRule_7 : decode prog_14_method_43_code 7 = .ok (.aload_n 0, 1) := by decide +kernel
theorem dX12_aRule_8 : decode prog_14_method_43_code 8 = .ok (.getfield 162, 3) := by decide +kernel
theorem dX12_aRule_11 : decode prog_14_method_43_code 11 = .ok (.istore_n 2, 1) := by decide +kernel
theorem dX12_aRule_12 : decode prog_14_method_43_code 12 = .ok (.aload_n 0, 1) := by decide +kernel
theorem dX12_aRule_13 : decode prog_14_method_43_code 13 = .ok (.getfield 28, 3) := by decide +kernel
theorem dX12_aRule_16 : decode prog_14_method_43_code 16 = .ok (.iload_n 1, 1) := by decide +kernel
theorem dX12_aRule_17 : decode prog_14_method_43_code 17 = .ok (.iload_n 2, 1) := by decide +kernel
theorem dX12_aRule_18 : decode prog_14_method_43_code 18 = .ok (.iastore, 1) := by decide +kernel
theorem dX12_aRule_19 : decode prog_14_method_43_code 19 = .ok (.aload_n 0, 1) := by decide +kernel
theorem dX12_aRule_20 : decode prog_14_method_43_code 20 = .ok (.getfield 28, 3) := by decide +kernel
theorem dX12_aRule_23 : decode prog_14_method_43_code 23 = .ok (.iload_n 1, 1) := by decide +kernel
theorem dX12_aRule_24 : decode prog_14_method_43_code 24 = .ok (.iconst 2, 1) := by decide +kernel
theorem dX12_aRule_25 : decode prog_14_method_43_code 25 = .ok (.iadd, 1) := by decide +kernel
theorem dX12_aRule_26 : decode prog_14_method_43_code 26 = .ok (.iconst 0, 1) := by decide +kernel
theorem dX12_aRule_27 : decode prog_14_method_43_code 27 = .ok (.iastore, 1) := by decide +kernel
theorem dX12_aRule_28 : decode prog_14_method_43_code 28 = .ok (.aload_n 0, 1) := by decide +kernel
theorem dX12_aRule_29 : decode prog_14_method_43_code 29 = .ok (.invokevirtual 186, 3) := by decide +kernel
theorem dX12_aRule_32 : decode prog_14_method_43_code 32 = .ok (.iload_n 2, 1) := by decide +kernel
theorem dX12_aRule_33 : decode prog_14_method_43_code 33 = .ok (.tableswitch 91 7 9 #[27, 62, 73], 27) := by decide +kernel
theorem dX12_aRule_60 : decode prog_14_method_43_code 60 = .ok (.aload_n 0, 1) := by decide +kernel
theorem dX12_aRule_61 : decode prog_14_method_43_code 61 = .ok (.iload_n 1, 1) := by decide +kernel
theorem dX12_aRule_62 : decode prog_14_method_43_code 62 = .ok (.iconst 1, 1) := by decide +kernel
theorem dX12_aRule_63 : decode prog_14_method_43_code 63 = .ok (.iadd, 1) := by decide +kernel
theorem dX12_aRule_64 : decode prog_14_method_43_code 64 = .ok (.iconst 1, 1) := by decide +kernel
theorem dX12_aRule_65 : decode prog_14_method_43_code 65 = .ok (.bipush 99, 2) := by decide +kernel
theorem dX12_aRule_67 : decode prog_14_method_43_code 67 = .ok (.invokevirtual 230, 3) := by decide +kernel
theorem dX12_aRule_70 : decode prog_14_method_43_code 70 = .ok (.ifCond .eq 23, 3) := by decide +kernel
theorem dX12_aRule_73 : decode prog_14_method_43_code 73 = .ok (.aload_n 0, 1) := by decide +kernel
theorem dX12_aRule_74 : decode prog_14_method_43_code 74 = .ok (.iload_n 1, 1) := by decide +kernel
theorem dX12_aRule_75 : decode prog_14_method_43_code 75 = .ok (.iconst 2, 1) := by decide +kernel
theorem dX12_aRule_76 : decode prog_14_method_43_code 76 = .ok (.iadd, 1) := by decide +kernel
theorem dX12_aRule_77 : decode prog_14_method_43_code 77 = .ok (.bipush 11, 2) := by decide +kernel
theorem dX12_aRule_79 : decode prog_14_method_43_code 79 = .ok (.iconst 0, 1) := by decide +kernel
theorem dX12_aRule_80 : decode prog_14_method_43_code 80 = .ok (.sipush 9999, 3) := by decide +kernel
theorem dX12_aRule_83 : decode prog_14_method_43_code 83 = .ok (.invokevirtual 236, 3) := by decide +kernel
theorem dX12_aRule_86 : decode prog_14_method_43_code 86 = .ok (.ifCond .eq 7, 3) := by decide +kernel
theorem dX12_aRule_89 : decode prog_14_method_43_code 89 = .ok (.iconst 1, 1) := by decide +kernel
theorem dX12_aRule_90 : decode prog_14_method_43_code 90 = .ok (.goto 4, 3) := by decide +kernel
theorem dX12_aRule_93 : decode prog_14_method_43_code 93 = .ok (.iconst 0, 1) := by decide +kernel
theorem dX12_aRule_94 : decode prog_14_method_43_code 94 = .ok (.ireturn, 1) := by decide +kernel
theorem dX12_aRule_95 : decode prog_14_method_43_code 95 = .ok (.aload_n 0, 1) := by decide +kernel
theorem dX12_aRule_96 : decode prog_14_method_43_code 96 = .ok (.iload_n 1, 1) := by decide +kernel
theorem dX12_aRule_97 : decode prog_14_method_43_code 97 = .ok (.iconst 1, 1) := by decide +kernel
theorem dX12_aRule_98 : decode prog_14_method_43_code 98 = .ok (.iadd, 1) := by decide +kernel
theorem dX12_aRule_99 : decode prog_14_method_43_code 99 = .ok (.iconst 0, 1) := by decide +kernel
theorem dX12_aRule_100 : decode prog_14_method_43_code 100 = .ok (.bipush 20, 2) := by decide +kernel
theorem dX12_aRule_102 : decode prog_14_method_43_code 102 = .ok (.invokevirtual 230, 3) := by decide +kernel
theorem dX12_aRule_105 : decode prog_14_method_43_code 105 = .ok (.ireturn, 1) := by decide +kernel
theorem dX12_aRule_106 : decode prog_14_method_43_code 106 = .ok (.aload_n 0, 1) := by decide +kernel
theorem dX12_aRule_107 : decode prog_14_method_43_code 107 = .ok (.iload_n 1, 1) := by decide +kernel
theorem dX12_aRule_108 : decode prog_14_method_43_code 108 = .ok (.iconst 1, 1) := by decide +kernel
theorem dX12_aRule_109 : decode prog_14_method_43_code 109 = .ok (.iadd, 1) := by decide +kernel
theorem dX12_aRule_110 : decode prog_14_method_43_code 110 = .ok (.iconst 0, 1) := by decide +kernel
theorem dX12_aRule_111 : decode prog_14_method_43_code 111 = .ok (.aload_n 0, 1) := by decide +kernel
theorem dX12_aRule_112 : decode prog_14_method_43_code 112 = .ok (.getfield 7, 3) := by decide +kernel
theorem dX12_aRule_115 : decode prog_14_method_43_code 115 = .ok (.bipush 37, 2) := by decide +kernel
theorem dX12_aRule_117 : decode prog_14_method_43_code 117 = .ok (.iaload, 1) := by decide +kernel
theorem dX12_aRule_118 : decode prog_14_method_43_code 118 = .ok (.iconst 1, 1) := by decide +kernel
theorem dX12_aRule_119 : decode prog_14_method_43_code 119 = .ok (.isub, 1) := by decide +kernel
theorem dX12_aRule_120 : decode prog_14_method_43_code 120 = .ok (.invokevirtual 230, 3) := by decide +kernel
theorem dX12_aRule_123 : decode prog_14_method_43_code 123 = .ok (.ireturn, 1) := by decide +kernel
theorem dX12_aRule_124 : decode prog_14_method_43_code 124 = .ok (.aload_n 0, 1) := by decide +kernel
theorem dX12_aRule_125 : decode prog_14_method_43_code 125 = .ok (.iload_n 1, 1) := by decide +kernel
theorem dX12_aRule_126 : decode prog_14_method_43_code 126 = .ok (.iconst 1, 1) := by decide +kernel
theorem dX12_aRule_127 : decode prog_14_method_43_code 127 = .ok (.iadd, 1) := by decide +kernel
theorem dX12_aRule_128 : decode prog_14_method_43_code 128 = .ok (.iconst 1, 1) := by decide +kernel
theorem dX12_aRule_129 : decode prog_14_method_43_code 129 = .ok (.sipush 9999, 3) := by decide +kernel
theorem dX12_aRule_132 : decode prog_14_method_43_code 132 = .ok (.invokevirtual 230, 3) := by decide +kernel
theorem dX12_aRule_135 : decode prog_14_method_43_code 135 = .ok (.ireturn, 1) := by decide +kernel
theorem dX12_aPiece_0 : decode prog_14_method_44_code 0 = .ok (.aload_n 0, 1) := by decide +kernel
theorem dX12_aPiece_1 : decode prog_14_method_44_code 1 = .ok (.iconst 2, 1) := by decide +kernel
theorem dX12_aPiece_2 : decode prog_14_method_44_code 2 = .ok (.aload_n 0, 1) := by decide +kernel
theorem dX12_aPiece_3 : decode prog_14_method_44_code 3 = .ok (.getfield 233, 3) := by decide +kernel
theorem dX12_aPiece_6 : decode prog_14_method_44_code 6 = .ok (.imul, 1) := by decide +kernel
theorem dX12_aPiece_7 : decode prog_14_method_44_code 7 = .ok (.bipush 12, 2) := by decide +kernel
theorem dX12_aPiece_9 : decode prog_14_method_44_code 9 = .ok (.iconst 0, 1) := by decide +kernel
theorem dX12_aPiece_10 : decode prog_14_method_44_code 10 = .ok (.sipush 9999, 3) := by decide +kernel
theorem dX12_aPiece_13 : decode prog_14_method_44_code 13 = .ok (.invokevirtual 236, 3) := by decide +kernel
theorem dX12_aPiece_16 : decode prog_14_method_44_code 16 = .ok (.ifCond .eq 34, 3) := by decide +kernel
theorem dX12_aPiece_19 : decode prog_14_method_44_code 19 = .ok (.aload_n 0, 1) := by decide +kernel
theorem dX12_aPiece_20 : decode prog_14_method_44_code 20 = .ok (.iconst 2, 1) := by decide +kernel
theorem dX12_aPiece_21 : decode prog_14_method_44_code 21 = .ok (.aload_n 0, 1) := by decide +kernel
theorem dX12_aPiece_22 : decode prog_14_method_44_code 22 = .ok (.getfield 233, 3) := by decide +kernel
theorem dX12_aPiece_25 : decode prog_14_method_44_code 25 = .ok (.imul, 1) := by decide +kernel
theorem dX12_aPiece_26 : decode prog_14_method_44_code 26 = .ok (.iconst 1, 1) := by decide +kernel
theorem dX12_aPiece_27 : decode prog_14_method_44_code 27 = .ok (.iadd, 1) := by decide +kernel
theorem dX12_aPiece_28 : decode prog_14_method_44_code 28 = .ok (.bipush 13, 2) := by decide +kernel
theorem dX12_aPiece_30 : decode prog_14_method_44_code 30 = .ok (.iconst 0, 1) := by decide +kernel
theorem dX12_aPiece_31 : decode prog_14_method_44_code 31 = .ok (.aload_n 0, 1) := by decide +kernel
theorem dX12_aPiece_32 : decode prog_14_method_44_code 32 = .ok (.getfield 7, 3) := by decide +kernel
theorem dX12_aPiece_35 : decode prog_14_method_44_code 35 = .ok (.bipush 38, 2) := by decide +kernel
theorem dX12_aPiece_37 : decode prog_14_method_44_code 37 = .ok (.iaload, 1) := by decide +kernel
theorem dX12_aPiece_38 : decode prog_14_method_44_code 38 = .ok (.iconst 1, 1) := by decide +kernel
theorem dX12_aPiece_39 : decode prog_14_method_44_code 39 = .ok (.isub, 1) := by decide +kernel
theorem dX12_aPiece_40 : decode prog_14_method_44_code 40 = .ok (.invokevirtual 236, 3) := by decide +kernel
theorem dX12_aPiece_43 : decode prog_14_method_44_code 43 = .ok (.ifCond .eq 7, 3) := by decide +kernel
theorem dX12_aPiece_46 : decode prog_14_method_44_code 46 = .ok (.iconst 1, 1) := by decide +kernel
theorem dX12_aPiece_47 : decode prog_14_method_44_code 47 = .ok (.goto 4, 3) := by decide +kernel
theorem dX12_aPiece_50 : decode prog_14_method_44_code 50 = .ok (.iconst 0, 1) := by decide +kernel
theorem dX12_aPiece_51 : decode prog_14_method_44_code 51 = .ok (.ireturn, 1) := by decide +kernel
theorem dX12_aSeat_0 : decode prog_14_method_45_code 0 = .ok (.iconst 2, 1) := by decide +kernel
theorem dX12_aSeat_1 : decode prog_14_method_45_code 1 = .ok (.aload_n 0, 1) := by decide +kernel
theorem dX12_aSeat_2 : decode prog_14_method_45_code 2 = .ok (.getfield 233, 3) := by decide +kernel
theorem dX12_aSeat_5 : decode prog_14_method_45_code 5 = .ok (.imul, 1) := by decide +kernel
theorem dX12_aSeat_6 : decode prog_14_method_45_code 6 = .ok (.istore_n 1, 1) := by decide +kernel
theorem dX12_aSeat_7 : decode prog_14_method_45_code 7 = .ok (.aload_n 0, 1) := by decide +kernel
theorem dX12_aSeat_8 : decode prog_14_method_45_code 8 = .ok (.iload_n 1, 1) := by decide +kernel
theorem dX12_aSeat_9 : decode prog_14_method_45_code 9 = .ok (.bipush 14, 2) := by decide +kernel
theorem dX12_aSeat_11 : decode prog_14_method_45_code 11 = .ok (.iconst 0, 1) := by decide +kernel
theorem dX12_aSeat_12 : decode prog_14_method_45_code 12 = .ok (.aload_n 0, 1) := by decide +kernel
theorem dX12_aSeat_13 : decode prog_14_method_45_code 13 = .ok (.getfield 7, 3) := by decide +kernel
theorem dX12_aSeat_16 : decode prog_14_method_45_code 16 = .ok (.bipush 37, 2) := by decide +kernel
theorem dX12_aSeat_18 : decode prog_14_method_45_code 18 = .ok (.iaload, 1) := by decide +kernel
theorem dX12_aSeat_19 : decode prog_14_method_45_code 19 = .ok (.iconst 1, 1) := by decide +kernel
theorem dX12_aSeat_20 : decode prog_14_method_45_code 20 = .ok (.isub, 1) := by decide +kernel
theorem dX12_aSeat_21 : decode prog_14_method_45_code 21 = .ok (.invokevirtual 236, 3) := by decide +kernel
theorem dX12_aSeat_24 : decode prog_14_method_45_code 24 = .ok (.ifCond .eq 12, 3) := by decide +kernel
theorem dX12_aSeat_27 : decode prog_14_method_45_code 27 = .ok (.aload_n 0, 1) := by decide +kernel
theorem dX12_aSeat_28 : decode prog_14_method_45_code 28 = .ok (.bipush 15, 2) := by decide +kernel
theorem dX12_aSeat_30 : decode prog_14_method_45_code 30 = .ok (.invokevirtual 218, 3) := by decide +kernel
theorem dX12_aSeat_33 : decode prog_14_method_45_code 33 = .ok (.ifCond .ne 5, 3) := by decide +kernel
theorem dX12_aSeat_36 : decode prog_14_method_45_code 36 = .ok (.iconst 0, 1) := by decide +kernel
theorem dX12_aSeat_37 : decode prog_14_method_45_code 37 = .ok (.ireturn, 1) := by decide +kernel
theorem dX12_aSeat_38 : decode prog_14_method_45_code 38 = .ok (.aload_n 0, 1) := by decide +kernel
theorem dX12_aSeat_39 : decode prog_14_method_45_code 39 = .ok (.getfield 162, 3) := by decide +kernel
theorem dX12_aSeat_42 : decode prog_14_method_45_code 42 = .ok (.iconst 2, 1) := by decide +kernel
theorem dX12_aSeat_43 : decode prog_14_method_45_code 43 = .ok (.if_icmp .ne 22, 3) := by decide +kernel
theorem dX12_aSeat_46 : decode prog_14_method_45_code 46 = .ok (.aload_n 0, 1) := by decide +kernel
theorem dX12_aSeat_47 : decode prog_14_method_45_code 47 = .ok (.getfield 174, 3) := by decide +kernel
theorem dX12_aSeat_50 : decode prog_14_method_45_code 50 = .ok (.aload_n 0, 1) := by decide +kernel
theorem dX12_aSeat_51 : decode prog_14_method_45_code 51 = .ok (.getfield 28, 3) := by decide +kernel
theorem dX12_aSeat_54 : decode prog_14_method_45_code 54 = .ok (.iload_n 1, 1) := by decide +kernel
theorem dX12_aSeat_55 : decode prog_14_method_45_code 55 = .ok (.iaload, 1) := by decide +kernel
theorem dX12_aSeat_56 : decode prog_14_method_45_code 56 = .ok (.if_icmp .ne 9, 3) := by decide +kernel
theorem dX12_aSeat_59 : decode prog_14_method_45_code 59 = .ok (.aload_n 0, 1) := by decide +kernel
theorem dX12_aSeat_60 : decode prog_14_method_45_code 60 = .ok (.iconst 2, 1) := by decide +kernel
theorem dX12_aSeat_61 : decode prog_14_method_45_code 61 = .ok (.invokevirtual 183, 3) := by decide +kernel
theorem dX12_aSeat_64 : decode prog_14_method_45_code 64 = .ok (.ireturn, 1) := by decide +kernel
theorem dX12_aSeat_65 : decode prog_14_method_45_code 65 = .ok (.aload_n 0, 1) := by decide +kernel
theorem dX12_aSeat_66 : decode prog_14_method_45_code 66 = .ok (.iload_n 1, 1) := by decide +kernel
theorem dX12_aSeat_67 : decode prog_14_method_45_code 67 = .ok (.iconst 1, 1) := by decide +kernel
theorem dX12_aSeat_68 : decode prog_14_method_45_code 68 = .ok (.iadd, 1) := by decide +kernel
theorem dX12_aSeat_69 : decode prog_14_method_45_code 69 = .ok (.iconst 0, 1) := by decide +kernel
theorem dX12_aSeat_70 : decode prog_14_method_45_code 70 = .ok (.aload_n 0, 1) := by decide +kernel
theorem dX12_aSeat_71 : decode prog_14_method_45_code 71 = .ok (.getfield 7, 3) := by decide +kernel
theorem dX12_aSeat_74 : decode prog_14_method_45_code 74 = .ok (.bipush 37, 2) := by decide +kernel
theorem dX12_aSeat_76 : decode prog_14_method_45_code 76 = .ok (.iaload, 1) := by decide +kernel
theorem dX12_aSeat_77 : decode prog_14_method_45_code 77 = .ok (.iconst 1, 1) := by decide +kernel
theorem dX12_aSeat_78 : decode prog_14_method_45_code 78 = .ok (.isub, 1) := by decide +kernel
theorem dX12_aSeat_79 : decode prog_14_method_45_code 79 = .ok (.invokevirtual 230, 3) := by decide +kernel
theorem dX12_aSeat_82 : decode prog_14_method_45_code 82 = .ok (.ireturn, 1) := by decide +kernel
theorem dX12_aRow_0 : decode prog_14_method_46_code 0 = .ok (.aload_n 0, 1) := by decide +kernel
theorem dX12_aRow_1 : decode prog_14_method_46_code 1 = .ok (.getfield 146, 3) := by decide +kernel
theorem dX12_aRow_4 : decode prog_14_method_46_code 4 = .ok (.iconst 1, 1) := by decide +kernel
theorem dX12_aRow_5 : decode prog_14_method_46_code 5 = .ok (.if_icmp .ne 13, 3) := by decide +kernel
theorem dX12_aRow_8 : decode prog_14_method_46_code 8 = .ok (.aload_n 0, 1) := by decide +kernel
theorem dX12_aRow_9 : decode prog_14_method_46_code 9 = .ok (.invokevirtual 240, 3) := by decide +kernel
theorem dX12_aRow_12 : decode prog_14_method_46_code 12 = .ok (.ifCond .eq 45, 3) := by decide +kernel
theorem dX12_aRow_15 : decode prog_14_method_46_code 15 = .ok (.goto 28, 3) := by decide +kernel
theorem dX12_aRow_18 : decode prog_14_method_46_code 18 = .ok (.aload_n 0, 1) := by decide +kernel
theorem dX12_aRow_19 : decode prog_14_method_46_code 19 = .ok (.getfield 146, 3) := by decide +kernel
theorem dX12_aRow_22 : decode prog_14_method_46_code 22 = .ok (.iconst 2, 1) := by decide +kernel
theorem dX12_aRow_23 : decode prog_14_method_46_code 23 = .ok (.if_icmp .ne 13, 3) := by decide +kernel
theorem dX12_aRow_26 : decode prog_14_method_46_code 26 = .ok (.aload_n 0, 1) := by decide +kernel
theorem dX12_aRow_27 : decode prog_14_method_46_code 27 = .ok (.invokevirtual 243, 3) := by decide +kernel
theorem dX12_aRow_30 : decode prog_14_method_46_code 30 = .ok (.ifCond .eq 27, 3) := by decide +kernel
theorem dX12_aRow_33 : decode prog_14_method_46_code 33 = .ok (.goto 10, 3) := by decide +kernel
theorem dX12_aRow_36 : decode prog_14_method_46_code 36 = .ok (.aload_n 0, 1) := by decide +kernel
theorem dX12_aRow_37 : decode prog_14_method_46_code 37 = .ok (.invokevirtual 246, 3) := by decide +kernel
theorem dX12_aRow_40 : decode prog_14_method_46_code 40 = .ok (.ifCond .eq 17, 3) := by decide +kernel
theorem dX12_aRow_43 : decode prog_14_method_46_code 43 = .ok (.aload_n 0, 1) := by decide +kernel
theorem dX12_aRow_44 : decode prog_14_method_46_code 44 = .ok (.sipush 159, 3) := by decide +kernel
theorem dX12_aRow_47 : decode prog_14_method_46_code 47 = .ok (.invokevirtual 218, 3) := by decide +kernel
theorem dX12_aRow_50 : decode prog_14_method_46_code 50 = .ok (.ifCond .eq 7, 3) := by decide +kernel
theorem dX12_aRow_53 : decode prog_14_method_46_code 53 = .ok (.iconst 1, 1) := by decide +kernel
theorem dX12_aRow_54 : decode prog_14_method_46_code 54 = .ok (.goto 4, 3) := by decide +kernel
theorem dX12_aRow_57 : decode prog_14_method_46_code 57 = .ok (.iconst 0, 1) := by decide +kernel
theorem dX12_aRow_58 : decode prog_14_method_46_code 58 = .ok (.ireturn, 1) := by decide +kernel
theorem dX12_begins_0 : decode prog_14_method_47_code 0 = .ok (.aload_n 0, 1) := by decide +kernel
theorem dX12_begins_1 : decode prog_14_method_47_code 1 = .ok (.getfield 146, 3) := by decide +kernel
theorem dX12_begins_4 : decode prog_14_method_47_code 4 = .ok (.iconst 1, 1) := by decide +kernel
theorem dX12_begins_5 : decode prog_14_method_47_code 5 = .ok (.if_icmp .ne 17, 3) := by decide +kernel
theorem dX12_begins_8 : decode prog_14_method_47_code 8 = .ok (.aload_n 0, 1) := by decide +kernel
theorem dX12_begins_9 : decode prog_14_method_47_code 9 = .ok (.getfield 162, 3) := by decide +kernel
theorem dX12_begins_12 : decode prog_14_method_47_code 12 = .ok (.bipush 7, 2) := by decide +kernel
theorem dX12_begins_14 : decode prog_14_method_47_code 14 = .ok (.bipush 10, 2) := by decide +kernel
theorem dX12_begins_16 : decode prog_14_method_47_code 16 = .ok (.invokestatic 56, 3) := by decide +kernel
theorem dX12_begins_19 : decode prog_14_method_47_code 19 = .ok (.goto 30, 3) := by decide +kernel
theorem dX12_begins_22 : decode prog_14_method_47_code 22 = .ok (.aload_n 0, 1) := by decide +kernel
theorem dX12_begins_23 : decode prog_14_method_47_code 23 = .ok (.getfield 162, 3) := by decide +kernel
theorem dX12_begins_26 : decode prog_14_method_47_code 26 = .ok (.aload_n 0, 1) := by decide +kernel
theorem dX12_begins_27 : decode prog_14_method_47_code 27 = .ok (.getfield 146, 3) := by decide +kernel
theorem dX12_begins_30 : decode prog_14_method_47_code 30 = .ok (.iconst 2, 1) := by decide +kernel
theorem dX12_begins_31 : decode prog_14_method_47_code 31 = .ok (.if_icmp .ne 8, 3) := by decide +kernel
theorem dX12_begins_34 : decode prog_14_method_47_code 34 = .ok (.bipush 12, 2) := by decide +kernel
theorem dX12_begins_36 : decode prog_14_method_47_code 36 = .ok (.goto 5, 3) := by decide +kernel
theorem dX12_begins_39 : decode prog_14_method_47_code 39 = .ok (.bipush 14, 2) := by decide +kernel
theorem dX12_begins_41 : decode prog_14_method_47_code 41 = .ok (.if_icmp .ne 7, 3) := by decide +kernel
theorem dX12_begins_44 : decode prog_14_method_47_code 44 = .ok (.iconst 1, 1) := by decide +kernel
theorem dX12_begins_45 : decode prog_14_method_47_code 45 = .ok (.goto 4, 3) := by decide +kernel
theorem dX12_begins_48 : decode prog_14_method_47_code 48 = .ok (.iconst 0, 1) := by decide +kernel
theorem dX12_begins_49 : decode prog_14_method_47_code 49 = .ok (.ireturn, 1) := by decide +kernel
theorem dX12_readsRows_0 : decode prog_14_method_48_code 0 = .ok (.aload_n 0, 1) := by decide +kernel
theorem dX12_readsRows_1 : decode prog_14_method_48_code 1 = .ok (.iconst 0, 1) := by decide +kernel
theorem dX12_readsRows_2 : decode prog_14_method_48_code 2 = .ok (.putfield 233, 3) := by decide +kernel
theorem dX12_readsRows_5 : decode prog_14_method_48_code 5 = .ok (.iconst 1, 1) := by decide +kernel
theorem dX12_readsRows_6 : decode prog_14_method_48_code 6 = .ok (.istore_n 1, 1) := by decide +kernel
theorem dX12_readsRows_7 : decode prog_14_method_48_code 7 = .ok (.iload_n 1, 1) := by decide +kernel
theorem dX12_readsRows_8 : decode prog_14_method_48_code 8 = .ok (.ifCond .eq 64, 3) := by decide +kernel
theorem dX12_readsRows_11 : decode prog_14_method_48_code 11 = .ok (.aload_n 0, 1) := by decide +kernel
theorem dX12_readsRows_12 : decode prog_14_method_48_code 12 = .ok (.getfield 162, 3) := by decide +kernel
theorem dX12_readsRows_15 : decode prog_14_method_48_code 15 = .ok (.ifCond .eq 57, 3) := by decide +kernel
theorem dX12_readsRows_18 : decode prog_14_method_48_code 18 = .ok (.aload_n 0, 1) := by decide +kernel
theorem dX12_readsRows_19 : decode prog_14_method_48_code 19 = .ok (.invokevirtual 249, 3) := by decide +kernel
theorem dX12_readsRows_22 : decode prog_14_method_48_code 22 = .ok (.ifCond .ne 9, 3) := by decide +kernel
theorem dX12_readsRows_25 : decode prog_14_method_48_code 25 = .ok (.aload_n 0, 1) := by decide +kernel
theorem dX12_readsRows_26 : decode prog_14_method_48_code 26 = .ok (.iconst 1, 1) := by decide +kernel
theorem dX12_readsRows_27 : decode prog_14_method_48_code 27 = .ok (.invokevirtual 183, 3) := by decide +kernel
theorem dX12_readsRows_30 : decode prog_14_method_48_code 30 = .ok (.ireturn, 1) := by decide +kernel
theorem dX12_readsRows_31 : decode prog_14_method_48_code 31 = .ok (.aload_n 0, 1) := by decide +kernel
theorem dX12_readsRows_32 : decode prog_14_method_48_code 32 = .ok (.getfield 233, 3) := by decide +kernel
theorem dX12_readsRows_35 : decode prog_14_method_48_code 35 = .ok (.bipush 16, 2) := by decide +kernel
theorem dX12_readsRows_37 : decode prog_14_method_48_code 37 = .ok (.if_icmp .ne 9, 3) := by decide +kernel
theorem dX12_readsRows_40 : decode prog_14_method_48_code 40 = .ok (.aload_n 0, 1) := by decide +kernel
theorem dX12_readsRows_41 : decode prog_14_method_48_code 41 = .ok (.iconst 3, 1) := by decide +kernel
theorem dX12_readsRows_42 : decode prog_14_method_48_code 42 = .ok (.invokevirtual 183, 3) := by decide +kernel
theorem dX12_readsRows_45 : decode prog_14_method_48_code 45 = .ok (.ireturn, 1) := by decide +kernel
theorem dX12_readsRows_46 : decode prog_14_method_48_code 46 = .ok (.aload_n 0, 1) := by decide +kernel
theorem dX12_readsRows_47 : decode prog_14_method_48_code 47 = .ok (.invokevirtual 252, 3) := by decide +kernel
theorem dX12_readsRows_50 : decode prog_14_method_48_code 50 = .ok (.istore_n 1, 1) := by decide +kernel
theorem dX12_readsRows_51 : decode prog_14_method_48_code 51 = .ok (.aload_n 0, 1) := by decide +kernel
theorem dX12_readsRows_52 : decode prog_14_method_48_code 52 = .ok (.dup, 1) := by decide +kernel
theorem dX12_readsRows_53 : decode prog_14_method_48_code 53 = .ok (.getfield 233, 3) := by decide +kernel
theorem dX12_readsRows_56 : decode prog_14_method_48_code 56 = .ok (.iload_n 1, 1) := by decide +kernel
theorem dX12_readsRows_57 : decode prog_14_method_48_code 57 = .ok (.ifCond .eq 7, 3) := by decide +kernel
theorem dX12_readsRows_60 : decode prog_14_method_48_code 60 = .ok (.iconst 1, 1) := by decide +kernel
theorem dX12_readsRows_61 : decode prog_14_method_48_code 61 = .ok (.goto 4, 3) := by decide +kernel
theorem dX12_readsRows_64 : decode prog_14_method_48_code 64 = .ok (.iconst 0, 1) := by decide +kernel
theorem dX12_readsRows_65 : decode prog_14_method_48_code 65 = .ok (.iadd, 1) := by decide +kernel
theorem dX12_readsRows_66 : decode prog_14_method_48_code 66 = .ok (.putfield 233, 3) := by decide +kernel
theorem dX12_readsRows_69 : decode prog_14_method_48_code 69 = .ok (.goto (-62), 3) := by decide +kernel
theorem dX12_readsRows_72 : decode prog_14_method_48_code 72 = .ok (.iload_n 1, 1) := by decide +kernel
theorem dX12_readsRows_73 : decode prog_14_method_48_code 73 = .ok (.ireturn, 1) := by decide +kernel
theorem dX12_putsLaw_0 : decode prog_14_method_49_code 0 = .ok (.aload_n 0, 1) := by decide +kernel
theorem dX12_putsLaw_1 : decode prog_14_method_49_code 1 = .ok (.getfield 7, 3) := by decide +kernel
theorem dX12_putsLaw_4 : decode prog_14_method_49_code 4 = .ok (.bipush 40, 2) := by decide +kernel
theorem dX12_putsLaw_6 : decode prog_14_method_49_code 6 = .ok (.aload_n 0, 1) := by decide +kernel
theorem dX12_putsLaw_7 : decode prog_14_method_49_code 7 = .ok (.getfield 224, 3) := by decide +kernel
theorem dX12_putsLaw_10 : decode prog_14_method_49_code 10 = .ok (.iastore, 1) := by decide +kernel
theorem dX12_putsLaw_11 : decode prog_14_method_49_code 11 = .ok (.iconst 0, 1) := by decide +kernel
theorem dX12_putsLaw_12 : decode prog_14_method_49_code 12 = .ok (.istore_n 1, 1) := by decide +kernel
theorem dX12_putsLaw_13 : decode prog_14_method_49_code 13 = .ok (.iload_n 1, 1) := by decide +kernel
theorem dX12_putsLaw_14 : decode prog_14_method_49_code 14 = .ok (.aload_n 0, 1) := by decide +kernel
theorem dX12_putsLaw_15 : decode prog_14_method_49_code 15 = .ok (.getfield 224, 3) := by decide +kernel
theorem dX12_putsLaw_18 : decode prog_14_method_49_code 18 = .ok (.if_icmp .ge 87, 3) := by decide +kernel
theorem dX12_putsLaw_21 : decode prog_14_method_49_code 21 = .ok (.aload_n 0, 1) := by decide +kernel
theorem dX12_putsLaw_22 : decode prog_14_method_49_code 22 = .ok (.getfield 7, 3) := by decide +kernel
theorem dX12_putsLaw_25 : decode prog_14_method_49_code 25 = .ok (.sipush 823, 3) := by decide +kernel
theorem dX12_putsLaw_28 : decode prog_14_method_49_code 28 = .ok (.iload_n 1, 1) := by decide +kernel
theorem dX12_putsLaw_29 : decode prog_14_method_49_code 29 = .ok (.iadd, 1) := by decide +kernel
theorem dX12_putsLaw_30 : decode prog_14_method_49_code 30 = .ok (.aload_n 0, 1) := by decide +kernel
theorem dX12_putsLaw_31 : decode prog_14_method_49_code 31 = .ok (.getfield 22, 3) := by decide +kernel
theorem dX12_putsLaw_34 : decode prog_14_method_49_code 34 = .ok (.iconst 4, 1) := by decide +kernel
theorem dX12_putsLaw_35 : decode prog_14_method_49_code 35 = .ok (.iload_n 1, 1) := by decide +kernel
theorem dX12_putsLaw_36 : decode prog_14_method_49_code 36 = .ok (.imul, 1) := by decide +kernel
theorem dX12_putsLaw_37 : decode prog_14_method_49_code 37 = .ok (.iaload, 1) := by decide +kernel
theorem dX12_putsLaw_38 : decode prog_14_method_49_code 38 = .ok (.iastore, 1) := by decide +kernel
theorem dX12_putsLaw_39 : decode prog_14_method_49_code 39 = .ok (.aload_n 0, 1) := by decide +kernel
theorem dX12_putsLaw_40 : decode prog_14_method_49_code 40 = .ok (.getfield 7, 3) := by decide +kernel
theorem dX12_putsLaw_43 : decode prog_14_method_49_code 43 = .ok (.sipush 839, 3) := by decide +kernel
theorem dX12_putsLaw_46 : decode prog_14_method_49_code 46 = .ok (.iload_n 1, 1) := by decide +kernel
theorem dX12_putsLaw_47 : decode prog_14_method_49_code 47 = .ok (.iadd, 1) := by decide +kernel
theorem dX12_putsLaw_48 : decode prog_14_method_49_code 48 = .ok (.aload_n 0, 1) := by decide +kernel
theorem dX12_putsLaw_49 : decode prog_14_method_49_code 49 = .ok (.getfield 22, 3) := by decide +kernel
theorem dX12_putsLaw_52 : decode prog_14_method_49_code 52 = .ok (.iconst 4, 1) := by decide +kernel
theorem dX12_putsLaw_53 : decode prog_14_method_49_code 53 = .ok (.iload_n 1, 1) := by decide +kernel
theorem dX12_putsLaw_54 : decode prog_14_method_49_code 54 = .ok (.imul, 1) := by decide +kernel
theorem dX12_putsLaw_55 : decode prog_14_method_49_code 55 = .ok (.iconst 1, 1) := by decide +kernel
theorem dX12_putsLaw_56 : decode prog_14_method_49_code 56 = .ok (.iadd, 1) := by decide +kernel
theorem dX12_putsLaw_57 : decode prog_14_method_49_code 57 = .ok (.iaload, 1) := by decide +kernel
theorem dX12_putsLaw_58 : decode prog_14_method_49_code 58 = .ok (.iastore, 1) := by decide +kernel
theorem dX12_putsLaw_59 : decode prog_14_method_49_code 59 = .ok (.aload_n 0, 1) := by decide +kernel
theorem dX12_putsLaw_60 : decode prog_14_method_49_code 60 = .ok (.getfield 7, 3) := by decide +kernel
theorem dX12_putsLaw_63 : decode prog_14_method_49_code 63 = .ok (.sipush 855, 3) := by decide +kernel
theorem dX12_putsLaw_66 : decode prog_14_method_49_code 66 = .ok (.iload_n 1, 1) := by decide +kernel
theorem dX12_putsLaw_67 : decode prog_14_method_49_code 67 = .ok (.iadd, 1) := by decide +kernel
theorem dX12_putsLaw_68 : decode prog_14_method_49_code 68 = .ok (.aload_n 0, 1) := by decide +kernel
theorem dX12_putsLaw_69 : decode prog_14_method_49_code 69 = .ok (.getfield 22, 3) := by decide +kernel
theorem dX12_putsLaw_72 : decode prog_14_method_49_code 72 = .ok (.iconst 4, 1) := by decide +kernel
theorem dX12_putsLaw_73 : decode prog_14_method_49_code 73 = .ok (.iload_n 1, 1) := by decide +kernel
theorem dX12_putsLaw_74 : decode prog_14_method_49_code 74 = .ok (.imul, 1) := by decide +kernel
theorem dX12_putsLaw_75 : decode prog_14_method_49_code 75 = .ok (.iconst 2, 1) := by decide +kernel
theorem dX12_putsLaw_76 : decode prog_14_method_49_code 76 = .ok (.iadd, 1) := by decide +kernel
theorem dX12_putsLaw_77 : decode prog_14_method_49_code 77 = .ok (.iaload, 1) := by decide +kernel
theorem dX12_putsLaw_78 : decode prog_14_method_49_code 78 = .ok (.iastore, 1) := by decide +kernel
theorem dX12_putsLaw_79 : decode prog_14_method_49_code 79 = .ok (.aload_n 0, 1) := by decide +kernel
theorem dX12_putsLaw_80 : decode prog_14_method_49_code 80 = .ok (.getfield 7, 3) := by decide +kernel
theorem dX12_putsLaw_83 : decode prog_14_method_49_code 83 = .ok (.sipush 871, 3) := by decide +kernel
theorem dX12_putsLaw_86 : decode prog_14_method_49_code 86 = .ok (.iload_n 1, 1) := by decide +kernel
theorem dX12_putsLaw_87 : decode prog_14_method_49_code 87 = .ok (.iadd, 1) := by decide +kernel
theorem dX12_putsLaw_88 : decode prog_14_method_49_code 88 = .ok (.aload_n 0, 1) := by decide +kernel
theorem dX12_putsLaw_89 : decode prog_14_method_49_code 89 = .ok (.getfield 22, 3) := by decide +kernel
theorem dX12_putsLaw_92 : decode prog_14_method_49_code 92 = .ok (.iconst 4, 1) := by decide +kernel
theorem dX12_putsLaw_93 : decode prog_14_method_49_code 93 = .ok (.iload_n 1, 1) := by decide +kernel
theorem dX12_putsLaw_94 : decode prog_14_method_49_code 94 = .ok (.imul, 1) := by decide +kernel
theorem dX12_putsLaw_95 : decode prog_14_method_49_code 95 = .ok (.iconst 3, 1) := by decide +kernel
theorem dX12_putsLaw_96 : decode prog_14_method_49_code 96 = .ok (.iadd, 1) := by decide +kernel
theorem dX12_putsLaw_97 : decode prog_14_method_49_code 97 = .ok (.iaload, 1) := by decide +kernel
theorem dX12_putsLaw_98 : decode prog_14_method_49_code 98 = .ok (.iastore, 1) := by decide +kernel
theorem dX12_putsLaw_99 : decode prog_14_method_49_code 99 = .ok (.iinc 1 1, 3) := by decide +kernel
theorem dX12_putsLaw_102 : decode prog_14_method_49_code 102 = .ok (.goto (-89), 3) := by decide +kernel
theorem dX12_putsLaw_105 : decode prog_14_method_49_code 105 = .ok (.iconst 0, 1) := by decide +kernel
theorem dX12_putsLaw_106 : decode prog_14_method_49_code 106 = .ok (.istore_n 1, 1) := by decide +kernel
theorem dX12_putsLaw_107 : decode prog_14_method_49_code 107 = .ok (.iload_n 1, 1) := by decide +kernel
theorem dX12_putsLaw_108 : decode prog_14_method_49_code 108 = .ok (.iconst 2, 1) := by decide +kernel
theorem dX12_putsLaw_109 : decode prog_14_method_49_code 109 = .ok (.aload_n 0, 1) := by decide +kernel
theorem dX12_putsLaw_110 : decode prog_14_method_49_code 110 = .ok (.getfield 189, 3) := by decide +kernel
theorem dX12_putsLaw_113 : decode prog_14_method_49_code 113 = .ok (.imul, 1) := by decide +kernel
theorem dX12_putsLaw_114 : decode prog_14_method_49_code 114 = .ok (.if_icmp .ge 25, 3) := by decide +kernel
theorem dX12_putsLaw_117 : decode prog_14_method_49_code 117 = .ok (.aload_n 0, 1) := by decide +kernel
theorem dX12_putsLaw_118 : decode prog_14_method_49_code 118 = .ok (.getfield 7, 3) := by decide +kernel
theorem dX12_putsLaw_121 : decode prog_14_method_49_code 121 = .ok (.sipush 887, 3) := by decide +kernel
theorem dX12_putsLaw_124 : decode prog_14_method_49_code 124 = .ok (.iload_n 1, 1) := by decide +kernel
theorem dX12_putsLaw_125 : decode prog_14_method_49_code 125 = .ok (.iadd, 1) := by decide +kernel
theorem dX12_putsLaw_126 : decode prog_14_method_49_code 126 = .ok (.aload_n 0, 1) := by decide +kernel
theorem dX12_putsLaw_127 : decode prog_14_method_49_code 127 = .ok (.getfield 25, 3) := by decide +kernel
theorem dX12_putsLaw_130 : decode prog_14_method_49_code 130 = .ok (.iload_n 1, 1) := by decide +kernel
theorem dX12_putsLaw_131 : decode prog_14_method_49_code 131 = .ok (.iaload, 1) := by decide +kernel
theorem dX12_putsLaw_132 : decode prog_14_method_49_code 132 = .ok (.iastore, 1) := by decide +kernel
theorem dX12_putsLaw_133 : decode prog_14_method_49_code 133 = .ok (.iinc 1 1, 3) := by decide +kernel
theorem dX12_putsLaw_136 : decode prog_14_method_49_code 136 = .ok (.goto (-29), 3) := by decide +kernel
theorem dX12_putsLaw_139 : decode prog_14_method_49_code 139 = .ok (.aload_n 0, 1) := by decide +kernel
theorem dX12_putsLaw_140 : decode prog_14_method_49_code 140 = .ok (.getfield 224, 3) := by decide +kernel
theorem dX12_putsLaw_143 : decode prog_14_method_49_code 143 = .ok (.ireturn, 1) := by decide +kernel
theorem dX12_puts_0 : decode prog_14_method_50_code 0 = .ok (.aload_n 0, 1) := by decide +kernel
theorem dX12_puts_1 : decode prog_14_method_50_code 1 = .ok (.getfield 7, 3) := by decide +kernel
theorem dX12_puts_4 : decode prog_14_method_50_code 4 = .ok (.iload_n 1, 1) := by decide +kernel
theorem dX12_puts_5 : decode prog_14_method_50_code 5 = .ok (.aload_n 0, 1) := by decide +kernel
theorem dX12_puts_6 : decode prog_14_method_50_code 6 = .ok (.getfield 233, 3) := by decide +kernel
theorem dX12_puts_9 : decode prog_14_method_50_code 9 = .ok (.iastore, 1) := by decide +kernel
theorem dX12_puts_10 : decode prog_14_method_50_code 10 = .ok (.iconst 0, 1) := by decide +kernel
theorem dX12_puts_11 : decode prog_14_method_50_code 11 = .ok (.istore 4, 2) := by decide +kernel
theorem dX12_puts_13 : decode prog_14_method_50_code 13 = .ok (.iload 4, 2) := by decide +kernel
theorem dX12_puts_15 : decode prog_14_method_50_code 15 = .ok (.iload_n 3, 1) := by decide +kernel
theorem dX12_puts_16 : decode prog_14_method_50_code 16 = .ok (.aload_n 0, 1) := by decide +kernel
theorem dX12_puts_17 : decode prog_14_method_50_code 17 = .ok (.getfield 233, 3) := by decide +kernel
theorem dX12_puts_20 : decode prog_14_method_50_code 20 = .ok (.imul, 1) := by decide +kernel
theorem dX12_puts_21 : decode prog_14_method_50_code 21 = .ok (.if_icmp .ge 25, 3) := by decide +kernel
theorem dX12_puts_24 : decode prog_14_method_50_code 24 = .ok (.aload_n 0, 1) := by decide +kernel
theorem dX12_puts_25 : decode prog_14_method_50_code 25 = .ok (.getfield 7, 3) := by decide +kernel
theorem dX12_puts_28 : decode prog_14_method_50_code 28 = .ok (.iload_n 2, 1) := by decide +kernel
theorem dX12_puts_29 : decode prog_14_method_50_code 29 = .ok (.iload 4, 2) := by decide +kernel
theorem dX12_puts_31 : decode prog_14_method_50_code 31 = .ok (.iadd, 1) := by decide +kernel
theorem dX12_puts_32 : decode prog_14_method_50_code 32 = .ok (.aload_n 0, 1) := by decide +kernel
theorem dX12_puts_33 : decode prog_14_method_50_code 33 = .ok (.getfield 28, 3) := by decide +kernel
theorem dX12_puts_36 : decode prog_14_method_50_code 36 = .ok (.iload 4, 2) := by decide +kernel
theorem dX12_puts_38 : decode prog_14_method_50_code 38 = .ok (.iaload, 1) := by decide +kernel
theorem dX12_puts_39 : decode prog_14_method_50_code 39 = .ok (.iastore, 1) := by decide +kernel
theorem dX12_puts_40 : decode prog_14_method_50_code 40 = .ok (.iinc 4 1, 3) := by decide +kernel
theorem dX12_puts_43 : decode prog_14_method_50_code 43 = .ok (.goto (-30), 3) := by decide +kernel
theorem dX12_puts_46 : decode prog_14_method_50_code 46 = .ok (.aload_n 0, 1) := by decide +kernel
theorem dX12_puts_47 : decode prog_14_method_50_code 47 = .ok (.getfield 233, 3) := by decide +kernel
theorem dX12_puts_50 : decode prog_14_method_50_code 50 = .ok (.ireturn, 1) := by decide +kernel
theorem dX12_putsGallery_0 : decode prog_14_method_51_code 0 = .ok (.aload_n 0, 1) := by decide +kernel
theorem dX12_putsGallery_1 : decode prog_14_method_51_code 1 = .ok (.getfield 7, 3) := by decide +kernel
theorem dX12_putsGallery_4 : decode prog_14_method_51_code 4 = .ok (.bipush 43, 2) := by decide +kernel
theorem dX12_putsGallery_6 : decode prog_14_method_51_code 6 = .ok (.aload_n 0, 1) := by decide +kernel
theorem dX12_putsGallery_7 : decode prog_14_method_51_code 7 = .ok (.getfield 233, 3) := by decide +kernel
theorem dX12_putsGallery_10 : decode prog_14_method_51_code 10 = .ok (.iastore, 1) := by decide +kernel
theorem dX12_putsGallery_11 : decode prog_14_method_51_code 11 = .ok (.iconst 0, 1) := by decide +kernel
theorem dX12_putsGallery_12 : decode prog_14_method_51_code 12 = .ok (.istore_n 1, 1) := by decide +kernel
theorem dX12_putsGallery_13 : decode prog_14_method_51_code 13 = .ok (.iload_n 1, 1) := by decide +kernel
theorem dX12_putsGallery_14 : decode prog_14_method_51_code 14 = .ok (.bipush 12, 2) := by decide +kernel
theorem dX12_putsGallery_16 : decode prog_14_method_51_code 16 = .ok (.if_icmp .ge 20, 3) := by decide +kernel
theorem dX12_putsGallery_19 : decode prog_14_method_51_code 19 = .ok (.aload_n 0, 1) := by decide +kernel
theorem dX12_putsGallery_20 : decode prog_14_method_51_code 20 = .ok (.getfield 7, 3) := by decide +kernel
theorem dX12_putsGallery_23 : decode prog_14_method_51_code 23 = .ok (.sipush 185, 3) := by decide +kernel
theorem dX12_putsGallery_26 : decode prog_14_method_51_code 26 = .ok (.iload_n 1, 1) := by decide +kernel
theorem dX12_putsGallery_27 : decode prog_14_method_51_code 27 = .ok (.iadd, 1) := by decide +kernel
theorem dX12_putsGallery_28 : decode prog_14_method_51_code 28 = .ok (.iconst 0, 1) := by decide +kernel
theorem dX12_putsGallery_29 : decode prog_14_method_51_code 29 = .ok (.iastore, 1) := by decide +kernel
theorem dX12_putsGallery_30 : decode prog_14_method_51_code 30 = .ok (.iinc 1 1, 3) := by decide +kernel
theorem dX12_putsGallery_33 : decode prog_14_method_51_code 33 = .ok (.goto (-20), 3) := by decide +kernel
theorem dX12_putsGallery_36 : decode prog_14_method_51_code 36 = .ok (.iconst 0, 1) := by decide +kernel
theorem dX12_putsGallery_37 : decode prog_14_method_51_code 37 = .ok (.istore_n 1, 1) := by decide +kernel
theorem dX12_putsGallery_38 : decode prog_14_method_51_code 38 = .ok (.iload_n 1, 1) := by decide +kernel
theorem dX12_putsGallery_39 : decode prog_14_method_51_code 39 = .ok (.aload_n 0, 1) := by decide +kernel
theorem dX12_putsGallery_40 : decode prog_14_method_51_code 40 = .ok (.getfield 233, 3) := by decide +kernel
theorem dX12_putsGallery_43 : decode prog_14_method_51_code 43 = .ok (.if_icmp .ge 73, 3) := by decide +kernel
theorem dX12_putsGallery_46 : decode prog_14_method_51_code 46 = .ok (.aload_n 0, 1) := by decide +kernel
theorem dX12_putsGallery_47 : decode prog_14_method_51_code 47 = .ok (.getfield 7, 3) := by decide +kernel
theorem dX12_putsGallery_50 : decode prog_14_method_51_code 50 = .ok (.sipush 185, 3) := by decide +kernel
theorem dX12_putsGallery_53 : decode prog_14_method_51_code 53 = .ok (.aload_n 0, 1) := by decide +kernel
theorem dX12_putsGallery_54 : decode prog_14_method_51_code 54 = .ok (.getfield 28, 3) := by decide +kernel
theorem dX12_putsGallery_57 : decode prog_14_method_51_code 57 = .ok (.iconst 2, 1) := by decide +kernel
theorem dX12_putsGallery_58 : decode prog_14_method_51_code 58 = .ok (.iload_n 1, 1) := by decide +kernel
theorem dX12_putsGallery_59 : decode prog_14_method_51_code 59 = .ok (.imul, 1) := by decide +kernel
theorem dX12_putsGallery_60 : decode prog_14_method_51_code 60 = .ok (.iaload, 1) := by decide +kernel
theorem dX12_putsGallery_61 : decode prog_14_method_51_code 61 = .ok (.iadd, 1) := by decide +kernel
theorem dX12_putsGallery_62 : decode prog_14_method_51_code 62 = .ok (.dup2, 1) := by decide +kernel
theorem dX12_putsGallery_63 : decode prog_14_method_51_code 63 = .ok (.iaload, 1) := by decide +kernel
theorem dX12_putsGallery_64 : decode prog_14_method_51_code 64 = .ok (.iconst 1, 1) := by decide +kernel
theorem dX12_putsGallery_65 : decode prog_14_method_51_code 65 = .ok (.aload_n 0, 1) := by decide +kernel
theorem dX12_putsGallery_66 : decode prog_14_method_51_code 66 = .ok (.getfield 28, 3) := by decide +kernel
theorem dX12_putsGallery_69 : decode prog_14_method_51_code 69 = .ok (.iconst 2, 1) := by decide +kernel
theorem dX12_putsGallery_70 : decode prog_14_method_51_code 70 = .ok (.iload_n 1, 1) := by decide +kernel
theorem dX12_putsGallery_71 : decode prog_14_method_51_code 71 = .ok (.imul, 1) := by decide +kernel
theorem dX12_putsGallery_72 : decode prog_14_method_51_code 72 = .ok (.iconst 1, 1) := by decide +kernel
theorem dX12_putsGallery_73 : decode prog_14_method_51_code 73 = .ok (.iadd, 1) := by decide +kernel
theorem dX12_putsGallery_74 : decode prog_14_method_51_code 74 = .ok (.iaload, 1) := by decide +kernel
theorem dX12_putsGallery_75 : decode prog_14_method_51_code 75 = .ok (.ishl, 1) := by decide +kernel
theorem dX12_putsGallery_76 : decode prog_14_method_51_code 76 = .ok (.ior, 1) := by decide +kernel
theorem dX12_putsGallery_77 : decode prog_14_method_51_code 77 = .ok (.iastore, 1) := by decide +kernel
theorem dX12_putsGallery_78 : decode prog_14_method_51_code 78 = .ok (.aload_n 0, 1) := by decide +kernel
theorem dX12_putsGallery_79 : decode prog_14_method_51_code 79 = .ok (.getfield 7, 3) := by decide +kernel
theorem dX12_putsGallery_82 : decode prog_14_method_51_code 82 = .ok (.sipush 185, 3) := by decide +kernel
theorem dX12_putsGallery_85 : decode prog_14_method_51_code 85 = .ok (.aload_n 0, 1) := by decide +kernel
theorem dX12_putsGallery_86 : decode prog_14_method_51_code 86 = .ok (.getfield 28, 3) := by decide +kernel
theorem dX12_putsGallery_89 : decode prog_14_method_51_code 89 = .ok (.iconst 2, 1) := by decide +kernel
theorem dX12_putsGallery_90 : decode prog_14_method_51_code 90 = .ok (.iload_n 1, 1) := by decide +kernel
theorem dX12_putsGallery_91 : decode prog_14_method_51_code 91 = .ok (.imul, 1) := by decide +kernel
theorem dX12_putsGallery_92 : decode prog_14_method_51_code 92 = .ok (.iconst 1, 1) := by decide +kernel
theorem dX12_putsGallery_93 : decode prog_14_method_51_code 93 = .ok (.iadd, 1) := by decide +kernel
theorem dX12_putsGallery_94 : decode prog_14_method_51_code 94 = .ok (.iaload, 1) := by decide +kernel
theorem dX12_putsGallery_95 : decode prog_14_method_51_code 95 = .ok (.iadd, 1) := by decide +kernel
theorem dX12_putsGallery_96 : decode prog_14_method_51_code 96 = .ok (.dup2, 1) := by decide +kernel
theorem dX12_putsGallery_97 : decode prog_14_method_51_code 97 = .ok (.iaload, 1) := by decide +kernel
theorem dX12_putsGallery_98 : decode prog_14_method_51_code 98 = .ok (.iconst 1, 1) := by decide +kernel
theorem dX12_putsGallery_99 : decode prog_14_method_51_code 99 = .ok (.aload_n 0, 1) := by decide +kernel
theorem dX12_putsGallery_100 : decode prog_14_method_51_code 100 = .ok (.getfield 28, 3) := by decide +kernel
theorem dX12_putsGallery_103 : decode prog_14_method_51_code 103 = .ok (.iconst 2, 1) := by decide +kernel
theorem dX12_putsGallery_104 : decode prog_14_method_51_code 104 = .ok (.iload_n 1, 1) := by decide +kernel
theorem dX12_putsGallery_105 : decode prog_14_method_51_code 105 = .ok (.imul, 1) := by decide +kernel
theorem dX12_putsGallery_106 : decode prog_14_method_51_code 106 = .ok (.iaload, 1) := by decide +kernel
theorem dX12_putsGallery_107 : decode prog_14_method_51_code 107 = .ok (.ishl, 1) := by decide +kernel
theorem dX12_putsGallery_108 : decode prog_14_method_51_code 108 = .ok (.ior, 1) := by decide +kernel
theorem dX12_putsGallery_109 : decode prog_14_method_51_code 109 = .ok (.iastore, 1) := by decide +kernel
theorem dX12_putsGallery_110 : decode prog_14_method_51_code 110 = .ok (.iinc 1 1, 3) := by decide +kernel
theorem dX12_putsGallery_113 : decode prog_14_method_51_code 113 = .ok (.goto (-75), 3) := by decide +kernel
theorem dX12_putsGallery_116 : decode prog_14_method_51_code 116 = .ok (.aload_n 0, 1) := by decide +kernel
theorem dX12_putsGallery_117 : decode prog_14_method_51_code 117 = .ok (.getfield 233, 3) := by decide +kernel
theorem dX12_putsGallery_120 : decode prog_14_method_51_code 120 = .ok (.ireturn, 1) := by decide +kernel
theorem dX12_putsText_0 : decode prog_14_method_52_code 0 = .ok (.iload_n 1, 1) := by decide +kernel
theorem dX12_putsText_1 : decode prog_14_method_52_code 1 = .ok (.ifCond .ne 8, 3) := by decide +kernel
theorem dX12_putsText_4 : decode prog_14_method_52_code 4 = .ok (.aload_n 0, 1) := by decide +kernel
theorem dX12_putsText_5 : decode prog_14_method_52_code 5 = .ok (.invokevirtual 255, 3) := by decide +kernel
theorem dX12_putsText_8 : decode prog_14_method_52_code 8 = .ok (.ireturn, 1) := by decide +kernel
theorem dX12_putsText_9 : decode prog_14_method_52_code 9 = .ok (.aload_n 0, 1) := by decide +kernel
theorem dX12_putsText_10 : decode prog_14_method_52_code 10 = .ok (.invokevirtual 63, 3) := by decide +kernel
theorem dX12_putsText_13 : decode prog_14_method_52_code 13 = .ok (.iload_n 1, 1) := by decide +kernel
theorem dX12_putsText_14 : decode prog_14_method_52_code 14 = .ok (.iconst 1, 1) := by decide +kernel
theorem dX12_putsText_15 : decode prog_14_method_52_code 15 = .ok (.if_icmp .ne 15, 3) := by decide +kernel
theorem dX12_putsText_18 : decode prog_14_method_52_code 18 = .ok (.aload_n 0, 1) := by decide +kernel
theorem dX12_putsText_19 : decode prog_14_method_52_code 19 = .ok (.bipush 41, 2) := by decide +kernel
theorem dX12_putsText_21 : decode prog_14_method_52_code 21 = .ok (.bipush 105, 2) := by decide +kernel
theorem dX12_putsText_23 : decode prog_14_method_52_code 23 = .ok (.iconst 3, 1) := by decide +kernel
theorem dX12_putsText_24 : decode prog_14_method_52_code 24 = .ok (.invokevirtual 258, 3) := by decide +kernel
theorem dX12_putsText_27 : decode prog_14_method_52_code 27 = .ok (.goto 25, 3) := by decide +kernel
theorem dX12_putsText_30 : decode prog_14_method_52_code 30 = .ok (.iload_n 1, 1) := by decide +kernel
theorem dX12_putsText_31 : decode prog_14_method_52_code 31 = .ok (.iconst 2, 1) := by decide +kernel
theorem dX12_putsText_32 : decode prog_14_method_52_code 32 = .ok (.if_icmp .ne 16, 3) := by decide +kernel
theorem dX12_putsText_35 : decode prog_14_method_52_code 35 = .ok (.aload_n 0, 1) := by decide +kernel
theorem dX12_putsText_36 : decode prog_14_method_52_code 36 = .ok (.bipush 42, 2) := by decide +kernel
theorem dX12_putsText_38 : decode prog_14_method_52_code 38 = .ok (.sipush 153, 3) := by decide +kernel
theorem dX12_putsText_41 : decode prog_14_method_52_code 41 = .ok (.iconst 2, 1) := by decide +kernel
theorem dX12_putsText_42 : decode prog_14_method_52_code 42 = .ok (.invokevirtual 258, 3) := by decide +kernel
theorem dX12_putsText_45 : decode prog_14_method_52_code 45 = .ok (.goto 7, 3) := by decide +kernel
theorem dX12_putsText_48 : decode prog_14_method_52_code 48 = .ok (.aload_n 0, 1) := by decide +kernel
theorem dX12_putsText_49 : decode prog_14_method_52_code 49 = .ok (.invokevirtual 262, 3) := by decide +kernel
theorem dX12_putsText_52 : decode prog_14_method_52_code 52 = .ok (.ireturn, 1) := by decide +kernel
theorem dX12_text_0 : decode prog_14_method_53_code 0 = .ok (.aload_n 0, 1) := by decide +kernel
theorem dX12_text_1 : decode prog_14_method_53_code 1 = .ok (.iconst 0, 1) := by decide +kernel
theorem dX12_text_2 : decode prog_14_method_53_code 2 = .ok (.putfield 265, 3) := by decide +kernel
theorem dX12_text_5 : decode prog_14_method_53_code 5 = .ok (.aload_n 0, 1) := by decide +kernel
theorem dX12_text_6 : decode prog_14_method_53_code 6 = .ok (.iconst (-1), 1) := by decide +kernel
theorem dX12_text_7 : decode prog_14_method_53_code 7 = .ok (.putfield 40, 3) := by decide +kernel
theorem dX12_text_10 : decode prog_14_method_53_code 10 = .ok (.iload_n 1, 1) := by decide +kernel
theorem dX12_text_11 : decode prog_14_method_53_code 11 = .ok (.iconst 0, 1) := by decide +kernel
theorem dX12_text_12 : decode prog_14_method_53_code 12 = .ok (.iconst 3, 1) := by decide +kernel
theorem dX12_text_13 : decode prog_14_method_53_code 13 = .ok (.invokestatic 56, 3) := by decide +kernel
theorem dX12_text_16 : decode prog_14_method_53_code 16 = .ok (.ifCond .ne 10, 3) := by decide +kernel
theorem dX12_text_19 : decode prog_14_method_53_code 19 = .ok (.aload_n 0, 1) := by decide +kernel
theorem dX12_text_20 : decode prog_14_method_53_code 20 = .ok (.iconst 0, 1) := by decide +kernel
theorem dX12_text_21 : decode prog_14_method_53_code 21 = .ok (.putfield 78, 3) := by decide +kernel
theorem dX12_text_24 : decode prog_14_method_53_code 24 = .ok (.iconst (-1), 1) := by decide +kernel
theorem dX12_text_25 : decode prog_14_method_53_code 25 = .ok (.ireturn, 1) := by decide +kernel
theorem dX12_text_26 : decode prog_14_method_53_code 26 = .ok (.aload_n 0, 1) := by decide +kernel
theorem dX12_text_27 : decode prog_14_method_53_code 27 = .ok (.iconst 0, 1) := by decide +kernel
theorem dX12_text_28 : decode prog_14_method_53_code 28 = .ok (.putfield 177, 3) := by decide +kernel
theorem dX12_text_31 : decode prog_14_method_53_code 31 = .ok (.aload_n 0, 1) := by decide +kernel
theorem dX12_text_32 : decode prog_14_method_53_code 32 = .ok (.iconst 0, 1) := by decide +kernel
theorem dX12_text_33 : decode prog_14_method_53_code 33 = .ok (.putfield 81, 3) := by decide +kernel
theorem dX12_text_36 : decode prog_14_method_53_code 36 = .ok (.aload_n 0, 1) := by decide +kernel
theorem dX12_text_37 : decode prog_14_method_53_code 37 = .ok (.iload_n 1, 1) := by decide +kernel
theorem dX12_text_38 : decode prog_14_method_53_code 38 = .ok (.putfield 146, 3) := by decide +kernel
theorem dX12_text_41 : decode prog_14_method_53_code 41 = .ok (.aload_n 0, 1) := by decide +kernel
theorem dX12_text_42 : decode prog_14_method_53_code 42 = .ok (.invokevirtual 186, 3) := by decide +kernel
theorem dX12_text_45 : decode prog_14_method_53_code 45 = .ok (.iload_n 1, 1) := by decide +kernel
theorem dX12_text_46 : decode prog_14_method_53_code 46 = .ok (.ifCond .ne 10, 3) := by decide +kernel
theorem dX12_text_49 : decode prog_14_method_53_code 49 = .ok (.aload_n 0, 1) := by decide +kernel
theorem dX12_text_50 : decode prog_14_method_53_code 50 = .ok (.invokevirtual 268, 3) := by decide +kernel
theorem dX12_text_53 : decode prog_14_method_53_code 53 = .ok (.goto 7, 3) := by decide +kernel
theorem dX12_text_56 : decode prog_14_method_53_code 56 = .ok (.aload_n 0, 1) := by decide +kernel
theorem dX12_text_57 : decode prog_14_method_53_code 57 = .ok (.invokevirtual 271, 3) := by decide +kernel
theorem dX12_text_60 : decode prog_14_method_53_code 60 = .ok (.istore_n 2, 1) := by decide +kernel
theorem dX12_text_61 : decode prog_14_method_53_code 61 = .ok (.aload_n 0, 1) := by decide +kernel
theorem dX12_text_62 : decode prog_14_method_53_code 62 = .ok (.iconst 0, 1) := by decide +kernel
theorem dX12_text_63 : decode prog_14_method_53_code 63 = .ok (.putfield 78, 3) := by decide +kernel
theorem dX12_text_66 : decode prog_14_method_53_code 66 = .ok (.iload_n 2, 1) := by decide +kernel
theorem dX12_text_67 : decode prog_14_method_53_code 67 = .ok (.ifCond .eq 9, 3) := by decide +kernel
theorem dX12_text_70 : decode prog_14_method_53_code 70 = .ok (.aload_n 0, 1) := by decide +kernel
theorem dX12_text_71 : decode prog_14_method_53_code 71 = .ok (.iload_n 1, 1) := by decide +kernel
theorem dX12_text_72 : decode prog_14_method_53_code 72 = .ok (.invokevirtual 274, 3) := by decide +kernel
theorem dX12_text_75 : decode prog_14_method_53_code 75 = .ok (.ireturn, 1) := by decide +kernel
theorem dX12_text_76 : decode prog_14_method_53_code 76 = .ok (.aload_n 0, 1) := by decide +kernel
theorem dX12_text_77 : decode prog_14_method_53_code 77 = .ok (.aload_n 0, 1) := by decide +kernel
theorem dX12_text_78 : decode prog_14_method_53_code 78 = .ok (.getfield 177, 3) := by decide +kernel
theorem dX12_text_81 : decode prog_14_method_53_code 81 = .ok (.putfield 265, 3) := by decide +kernel
theorem dX12_text_84 : decode prog_14_method_53_code 84 = .ok (.aload_n 0, 1) := by decide +kernel
theorem dX12_text_85 : decode prog_14_method_53_code 85 = .ok (.aload_n 0, 1) := by decide +kernel
theorem dX12_text_86 : decode prog_14_method_53_code 86 = .ok (.getfield 180, 3) := by decide +kernel
theorem dX12_text_89 : decode prog_14_method_53_code 89 = .ok (.putfield 40, 3) := by decide +kernel
theorem dX12_text_92 : decode prog_14_method_53_code 92 = .ok (.iconst (-1), 1) := by decide +kernel
theorem dX12_text_93 : decode prog_14_method_53_code 93 = .ok (.ireturn, 1) := by decide +kernel
theorem dX12_fault_0 : decode prog_14_method_54_code 0 = .ok (.iload_n 1, 1) := by decide +kernel
theorem dX12_fault_1 : decode prog_14_method_54_code 1 = .ok (.ifCond .ne 10, 3) := by decide +kernel
theorem dX12_fault_4 : decode prog_14_method_54_code 4 = .ok (.aload_n 0, 1) := by decide +kernel
theorem dX12_fault_5 : decode prog_14_method_54_code 5 = .ok (.getfield 265, 3) := by decide +kernel
theorem dX12_fault_8 : decode prog_14_method_54_code 8 = .ok (.goto 16, 3) := by decide +kernel
theorem dX12_fault_11 : decode prog_14_method_54_code 11 = .ok (.iload_n 1, 1) := by decide +kernel
theorem dX12_fault_12 : decode prog_14_method_54_code 12 = .ok (.iconst 1, 1) := by decide +kernel
theorem dX12_fault_13 : decode prog_14_method_54_code 13 = .ok (.if_icmp .ne 10, 3) := by decide +kernel
theorem dX12_fault_16 : decode prog_14_method_54_code 16 = .ok (.aload_n 0, 1) := by decide +kernel
theorem dX12_fault_17 : decode prog_14_method_54_code 17 = .ok (.getfield 40, 3) := by decide +kernel
theorem dX12_fault_20 : decode prog_14_method_54_code 20 = .ok (.goto 4, 3) := by decide +kernel
theorem dX12_fault_23 : decode prog_14_method_54_code 23 = .ok (.iconst (-1), 1) := by decide +kernel
theorem dX12_fault_24 : decode prog_14_method_54_code 24 = .ok (.ireturn, 1) := by decide +kernel
theorem dX12_both_0 : decode prog_14_method_55_code 0 = .ok (.iload_n 0, 1) := by decide +kernel
theorem dX12_both_1 : decode prog_14_method_55_code 1 = .ok (.tableswitch 100 23 31 #[51, 55, 59, 100, 63, 74, 85, 100, 96], 51) := by decide +kernel
theorem dX12_both_52 : decode prog_14_method_55_code 52 = .ok (.iload_n 1, 1) := by decide +kernel
theorem dX12_both_53 : decode prog_14_method_55_code 53 = .ok (.iload_n 2, 1) := by decide +kernel
theorem dX12_both_54 : decode prog_14_method_55_code 54 = .ok (.iadd, 1) := by decide +kernel
theorem dX12_both_55 : decode prog_14_method_55_code 55 = .ok (.ireturn, 1) := by decide +kernel
theorem dX12_both_56 : decode prog_14_method_55_code 56 = .ok (.iload_n 1, 1) := by decide +kernel
theorem dX12_both_57 : decode prog_14_method_55_code 57 = .ok (.iload_n 2, 1) := by decide +kernel
theorem dX12_both_58 : decode prog_14_method_55_code 58 = .ok (.isub, 1) := by decide +kernel
theorem dX12_both_59 : decode prog_14_method_55_code 59 = .ok (.ireturn, 1) := by decide +kernel
theorem dX12_both_60 : decode prog_14_method_55_code 60 = .ok (.iload_n 1, 1) := by decide +kernel
theorem dX12_both_61 : decode prog_14_method_55_code 61 = .ok (.iload_n 2, 1) := by decide +kernel
theorem dX12_both_62 : decode prog_14_method_55_code 62 = .ok (.imul, 1) := by decide +kernel
theorem dX12_both_63 : decode prog_14_method_55_code 63 = .ok (.ireturn, 1) := by decide +kernel
theorem dX12_both_64 : decode prog_14_method_55_code 64 = .ok (.iload_n 1, 1) := by decide +kernel
theorem dX12_both_65 : decode prog_14_method_55_code 65 = .ok (.iload_n 2, 1) := by decide +kernel
theorem dX12_both_66 : decode prog_14_method_55_code 66 = .ok (.if_icmp .ge 7, 3) := by decide +kernel
theorem dX12_both_69 : decode prog_14_method_55_code 69 = .ok (.iconst 1, 1) := by decide +kernel
theorem dX12_both_70 : decode prog_14_method_55_code 70 = .ok (.goto 4, 3) := by decide +kernel
theorem dX12_both_73 : decode prog_14_method_55_code 73 = .ok (.iconst 0, 1) := by decide +kernel
theorem dX12_both_74 : decode prog_14_method_55_code 74 = .ok (.ireturn, 1) := by decide +kernel
theorem dX12_both_75 : decode prog_14_method_55_code 75 = .ok (.iload_n 1, 1) := by decide +kernel
theorem dX12_both_76 : decode prog_14_method_55_code 76 = .ok (.iload_n 2, 1) := by decide +kernel
theorem dX12_both_77 : decode prog_14_method_55_code 77 = .ok (.if_icmp .ne 7, 3) := by decide +kernel
theorem dX12_both_80 : decode prog_14_method_55_code 80 = .ok (.iconst 1, 1) := by decide +kernel
theorem dX12_both_81 : decode prog_14_method_55_code 81 = .ok (.goto 4, 3) := by decide +kernel
theorem dX12_both_84 : decode prog_14_method_55_code 84 = .ok (.iconst 0, 1) := by decide +kernel
theorem dX12_both_85 : decode prog_14_method_55_code 85 = .ok (.ireturn, 1) := by decide +kernel
theorem dX12_both_86 : decode prog_14_method_55_code 86 = .ok (.iload_n 1, 1) := by decide +kernel
theorem dX12_both_87 : decode prog_14_method_55_code 87 = .ok (.iload_n 2, 1) := by decide +kernel
theorem dX12_both_88 : decode prog_14_method_55_code 88 = .ok (.if_icmp .le 7, 3) := by decide +kernel
theorem dX12_both_91 : decode prog_14_method_55_code 91 = .ok (.iconst 1, 1) := by decide +kernel
theorem dX12_both_92 : decode prog_14_method_55_code 92 = .ok (.goto 4, 3) := by decide +kernel
theorem dX12_both_95 : decode prog_14_method_55_code 95 = .ok (.iconst 0, 1) := by decide +kernel
theorem dX12_both_96 : decode prog_14_method_55_code 96 = .ok (.ireturn, 1) := by decide +kernel
theorem dX12_both_97 : decode prog_14_method_55_code 97 = .ok (.iload_n 1, 1) := by decide +kernel
theorem dX12_both_98 : decode prog_14_method_55_code 98 = .ok (.iload_n 2, 1) := by decide +kernel
theorem dX12_both_99 : decode prog_14_method_55_code 99 = .ok (.iand, 1) := by decide +kernel
theorem dX12_both_100 : decode prog_14_method_55_code 100 = .ok (.ireturn, 1) := by decide +kernel
theorem dX12_both_101 : decode prog_14_method_55_code 101 = .ok (.iload_n 1, 1) := by decide +kernel
theorem dX12_both_102 : decode prog_14_method_55_code 102 = .ok (.iload_n 2, 1) := by decide +kernel
theorem dX12_both_103 : decode prog_14_method_55_code 103 = .ok (.ior, 1) := by decide +kernel
theorem dX12_both_104 : decode prog_14_method_55_code 104 = .ok (.ireturn, 1) := by decide +kernel
theorem dX12_comesTo_0 : decode prog_14_method_56_code 0 = .ok (.iconst 0, 1) := by decide +kernel
theorem dX12_comesTo_1 : decode prog_14_method_56_code 1 = .ok (.istore 4, 2) := by decide +kernel
theorem dX12_comesTo_3 : decode prog_14_method_56_code 3 = .ok (.iload_n 2, 1) := by decide +kernel
theorem dX12_comesTo_4 : decode prog_14_method_56_code 4 = .ok (.istore 5, 2) := by decide +kernel
theorem dX12_comesTo_6 : decode prog_14_method_56_code 6 = .ok (.iload 5, 2) := by decide +kernel
theorem dX12_comesTo_8 : decode prog_14_method_56_code 8 = .ok (.iload_n 3, 1) := by decide +kernel
theorem dX12_comesTo_9 : decode prog_14_method_56_code 9 = .ok (.if_icmp .ge 177, 3) := by decide +kernel
theorem dX12_comesTo_12 : decode prog_14_method_56_code 12 = .ok (.aload_n 0, 1) := by decide +kernel
theorem dX12_comesTo_13 : decode prog_14_method_56_code 13 = .ok (.getfield 7, 3) := by decide +kernel
theorem dX12_comesTo_16 : decode prog_14_method_56_code 16 = .ok (.sipush 887, 3) := by decide +kernel
theorem dX12_comesTo_19 : decode prog_14_method_56_code 19 = .ok (.sipush 820, 3) := by decide +kernel
theorem dX12_comesTo_22 : decode prog_14_method_56_code 22 = .ok (.iload_n 1, 1) := by decide +kernel
theorem dX12_comesTo_23 : decode prog_14_method_56_code 23 = .ok (.imul, 1) := by decide +kernel
theorem dX12_comesTo_24 : decode prog_14_method_56_code 24 = .ok (.iadd, 1) := by decide +kernel
theorem dX12_comesTo_25 : decode prog_14_method_56_code 25 = .ok (.iconst 2, 1) := by decide +kernel
theorem dX12_comesTo_26 : decode prog_14_method_56_code 26 = .ok (.iload 5, 2) := by decide +kernel
theorem dX12_comesTo_28 : decode prog_14_method_56_code 28 = .ok (.imul, 1) := by decide +kernel
theorem dX12_comesTo_29 : decode prog_14_method_56_code 29 = .ok (.iadd, 1) := by decide +kernel
theorem dX12_comesTo_30 : decode prog_14_method_56_code 30 = .ok (.iaload, 1) := by decide +kernel
theorem dX12_comesTo_31 : decode prog_14_method_56_code 31 = .ok (.istore 6, 2) := by decide +kernel
theorem dX12_comesTo_33 : decode prog_14_method_56_code 33 = .ok (.aload_n 0, 1) := by decide +kernel
theorem dX12_comesTo_34 : decode prog_14_method_56_code 34 = .ok (.getfield 7, 3) := by decide +kernel
theorem dX12_comesTo_37 : decode prog_14_method_56_code 37 = .ok (.sipush 887, 3) := by decide +kernel
theorem dX12_comesTo_40 : decode prog_14_method_56_code 40 = .ok (.sipush 820, 3) := by decide +kernel
theorem dX12_comesTo_43 : decode prog_14_method_56_code 43 = .ok (.iload_n 1, 1) := by decide +kernel
theorem dX12_comesTo_44 : decode prog_14_method_56_code 44 = .ok (.imul, 1) := by decide +kernel
theorem dX12_comesTo_45 : decode prog_14_method_56_code 45 = .ok (.iadd, 1) := by decide +kernel
theorem dX12_comesTo_46 : decode prog_14_method_56_code 46 = .ok (.iconst 2, 1) := by decide +kernel
theorem dX12_comesTo_47 : decode prog_14_method_56_code 47 = .ok (.iload 5, 2) := by decide +kernel
theorem dX12_comesTo_49 : decode prog_14_method_56_code 49 = .ok (.imul, 1) := by decide +kernel
theorem dX12_comesTo_50 : decode prog_14_method_56_code 50 = .ok (.iadd, 1) := by decide +kernel
theorem dX12_comesTo_51 : decode prog_14_method_56_code 51 = .ok (.iconst 1, 1) := by decide +kernel
theorem dX12_comesTo_52 : decode prog_14_method_56_code 52 = .ok (.iadd, 1) := by decide +kernel
theorem dX12_comesTo_53 : decode prog_14_method_56_code 53 = .ok (.iaload, 1) := by decide +kernel
theorem dX12_comesTo_54 : decode prog_14_method_56_code 54 = .ok (.istore 7, 2) := by decide +kernel
theorem dX12_comesTo_56 : decode prog_14_method_56_code 56 = .ok (.iload 6, 2) := by decide +kernel
theorem dX12_comesTo_58 : decode prog_14_method_56_code 58 = .ok (.bipush 23, 2) := by decide +kernel
theorem dX12_comesTo_60 : decode prog_14_method_56_code 60 = .ok (.if_icmp .ge 33, 3) := by decide +kernel
theorem dX12_comesTo_63 : decode prog_14_method_56_code 63 = .ok (.aload_n 0, 1) := by decide +kernel
theorem dX12_comesTo_64 : decode prog_14_method_56_code 64 = .ok (.getfield 34, 3) := by decide +kernel
theorem dX12_comesTo_67 : decode prog_14_method_56_code 67 = .ok (.iload 4, 2) := by decide +kernel
theorem dX12_comesTo_69 : decode prog_14_method_56_code 69 = .ok (.iload 6, 2) := by decide +kernel
theorem dX12_comesTo_71 : decode prog_14_method_56_code 71 = .ok (.ifCond .ne 8, 3) := by decide +kernel
theorem dX12_comesTo_74 : decode prog_14_method_56_code 74 = .ok (.iload 7, 2) := by decide +kernel
theorem dX12_comesTo_76 : decode prog_14_method_56_code 76 = .ok (.goto 10, 3) := by decide +kernel
theorem dX12_comesTo_79 : decode prog_14_method_56_code 79 = .ok (.aload_n 0, 1) := by decide +kernel
theorem dX12_comesTo_80 : decode prog_14_method_56_code 80 = .ok (.getfield 37, 3) := by decide +kernel
theorem dX12_comesTo_83 : decode prog_14_method_56_code 83 = .ok (.iload 6, 2) := by decide +kernel
theorem dX12_comesTo_85 : decode prog_14_method_56_code 85 = .ok (.iaload, 1) := by decide +kernel
theorem dX12_comesTo_86 : decode prog_14_method_56_code 86 = .ok (.iastore, 1) := by decide +kernel
theorem dX12_comesTo_87 : decode prog_14_method_56_code 87 = .ok (.iinc 4 1, 3) := by decide +kernel
theorem dX12_comesTo_90 : decode prog_14_method_56_code 90 = .ok (.goto 90, 3) := by decide +kernel
theorem dX12_comesTo_93 : decode prog_14_method_56_code 93 = .ok (.iload 6, 2) := by decide +kernel
theorem dX12_comesTo_95 : decode prog_14_method_56_code 95 = .ok (.bipush 26, 2) := by decide +kernel
theorem dX12_comesTo_97 : decode prog_14_method_56_code 97 = .ok (.if_icmp .ne 20, 3) := by decide +kernel
theorem dX12_comesTo_100 : decode prog_14_method_56_code 100 = .ok (.aload_n 0, 1) := by decide +kernel
theorem dX12_comesTo_101 : decode prog_14_method_56_code 101 = .ok (.getfield 34, 3) := by decide +kernel
theorem dX12_comesTo_104 : decode prog_14_method_56_code 104 = .ok (.iload 4, 2) := by decide +kernel
theorem dX12_comesTo_106 : decode prog_14_method_56_code 106 = .ok (.iconst 1, 1) := by decide +kernel
theorem dX12_comesTo_107 : decode prog_14_method_56_code 107 = .ok (.isub, 1) := by decide +kernel
theorem dX12_comesTo_108 : decode prog_14_method_56_code 108 = .ok (.dup2, 1) := by decide +kernel
theorem dX12_comesTo_109 : decode prog_14_method_56_code 109 = .ok (.iaload, 1) := by decide +kernel
theorem dX12_comesTo_110 : decode prog_14_method_56_code 110 = .ok (.iload 7, 2) := by decide +kernel
theorem dX12_comesTo_112 : decode prog_14_method_56_code 112 = .ok (.idiv, 1) := by decide +kernel
theorem dX12_comesTo_113 : decode prog_14_method_56_code 113 = .ok (.iastore, 1) := by decide +kernel
theorem dX12_comesTo_114 : decode prog_14_method_56_code 114 = .ok (.goto 66, 3) := by decide +kernel
theorem dX12_comesTo_117 : decode prog_14_method_56_code 117 = .ok (.iload 6, 2) := by decide +kernel
theorem dX12_comesTo_119 : decode prog_14_method_56_code 119 = .ok (.bipush 30, 2) := by decide +kernel
theorem dX12_comesTo_121 : decode prog_14_method_56_code 121 = .ok (.if_icmp .ne 26, 3) := by decide +kernel
theorem dX12_comesTo_124 : decode prog_14_method_56_code 124 = .ok (.aload_n 0, 1) := by decide +kernel
theorem dX12_comesTo_125 : decode prog_14_method_56_code 125 = .ok (.getfield 34, 3) := by decide +kernel
theorem dX12_comesTo_128 : decode prog_14_method_56_code 128 = .ok (.iload 4, 2) := by decide +kernel
theorem dX12_comesTo_130 : decode prog_14_method_56_code 130 = .ok (.iconst 1, 1) := by decide +kernel
theorem dX12_comesTo_131 : decode prog_14_method_56_code 131 = .ok (.isub, 1) := by decide +kernel
theorem dX12_comesTo_132 : decode prog_14_method_56_code 132 = .ok (.iconst 1, 1) := by decide +kernel
theorem dX12_comesTo_133 : decode prog_14_method_56_code 133 = .ok (.aload_n 0, 1) := by decide +kernel
theorem dX12_comesTo_134 : decode prog_14_method_56_code 134 = .ok (.getfield 34, 3) := by decide +kernel
theorem dX12_comesTo_137 : decode prog_14_method_56_code 137 = .ok (.iload 4, 2) := by decide +kernel
theorem dX12_comesTo_139 : decode prog_14_method_56_code 139 = .ok (.iconst 1, 1) := by decide +kernel
theorem dX12_comesTo_140 : decode prog_14_method_56_code 140 = .ok (.isub, 1) := by decide +kernel
theorem dX12_comesTo_141 : decode prog_14_method_56_code 141 = .ok (.iaload, 1) := by decide +kernel
theorem dX12_comesTo_142 : decode prog_14_method_56_code 142 = .ok (.isub, 1) := by decide +kernel
theorem dX12_comesTo_143 : decode prog_14_method_56_code 143 = .ok (.iastore, 1) := by decide +kernel
theorem dX12_comesTo_144 : decode prog_14_method_56_code 144 = .ok (.goto 36, 3) := by decide +kernel
theorem dX12_comesTo_147 : decode prog_14_method_56_code 147 = .ok (.iinc 4 (-1), 3) := by decide +kernel
theorem dX12_comesTo_150 : decode prog_14_method_56_code 150 = .ok (.aload_n 0, 1) := by decide +kernel
theorem dX12_comesTo_151 : decode prog_14_method_56_code 151 = .ok (.getfield 34, 3) := by decide +kernel
theorem dX12_comesTo_154 : decode prog_14_method_56_code 154 = .ok (.iload 4, 2) := by decide +kernel
theorem dX12_comesTo_156 : decode prog_14_method_56_code 156 = .ok (.iconst 1, 1) := by decide +kernel
theorem dX12_comesTo_157 : decode prog_14_method_56_code 157 = .ok (.isub, 1) := by decide +kernel
theorem dX12_comesTo_158 : decode prog_14_method_56_code 158 = .ok (.iload 6, 2) := by decide +kernel
theorem dX12_comesTo_160 : decode prog_14_method_56_code 160 = .ok (.aload_n 0, 1) := by decide +kernel
theorem dX12_comesTo_161 : decode prog_14_method_56_code 161 = .ok (.getfield 34, 3) := by decide +kernel
theorem dX12_comesTo_164 : decode prog_14_method_56_code 164 = .ok (.iload 4, 2) := by decide +kernel
theorem dX12_comesTo_166 : decode prog_14_method_56_code 166 = .ok (.iconst 1, 1) := by decide +kernel
theorem dX12_comesTo_167 : decode prog_14_method_56_code 167 = .ok (.isub, 1) := by decide +kernel
theorem dX12_comesTo_168 : decode prog_14_method_56_code 168 = .ok (.iaload, 1) := by decide +kernel
theorem dX12_comesTo_169 : decode prog_14_method_56_code 169 = .ok (.aload_n 0, 1) := by decide +kernel
theorem dX12_comesTo_170 : decode prog_14_method_56_code 170 = .ok (.getfield 34, 3) := by decide +kernel
theorem dX12_comesTo_173 : decode prog_14_method_56_code 173 = .ok (.iload 4, 2) := by decide +kernel
theorem dX12_comesTo_175 : decode prog_14_method_56_code 175 = .ok (.iaload, 1) := by decide +kernel
theorem dX12_comesTo_176 : decode prog_14_method_56_code 176 = .ok (.invokestatic 277, 3) := by decide +kernel
theorem dX12_comesTo_179 : decode prog_14_method_56_code 179 = .ok (.iastore, 1) := by decide +kernel
theorem dX12_comesTo_180 : decode prog_14_method_56_code 180 = .ok (.iinc 5 1, 3) := by decide +kernel
theorem dX12_comesTo_183 : decode prog_14_method_56_code 183 = .ok (.goto (-177), 3) := by decide +kernel
theorem dX12_comesTo_186 : decode prog_14_method_56_code 186 = .ok (.aload_n 0, 1) := by decide +kernel
theorem dX12_comesTo_187 : decode prog_14_method_56_code 187 = .ok (.getfield 34, 3) := by decide +kernel
theorem dX12_comesTo_190 : decode prog_14_method_56_code 190 = .ok (.iconst 0, 1) := by decide +kernel
theorem dX12_comesTo_191 : decode prog_14_method_56_code 191 = .ok (.iaload, 1) := by decide +kernel
theorem dX12_comesTo_192 : decode prog_14_method_56_code 192 = .ok (.ireturn, 1) := by decide +kernel
theorem dX12_isSo_0 : decode prog_14_method_57_code 0 = .ok (.aload_n 0, 1) := by decide +kernel
theorem dX12_isSo_1 : decode prog_14_method_57_code 1 = .ok (.getfield 7, 3) := by decide +kernel
theorem dX12_isSo_4 : decode prog_14_method_57_code 4 = .ok (.sipush 855, 3) := by decide +kernel
theorem dX12_isSo_7 : decode prog_14_method_57_code 7 = .ok (.iload_n 1, 1) := by decide +kernel
theorem dX12_isSo_8 : decode prog_14_method_57_code 8 = .ok (.iadd, 1) := by decide +kernel
theorem dX12_isSo_9 : decode prog_14_method_57_code 9 = .ok (.iaload, 1) := by decide +kernel
theorem dX12_isSo_10 : decode prog_14_method_57_code 10 = .ok (.aload_n 0, 1) := by decide +kernel
theorem dX12_isSo_11 : decode prog_14_method_57_code 11 = .ok (.getfield 7, 3) := by decide +kernel
theorem dX12_isSo_14 : decode prog_14_method_57_code 14 = .ok (.sipush 839, 3) := by decide +kernel
theorem dX12_isSo_17 : decode prog_14_method_57_code 17 = .ok (.iload_n 1, 1) := by decide +kernel
theorem dX12_isSo_18 : decode prog_14_method_57_code 18 = .ok (.iadd, 1) := by decide +kernel
theorem dX12_isSo_19 : decode prog_14_method_57_code 19 = .ok (.iaload, 1) := by decide +kernel
theorem dX12_isSo_20 : decode prog_14_method_57_code 20 = .ok (.if_icmp .eq 32, 3) := by decide +kernel
theorem dX12_isSo_23 : decode prog_14_method_57_code 23 = .ok (.aload_n 0, 1) := by decide +kernel
theorem dX12_isSo_24 : decode prog_14_method_57_code 24 = .ok (.iconst 0, 1) := by decide +kernel
theorem dX12_isSo_25 : decode prog_14_method_57_code 25 = .ok (.aload_n 0, 1) := by decide +kernel
theorem dX12_isSo_26 : decode prog_14_method_57_code 26 = .ok (.getfield 7, 3) := by decide +kernel
theorem dX12_isSo_29 : decode prog_14_method_57_code 29 = .ok (.sipush 839, 3) := by decide +kernel
theorem dX12_isSo_32 : decode prog_14_method_57_code 32 = .ok (.iload_n 1, 1) := by decide +kernel
theorem dX12_isSo_33 : decode prog_14_method_57_code 33 = .ok (.iadd, 1) := by decide +kernel
theorem dX12_isSo_34 : decode prog_14_method_57_code 34 = .ok (.iaload, 1) := by decide +kernel
theorem dX12_isSo_35 : decode prog_14_method_57_code 35 = .ok (.aload_n 0, 1) := by decide +kernel
theorem dX12_isSo_36 : decode prog_14_method_57_code 36 = .ok (.getfield 7, 3) := by decide +kernel
theorem dX12_isSo_39 : decode prog_14_method_57_code 39 = .ok (.sipush 855, 3) := by decide +kernel
theorem dX12_isSo_42 : decode prog_14_method_57_code 42 = .ok (.iload_n 1, 1) := by decide +kernel
theorem dX12_isSo_43 : decode prog_14_method_57_code 43 = .ok (.iadd, 1) := by decide +kernel
theorem dX12_isSo_44 : decode prog_14_method_57_code 44 = .ok (.iaload, 1) := by decide +kernel
theorem dX12_isSo_45 : decode prog_14_method_57_code 45 = .ok (.invokevirtual 280, 3) := by decide +kernel
theorem dX12_isSo_48 : decode prog_14_method_57_code 48 = .ok (.iconst 1, 1) := by decide +kernel
theorem dX12_isSo_49 : decode prog_14_method_57_code 49 = .ok (.if_icmp .ne 7, 3) := by decide +kernel
theorem dX12_isSo_52 : decode prog_14_method_57_code 52 = .ok (.iconst 1, 1) := by decide +kernel
theorem dX12_isSo_53 : decode prog_14_method_57_code 53 = .ok (.goto 4, 3) := by decide +kernel
theorem dX12_isSo_56 : decode prog_14_method_57_code 56 = .ok (.iconst 0, 1) := by decide +kernel
theorem dX12_isSo_57 : decode prog_14_method_57_code 57 = .ok (.ireturn, 1) := by decide +kernel
theorem dX12_says_0 : decode prog_14_method_58_code 0 = .ok (.iconst 0, 1) := by decide +kernel
theorem dX12_says_1 : decode prog_14_method_58_code 1 = .ok (.istore 4, 2) := by decide +kernel
theorem dX12_says_3 : decode prog_14_method_58_code 3 = .ok (.iload 4, 2) := by decide +kernel
theorem dX12_says_5 : decode prog_14_method_58_code 5 = .ok (.aload_n 0, 1) := by decide +kernel
theorem dX12_says_6 : decode prog_14_method_58_code 6 = .ok (.getfield 7, 3) := by decide +kernel
theorem dX12_says_9 : decode prog_14_method_58_code 9 = .ok (.bipush 40, 2) := by decide +kernel
theorem dX12_says_11 : decode prog_14_method_58_code 11 = .ok (.iaload, 1) := by decide +kernel
theorem dX12_says_12 : decode prog_14_method_58_code 12 = .ok (.if_icmp .ge 69, 3) := by decide +kernel
theorem dX12_says_15 : decode prog_14_method_58_code 15 = .ok (.aload_n 0, 1) := by decide +kernel
theorem dX12_says_16 : decode prog_14_method_58_code 16 = .ok (.getfield 7, 3) := by decide +kernel
theorem dX12_says_19 : decode prog_14_method_58_code 19 = .ok (.sipush 871, 3) := by decide +kernel
theorem dX12_says_22 : decode prog_14_method_58_code 22 = .ok (.iload 4, 2) := by decide +kernel
theorem dX12_says_24 : decode prog_14_method_58_code 24 = .ok (.iadd, 1) := by decide +kernel
theorem dX12_says_25 : decode prog_14_method_58_code 25 = .ok (.iaload, 1) := by decide +kernel
theorem dX12_says_26 : decode prog_14_method_58_code 26 = .ok (.iload_n 1, 1) := by decide +kernel
theorem dX12_says_27 : decode prog_14_method_58_code 27 = .ok (.if_icmp .ne 48, 3) := by decide +kernel
theorem dX12_says_30 : decode prog_14_method_58_code 30 = .ok (.aload_n 0, 1) := by decide +kernel
theorem dX12_says_31 : decode prog_14_method_58_code 31 = .ok (.iload 4, 2) := by decide +kernel
theorem dX12_says_33 : decode prog_14_method_58_code 33 = .ok (.invokevirtual 283, 3) := by decide +kernel
theorem dX12_says_36 : decode prog_14_method_58_code 36 = .ok (.ifCond .eq 39, 3) := by decide +kernel
theorem dX12_says_39 : decode prog_14_method_58_code 39 = .ok (.iconst 0, 1) := by decide +kernel
theorem dX12_says_40 : decode prog_14_method_58_code 40 = .ok (.iload_n 3, 1) := by decide +kernel
theorem dX12_says_41 : decode prog_14_method_58_code 41 = .ok (.aload_n 0, 1) := by decide +kernel
theorem dX12_says_42 : decode prog_14_method_58_code 42 = .ok (.iconst 0, 1) := by decide +kernel
theorem dX12_says_43 : decode prog_14_method_58_code 43 = .ok (.aload_n 0, 1) := by decide +kernel
theorem dX12_says_44 : decode prog_14_method_58_code 44 = .ok (.getfield 7, 3) := by decide +kernel
theorem dX12_says_47 : decode prog_14_method_58_code 47 = .ok (.sipush 823, 3) := by decide +kernel
theorem dX12_says_50 : decode prog_14_method_58_code 50 = .ok (.iload 4, 2) := by decide +kernel
theorem dX12_says_52 : decode prog_14_method_58_code 52 = .ok (.iadd, 1) := by decide +kernel
theorem dX12_says_53 : decode prog_14_method_58_code 53 = .ok (.iaload, 1) := by decide +kernel
theorem dX12_says_54 : decode prog_14_method_58_code 54 = .ok (.aload_n 0, 1) := by decide +kernel
theorem dX12_says_55 : decode prog_14_method_58_code 55 = .ok (.getfield 7, 3) := by decide +kernel
theorem dX12_says_58 : decode prog_14_method_58_code 58 = .ok (.sipush 839, 3) := by decide +kernel
theorem dX12_says_61 : decode prog_14_method_58_code 61 = .ok (.iload 4, 2) := by decide +kernel
theorem dX12_says_63 : decode prog_14_method_58_code 63 = .ok (.iadd, 1) := by decide +kernel
theorem dX12_says_64 : decode prog_14_method_58_code 64 = .ok (.iaload, 1) := by decide +kernel
theorem dX12_says_65 : decode prog_14_method_58_code 65 = .ok (.invokevirtual 280, 3) := by decide +kernel
theorem dX12_says_68 : decode prog_14_method_58_code 68 = .ok (.invokestatic 286, 3) := by decide +kernel
theorem dX12_says_71 : decode prog_14_method_58_code 71 = .ok (.invokestatic 290, 3) := by decide +kernel
theorem dX12_says_74 : decode prog_14_method_58_code 74 = .ok (.ireturn, 1) := by decide +kernel
theorem dX12_says_75 : decode prog_14_method_58_code 75 = .ok (.iinc 4 1, 3) := by decide +kernel
theorem dX12_says_78 : decode prog_14_method_58_code 78 = .ok (.goto (-75), 3) := by decide +kernel
theorem dX12_says_81 : decode prog_14_method_58_code 81 = .ok (.iconst 0, 1) := by decide +kernel
theorem dX12_says_82 : decode prog_14_method_58_code 82 = .ok (.iload_n 3, 1) := by decide +kernel
theorem dX12_says_83 : decode prog_14_method_58_code 83 = .ok (.iload_n 2, 1) := by decide +kernel
theorem dX12_says_84 : decode prog_14_method_58_code 84 = .ok (.invokestatic 286, 3) := by decide +kernel
theorem dX12_says_87 : decode prog_14_method_58_code 87 = .ok (.invokestatic 290, 3) := by decide +kernel
theorem dX12_says_90 : decode prog_14_method_58_code 90 = .ok (.ireturn, 1) := by decide +kernel
theorem dX12_laysDeed_0 : decode prog_14_method_59_code 0 = .ok (.iconst 0, 1) := by decide +kernel
theorem dX12_laysDeed_1 : decode prog_14_method_59_code 1 = .ok (.istore_n 2, 1) := by decide +kernel
theorem dX12_laysDeed_2 : decode prog_14_method_59_code 2 = .ok (.iload_n 2, 1) := by decide +kernel
theorem dX12_laysDeed_3 : decode prog_14_method_59_code 3 = .ok (.aload_n 0, 1) := by decide +kernel
theorem dX12_laysDeed_4 : decode prog_14_method_59_code 4 = .ok (.getfield 37, 3) := by decide +kernel
theorem dX12_laysDeed_7 : decode prog_14_method_59_code 7 = .ok (.arraylength, 1) := by decide +kernel
theorem dX12_laysDeed_8 : decode prog_14_method_59_code 8 = .ok (.if_icmp .ge 16, 3) := by decide +kernel
theorem dX12_laysDeed_11 : decode prog_14_method_59_code 11 = .ok (.aload_n 0, 1) := by decide +kernel
theorem dX12_laysDeed_12 : decode prog_14_method_59_code 12 = .ok (.getfield 37, 3) := by decide +kernel
theorem dX12_laysDeed_15 : decode prog_14_method_59_code 15 = .ok (.iload_n 2, 1) := by decide +kernel
theorem dX12_laysDeed_16 : decode prog_14_method_59_code 16 = .ok (.iconst 0, 1) := by decide +kernel
theorem dX12_laysDeed_17 : decode prog_14_method_59_code 17 = .ok (.iastore, 1) := by decide +kernel
theorem dX12_laysDeed_18 : decode prog_14_method_59_code 18 = .ok (.iinc 2 1, 3) := by decide +kernel
theorem dX12_laysDeed_21 : decode prog_14_method_59_code 21 = .ok (.goto (-19), 3) := by decide +kernel
theorem dX12_laysDeed_24 : decode prog_14_method_59_code 24 = .ok (.aload_n 0, 1) := by decide +kernel
theorem dX12_laysDeed_25 : decode prog_14_method_59_code 25 = .ok (.getfield 37, 3) := by decide +kernel
theorem dX12_laysDeed_28 : decode prog_14_method_59_code 28 = .ok (.bipush 6, 2) := by decide +kernel
theorem dX12_laysDeed_30 : decode prog_14_method_59_code 30 = .ok (.aload_n 0, 1) := by decide +kernel
theorem dX12_laysDeed_31 : decode prog_14_method_59_code 31 = .ok (.getfield 7, 3) := by decide +kernel
theorem dX12_laysDeed_34 : decode prog_14_method_59_code 34 = .ok (.bipush 81, 2) := by decide +kernel
theorem dX12_laysDeed_36 : decode prog_14_method_59_code 36 = .ok (.iload_n 1, 1) := by decide +kernel
theorem dX12_laysDeed_37 : decode prog_14_method_59_code 37 = .ok (.iadd, 1) := by decide +kernel
theorem dX12_laysDeed_38 : decode prog_14_method_59_code 38 = .ok (.iaload, 1) := by decide +kernel
theorem dX12_laysDeed_39 : decode prog_14_method_59_code 39 = .ok (.iastore, 1) := by decide +kernel
theorem dX12_laysDeed_40 : decode prog_14_method_59_code 40 = .ok (.aload_n 0, 1) := by decide +kernel
theorem dX12_laysDeed_41 : decode prog_14_method_59_code 41 = .ok (.getfield 37, 3) := by decide +kernel
theorem dX12_laysDeed_44 : decode prog_14_method_59_code 44 = .ok (.bipush 7, 2) := by decide +kernel
theorem dX12_laysDeed_46 : decode prog_14_method_59_code 46 = .ok (.aload_n 0, 1) := by decide +kernel
theorem dX12_laysDeed_47 : decode prog_14_method_59_code 47 = .ok (.getfield 7, 3) := by decide +kernel
theorem dX12_laysDeed_50 : decode prog_14_method_59_code 50 = .ok (.bipush 21, 2) := by decide +kernel
theorem dX12_laysDeed_52 : decode prog_14_method_59_code 52 = .ok (.iload_n 1, 1) := by decide +kernel
theorem dX12_laysDeed_53 : decode prog_14_method_59_code 53 = .ok (.iadd, 1) := by decide +kernel
theorem dX12_laysDeed_54 : decode prog_14_method_59_code 54 = .ok (.iaload, 1) := by decide +kernel
theorem dX12_laysDeed_55 : decode prog_14_method_59_code 55 = .ok (.iastore, 1) := by decide +kernel
theorem dX12_laysDeed_56 : decode prog_14_method_59_code 56 = .ok (.aload_n 0, 1) := by decide +kernel
theorem dX12_laysDeed_57 : decode prog_14_method_59_code 57 = .ok (.getfield 37, 3) := by decide +kernel
theorem dX12_laysDeed_60 : decode prog_14_method_59_code 60 = .ok (.bipush 8, 2) := by decide +kernel
theorem dX12_laysDeed_62 : decode prog_14_method_59_code 62 = .ok (.aload_n 0, 1) := by decide +kernel
theorem dX12_laysDeed_63 : decode prog_14_method_59_code 63 = .ok (.getfield 7, 3) := by decide +kernel
theorem dX12_laysDeed_66 : decode prog_14_method_59_code 66 = .ok (.iconst 4, 1) := by decide +kernel
theorem dX12_laysDeed_67 : decode prog_14_method_59_code 67 = .ok (.iaload, 1) := by decide +kernel
theorem dX12_laysDeed_68 : decode prog_14_method_59_code 68 = .ok (.iastore, 1) := by decide +kernel
theorem dX12_laysDeed_69 : decode prog_14_method_59_code 69 = .ok (.aload_n 0, 1) := by decide +kernel
theorem dX12_laysDeed_70 : decode prog_14_method_59_code 70 = .ok (.getfield 37, 3) := by decide +kernel
theorem dX12_laysDeed_73 : decode prog_14_method_59_code 73 = .ok (.bipush 10, 2) := by decide +kernel
theorem dX12_laysDeed_75 : decode prog_14_method_59_code 75 = .ok (.aload_n 0, 1) := by decide +kernel
theorem dX12_laysDeed_76 : decode prog_14_method_59_code 76 = .ok (.getfield 7, 3) := by decide +kernel
theorem dX12_laysDeed_79 : decode prog_14_method_59_code 79 = .ok (.iconst 0, 1) := by decide +kernel
theorem dX12_laysDeed_80 : decode prog_14_method_59_code 80 = .ok (.iaload, 1) := by decide +kernel
theorem dX12_laysDeed_81 : decode prog_14_method_59_code 81 = .ok (.bipush 60, 2) := by decide +kernel
theorem dX12_laysDeed_83 : decode prog_14_method_59_code 83 = .ok (.idiv, 1) := by decide +kernel
theorem dX12_laysDeed_84 : decode prog_14_method_59_code 84 = .ok (.iastore, 1) := by decide +kernel
theorem dX12_laysDeed_85 : decode prog_14_method_59_code 85 = .ok (.return_, 1) := by decide +kernel
theorem dX12_loudOf_0 : decode prog_14_method_60_code 0 = .ok (.aload_n 0, 1) := by decide +kernel
theorem dX12_loudOf_1 : decode prog_14_method_60_code 1 = .ok (.iload_n 1, 1) := by decide +kernel
theorem dX12_loudOf_2 : decode prog_14_method_60_code 2 = .ok (.invokevirtual 293, 3) := by decide +kernel
theorem dX12_loudOf_5 : decode prog_14_method_60_code 5 = .ok (.aload_n 0, 1) := by decide +kernel
theorem dX12_loudOf_6 : decode prog_14_method_60_code 6 = .ok (.bipush 20, 2) := by decide +kernel
theorem dX12_loudOf_8 : decode prog_14_method_60_code 8 = .ok (.aload_n 0, 1) := by decide +kernel
theorem dX12_loudOf_9 : decode prog_14_method_60_code 9 = .ok (.getfield 7, 3) := by decide +kernel
theorem dX12_loudOf_12 : decode prog_14_method_60_code 12 = .ok (.bipush 81, 2) := by decide +kernel
theorem dX12_loudOf_14 : decode prog_14_method_60_code 14 = .ok (.iload_n 1, 1) := by decide +kernel
theorem dX12_loudOf_15 : decode prog_14_method_60_code 15 = .ok (.iadd, 1) := by decide +kernel
theorem dX12_loudOf_16 : decode prog_14_method_60_code 16 = .ok (.iaload, 1) := by decide +kernel
theorem dX12_loudOf_17 : decode prog_14_method_60_code 17 = .ok (.iconst 3, 1) := by decide +kernel
theorem dX12_loudOf_18 : decode prog_14_method_60_code 18 = .ok (.idiv, 1) := by decide +kernel
theorem dX12_loudOf_19 : decode prog_14_method_60_code 19 = .ok (.bipush 99, 2) := by decide +kernel
theorem dX12_loudOf_21 : decode prog_14_method_60_code 21 = .ok (.invokevirtual 297, 3) := by decide +kernel
theorem dX12_loudOf_24 : decode prog_14_method_60_code 24 = .ok (.ireturn, 1) := by decide +kernel
theorem dX12_wearsOf_0 : decode prog_14_method_61_code 0 = .ok (.aload_n 0, 1) := by decide +kernel
theorem dX12_wearsOf_1 : decode prog_14_method_61_code 1 = .ok (.iload_n 1, 1) := by decide +kernel
theorem dX12_wearsOf_2 : decode prog_14_method_61_code 2 = .ok (.invokevirtual 293, 3) := by decide +kernel
theorem dX12_wearsOf_5 : decode prog_14_method_61_code 5 = .ok (.aload_n 0, 1) := by decide +kernel
theorem dX12_wearsOf_6 : decode prog_14_method_61_code 6 = .ok (.bipush 22, 2) := by decide +kernel
theorem dX12_wearsOf_8 : decode prog_14_method_61_code 8 = .ok (.iconst 2, 1) := by decide +kernel
theorem dX12_wearsOf_9 : decode prog_14_method_61_code 9 = .ok (.bipush 99, 2) := by decide +kernel
theorem dX12_wearsOf_11 : decode prog_14_method_61_code 11 = .ok (.invokevirtual 297, 3) := by decide +kernel
theorem dX12_wearsOf_14 : decode prog_14_method_61_code 14 = .ok (.ireturn, 1) := by decide +kernel
theorem dX12_clapOf_0 : decode prog_14_method_62_code 0 = .ok (.aload_n 0, 1) := by decide +kernel
theorem dX12_clapOf_1 : decode prog_14_method_62_code 1 = .ok (.iload_n 2, 1) := by decide +kernel
theorem dX12_clapOf_2 : decode prog_14_method_62_code 2 = .ok (.invokevirtual 293, 3) := by decide +kernel
theorem dX12_clapOf_5 : decode prog_14_method_62_code 5 = .ok (.aload_n 0, 1) := by decide +kernel
theorem dX12_clapOf_6 : decode prog_14_method_62_code 6 = .ok (.getfield 37, 3) := by decide +kernel
theorem dX12_clapOf_9 : decode prog_14_method_62_code 9 = .ok (.iconst 1, 1) := by decide +kernel
theorem dX12_clapOf_10 : decode prog_14_method_62_code 10 = .ok (.iload_n 1, 1) := by decide +kernel
theorem dX12_clapOf_11 : decode prog_14_method_62_code 11 = .ok (.iastore, 1) := by decide +kernel
theorem dX12_clapOf_12 : decode prog_14_method_62_code 12 = .ok (.aload_n 0, 1) := by decide +kernel
theorem dX12_clapOf_13 : decode prog_14_method_62_code 13 = .ok (.getfield 37, 3) := by decide +kernel
theorem dX12_clapOf_16 : decode prog_14_method_62_code 16 = .ok (.iconst 2, 1) := by decide +kernel
theorem dX12_clapOf_17 : decode prog_14_method_62_code 17 = .ok (.aload_n 0, 1) := by decide +kernel
theorem dX12_clapOf_18 : decode prog_14_method_62_code 18 = .ok (.getfield 7, 3) := by decide +kernel
theorem dX12_clapOf_21 : decode prog_14_method_62_code 21 = .ok (.bipush 45, 2) := by decide +kernel
theorem dX12_clapOf_23 : decode prog_14_method_62_code 23 = .ok (.iload_n 1, 1) := by decide +kernel
theorem dX12_clapOf_24 : decode prog_14_method_62_code 24 = .ok (.iadd, 1) := by decide +kernel
theorem dX12_clapOf_25 : decode prog_14_method_62_code 25 = .ok (.iaload, 1) := by decide +kernel
theorem dX12_clapOf_26 : decode prog_14_method_62_code 26 = .ok (.iastore, 1) := by decide +kernel
theorem dX12_clapOf_27 : decode prog_14_method_62_code 27 = .ok (.aload_n 0, 1) := by decide +kernel
theorem dX12_clapOf_28 : decode prog_14_method_62_code 28 = .ok (.getfield 37, 3) := by decide +kernel
theorem dX12_clapOf_31 : decode prog_14_method_62_code 31 = .ok (.iconst 3, 1) := by decide +kernel
theorem dX12_clapOf_32 : decode prog_14_method_62_code 32 = .ok (.aload_n 0, 1) := by decide +kernel
theorem dX12_clapOf_33 : decode prog_14_method_62_code 33 = .ok (.getfield 7, 3) := by decide +kernel
theorem dX12_clapOf_36 : decode prog_14_method_62_code 36 = .ok (.bipush 57, 2) := by decide +kernel
theorem dX12_clapOf_38 : decode prog_14_method_62_code 38 = .ok (.iload_n 1, 1) := by decide +kernel
theorem dX12_clapOf_39 : decode prog_14_method_62_code 39 = .ok (.iadd, 1) := by decide +kernel
theorem dX12_clapOf_40 : decode prog_14_method_62_code 40 = .ok (.iaload, 1) := by decide +kernel
theorem dX12_clapOf_41 : decode prog_14_method_62_code 41 = .ok (.iastore, 1) := by decide +kernel
theorem dX12_clapOf_42 : decode prog_14_method_62_code 42 = .ok (.aload_n 0, 1) := by decide +kernel
theorem dX12_clapOf_43 : decode prog_14_method_62_code 43 = .ok (.getfield 37, 3) := by decide +kernel
theorem dX12_clapOf_46 : decode prog_14_method_62_code 46 = .ok (.iconst 4, 1) := by decide +kernel
theorem dX12_clapOf_47 : decode prog_14_method_62_code 47 = .ok (.aload_n 0, 1) := by decide +kernel
theorem dX12_clapOf_48 : decode prog_14_method_62_code 48 = .ok (.getfield 7, 3) := by decide +kernel
theorem dX12_clapOf_51 : decode prog_14_method_62_code 51 = .ok (.bipush 69, 2) := by decide +kernel
theorem dX12_clapOf_53 : decode prog_14_method_62_code 53 = .ok (.iload_n 1, 1) := by decide +kernel
theorem dX12_clapOf_54 : decode prog_14_method_62_code 54 = .ok (.iadd, 1) := by decide +kernel
theorem dX12_clapOf_55 : decode prog_14_method_62_code 55 = .ok (.iaload, 1) := by decide +kernel
theorem dX12_clapOf_56 : decode prog_14_method_62_code 56 = .ok (.iastore, 1) := by decide +kernel
theorem dX12_clapOf_57 : decode prog_14_method_62_code 57 = .ok (.aload_n 0, 1) := by decide +kernel
theorem dX12_clapOf_58 : decode prog_14_method_62_code 58 = .ok (.getfield 37, 3) := by decide +kernel
theorem dX12_clapOf_61 : decode prog_14_method_62_code 61 = .ok (.iconst 5, 1) := by decide +kernel
theorem dX12_clapOf_62 : decode prog_14_method_62_code 62 = .ok (.aload_n 0, 1) := by decide +kernel
theorem dX12_clapOf_63 : decode prog_14_method_62_code 63 = .ok (.getfield 7, 3) := by decide +kernel
theorem dX12_clapOf_66 : decode prog_14_method_62_code 66 = .ok (.bipush 9, 2) := by decide +kernel
theorem dX12_clapOf_68 : decode prog_14_method_62_code 68 = .ok (.iload_n 1, 1) := by decide +kernel
theorem dX12_clapOf_69 : decode prog_14_method_62_code 69 = .ok (.iadd, 1) := by decide +kernel
theorem dX12_clapOf_70 : decode prog_14_method_62_code 70 = .ok (.iaload, 1) := by decide +kernel
theorem dX12_clapOf_71 : decode prog_14_method_62_code 71 = .ok (.iastore, 1) := by decide +kernel
theorem dX12_clapOf_72 : decode prog_14_method_62_code 72 = .ok (.aload_n 0, 1) := by decide +kernel
theorem dX12_clapOf_73 : decode prog_14_method_62_code 73 = .ok (.getfield 37, 3) := by decide +kernel
theorem dX12_clapOf_76 : decode prog_14_method_62_code 76 = .ok (.bipush 9, 2) := by decide +kernel
theorem dX12_clapOf_78 : decode prog_14_method_62_code 78 = .ok (.iload_n 3, 1) := by decide +kernel
theorem dX12_clapOf_79 : decode prog_14_method_62_code 79 = .ok (.iastore, 1) := by decide +kernel
theorem dX12_clapOf_80 : decode prog_14_method_62_code 80 = .ok (.aload_n 0, 1) := by decide +kernel
theorem dX12_clapOf_81 : decode prog_14_method_62_code 81 = .ok (.bipush 21, 2) := by decide +kernel
theorem dX12_clapOf_83 : decode prog_14_method_62_code 83 = .ok (.bipush 100, 2) := by decide +kernel
theorem dX12_clapOf_85 : decode prog_14_method_62_code 85 = .ok (.aload_n 0, 1) := by decide +kernel
theorem dX12_clapOf_86 : decode prog_14_method_62_code 86 = .ok (.getfield 7, 3) := by decide +kernel
theorem dX12_clapOf_89 : decode prog_14_method_62_code 89 = .ok (.bipush 57, 2) := by decide +kernel
theorem dX12_clapOf_91 : decode prog_14_method_62_code 91 = .ok (.iload_n 1, 1) := by decide +kernel
theorem dX12_clapOf_92 : decode prog_14_method_62_code 92 = .ok (.iadd, 1) := by decide +kernel
theorem dX12_clapOf_93 : decode prog_14_method_62_code 93 = .ok (.iaload, 1) := by decide +kernel
theorem dX12_clapOf_94 : decode prog_14_method_62_code 94 = .ok (.imul, 1) := by decide +kernel
theorem dX12_clapOf_95 : decode prog_14_method_62_code 95 = .ok (.sipush 1000, 3) := by decide +kernel
theorem dX12_clapOf_98 : decode prog_14_method_62_code 98 = .ok (.invokevirtual 297, 3) := by decide +kernel
theorem dX12_clapOf_101 : decode prog_14_method_62_code 101 = .ok (.ireturn, 1) := by decide +kernel
theorem dX12_handsAsked_0 : decode prog_14_method_63_code 0 = .ok (.iconst (-1), 1) := by decide +kernel
theorem dX12_handsAsked_1 : decode prog_14_method_63_code 1 = .ok (.istore_n 1, 1) := by decide +kernel
theorem dX12_handsAsked_2 : decode prog_14_method_63_code 2 = .ok (.iconst 0, 1) := by decide +kernel
theorem dX12_handsAsked_3 : decode prog_14_method_63_code 3 = .ok (.istore_n 2, 1) := by decide +kernel
theorem dX12_handsAsked_4 : decode prog_14_method_63_code 4 = .ok (.iload_n 2, 1) := by decide +kernel
theorem dX12_handsAsked_5 : decode prog_14_method_63_code 5 = .ok (.aload_n 0, 1) := by decide +kernel
theorem dX12_handsAsked_6 : decode prog_14_method_63_code 6 = .ok (.getfield 7, 3) := by decide +kernel
theorem dX12_handsAsked_9 : decode prog_14_method_63_code 9 = .ok (.bipush 41, 2) := by decide +kernel
theorem dX12_handsAsked_11 : decode prog_14_method_63_code 11 = .ok (.iaload, 1) := by decide +kernel
theorem dX12_handsAsked_12 : decode prog_14_method_63_code 12 = .ok (.if_icmp .ge 70, 3) := by decide +kernel
theorem dX12_handsAsked_15 : decode prog_14_method_63_code 15 = .ok (.bipush 105, 2) := by decide +kernel
theorem dX12_handsAsked_17 : decode prog_14_method_63_code 17 = .ok (.iconst 3, 1) := by decide +kernel
theorem dX12_handsAsked_18 : decode prog_14_method_63_code 18 = .ok (.iload_n 2, 1) := by decide +kernel
theorem dX12_handsAsked_19 : decode prog_14_method_63_code 19 = .ok (.imul, 1) := by decide +kernel
theorem dX12_handsAsked_20 : decode prog_14_method_63_code 20 = .ok (.iadd, 1) := by decide +kernel
theorem dX12_handsAsked_21 : decode prog_14_method_63_code 21 = .ok (.istore_n 3, 1) := by decide +kernel
theorem dX12_handsAsked_22 : decode prog_14_method_63_code 22 = .ok (.aload_n 0, 1) := by decide +kernel
theorem dX12_handsAsked_23 : decode prog_14_method_63_code 23 = .ok (.getfield 7, 3) := by decide +kernel
theorem dX12_handsAsked_26 : decode prog_14_method_63_code 26 = .ok (.iload_n 3, 1) := by decide +kernel
theorem dX12_handsAsked_27 : decode prog_14_method_63_code 27 = .ok (.iaload, 1) := by decide +kernel
theorem dX12_handsAsked_28 : decode prog_14_method_63_code 28 = .ok (.bipush 7, 2) := by decide +kernel
theorem dX12_handsAsked_30 : decode prog_14_method_63_code 30 = .ok (.if_icmp .ne 46, 3) := by decide +kernel
theorem dX12_handsAsked_33 : decode prog_14_method_63_code 33 = .ok (.aload_n 0, 1) := by decide +kernel
theorem dX12_handsAsked_34 : decode prog_14_method_63_code 34 = .ok (.getfield 7, 3) := by decide +kernel
theorem dX12_handsAsked_37 : decode prog_14_method_63_code 37 = .ok (.iload_n 3, 1) := by decide +kernel
theorem dX12_handsAsked_38 : decode prog_14_method_63_code 38 = .ok (.iconst 2, 1) := by decide +kernel
theorem dX12_handsAsked_39 : decode prog_14_method_63_code 39 = .ok (.iadd, 1) := by decide +kernel
theorem dX12_handsAsked_40 : decode prog_14_method_63_code 40 = .ok (.iaload, 1) := by decide +kernel
theorem dX12_handsAsked_41 : decode prog_14_method_63_code 41 = .ok (.aload_n 0, 1) := by decide +kernel
theorem dX12_handsAsked_42 : decode prog_14_method_63_code 42 = .ok (.getfield 7, 3) := by decide +kernel
theorem dX12_handsAsked_45 : decode prog_14_method_63_code 45 = .ok (.iconst 1, 1) := by decide +kernel
theorem dX12_handsAsked_46 : decode prog_14_method_63_code 46 = .ok (.iaload, 1) := by decide +kernel
theorem dX12_handsAsked_47 : decode prog_14_method_63_code 47 = .ok (.if_icmp .gt 29, 3) := by decide +kernel
theorem dX12_handsAsked_50 : decode prog_14_method_63_code 50 = .ok (.iload_n 1, 1) := by decide +kernel
theorem dX12_handsAsked_51 : decode prog_14_method_63_code 51 = .ok (.iconst (-1), 1) := by decide +kernel
theorem dX12_handsAsked_52 : decode prog_14_method_63_code 52 = .ok (.if_icmp .eq 22, 3) := by decide +kernel
theorem dX12_handsAsked_55 : decode prog_14_method_63_code 55 = .ok (.aload_n 0, 1) := by decide +kernel
theorem dX12_handsAsked_56 : decode prog_14_method_63_code 56 = .ok (.getfield 7, 3) := by decide +kernel
theorem dX12_handsAsked_59 : decode prog_14_method_63_code 59 = .ok (.iload_n 3, 1) := by decide +kernel
theorem dX12_handsAsked_60 : decode prog_14_method_63_code 60 = .ok (.iconst 2, 1) := by decide +kernel
theorem dX12_handsAsked_61 : decode prog_14_method_63_code 61 = .ok (.iadd, 1) := by decide +kernel
theorem dX12_handsAsked_62 : decode prog_14_method_63_code 62 = .ok (.iaload, 1) := by decide +kernel
theorem dX12_handsAsked_63 : decode prog_14_method_63_code 63 = .ok (.aload_n 0, 1) := by decide +kernel
theorem dX12_handsAsked_64 : decode prog_14_method_63_code 64 = .ok (.getfield 7, 3) := by decide +kernel
theorem dX12_handsAsked_67 : decode prog_14_method_63_code 67 = .ok (.iload_n 1, 1) := by decide +kernel
theorem dX12_handsAsked_68 : decode prog_14_method_63_code 68 = .ok (.iconst 2, 1) := by decide +kernel
theorem dX12_handsAsked_69 : decode prog_14_method_63_code 69 = .ok (.iadd, 1) := by decide +kernel
theorem dX12_handsAsked_70 : decode prog_14_method_63_code 70 = .ok (.iaload, 1) := by decide +kernel
theorem dX12_handsAsked_71 : decode prog_14_method_63_code 71 = .ok (.if_icmp .lt 5, 3) := by decide +kernel
theorem dX12_handsAsked_74 : decode prog_14_method_63_code 74 = .ok (.iload_n 3, 1) := by decide +kernel
theorem dX12_handsAsked_75 : decode prog_14_method_63_code 75 = .ok (.istore_n 1, 1) := by decide +kernel
theorem dX12_handsAsked_76 : decode prog_14_method_63_code 76 = .ok (.iinc 2 1, 3) := by decide +kernel
theorem dX12_handsAsked_79 : decode prog_14_method_63_code 79 = .ok (.goto (-75), 3) := by decide +kernel
theorem dX12_handsAsked_82 : decode prog_14_method_63_code 82 = .ok (.iload_n 1, 1) := by decide +kernel
theorem dX12_handsAsked_83 : decode prog_14_method_63_code 83 = .ok (.iconst (-1), 1) := by decide +kernel
theorem dX12_handsAsked_84 : decode prog_14_method_63_code 84 = .ok (.if_icmp .ne 7, 3) := by decide +kernel
theorem dX12_handsAsked_87 : decode prog_14_method_63_code 87 = .ok (.iconst 5, 1) := by decide +kernel
theorem dX12_handsAsked_88 : decode prog_14_method_63_code 88 = .ok (.goto 11, 3) := by decide +kernel
theorem dX12_handsAsked_91 : decode prog_14_method_63_code 91 = .ok (.aload_n 0, 1) := by decide +kernel
theorem dX12_handsAsked_92 : decode prog_14_method_63_code 92 = .ok (.getfield 7, 3) := by decide +kernel
theorem dX12_handsAsked_95 : decode prog_14_method_63_code 95 = .ok (.iload_n 1, 1) := by decide +kernel
theorem dX12_handsAsked_96 : decode prog_14_method_63_code 96 = .ok (.iconst 1, 1) := by decide +kernel
theorem dX12_handsAsked_97 : decode prog_14_method_63_code 97 = .ok (.iadd, 1) := by decide +kernel
theorem dX12_handsAsked_98 : decode prog_14_method_63_code 98 = .ok (.iaload, 1) := by decide +kernel
theorem dX12_handsAsked_99 : decode prog_14_method_63_code 99 = .ok (.ireturn, 1) := by decide +kernel
theorem dX12_lastRule_0 : decode prog_14_method_64_code 0 = .ok (.iload_n 2, 1) := by decide +kernel
theorem dX12_lastRule_1 : decode prog_14_method_64_code 1 = .ok (.istore_n 3, 1) := by decide +kernel
theorem dX12_lastRule_2 : decode prog_14_method_64_code 2 = .ok (.iconst 0, 1) := by decide +kernel
theorem dX12_lastRule_3 : decode prog_14_method_64_code 3 = .ok (.istore 4, 2) := by decide +kernel
theorem dX12_lastRule_5 : decode prog_14_method_64_code 5 = .ok (.iload 4, 2) := by decide +kernel
theorem dX12_lastRule_7 : decode prog_14_method_64_code 7 = .ok (.aload_n 0, 1) := by decide +kernel
theorem dX12_lastRule_8 : decode prog_14_method_64_code 8 = .ok (.getfield 7, 3) := by decide +kernel
theorem dX12_lastRule_11 : decode prog_14_method_64_code 11 = .ok (.bipush 41, 2) := by decide +kernel
theorem dX12_lastRule_13 : decode prog_14_method_64_code 13 = .ok (.iaload, 1) := by decide +kernel
theorem dX12_lastRule_14 : decode prog_14_method_64_code 14 = .ok (.if_icmp .ge 44, 3) := by decide +kernel
theorem dX12_lastRule_17 : decode prog_14_method_64_code 17 = .ok (.aload_n 0, 1) := by decide +kernel
theorem dX12_lastRule_18 : decode prog_14_method_64_code 18 = .ok (.getfield 7, 3) := by decide +kernel
theorem dX12_lastRule_21 : decode prog_14_method_64_code 21 = .ok (.bipush 105, 2) := by decide +kernel
theorem dX12_lastRule_23 : decode prog_14_method_64_code 23 = .ok (.iconst 3, 1) := by decide +kernel
theorem dX12_lastRule_24 : decode prog_14_method_64_code 24 = .ok (.iload 4, 2) := by decide +kernel
theorem dX12_lastRule_26 : decode prog_14_method_64_code 26 = .ok (.imul, 1) := by decide +kernel
theorem dX12_lastRule_27 : decode prog_14_method_64_code 27 = .ok (.iadd, 1) := by decide +kernel
theorem dX12_lastRule_28 : decode prog_14_method_64_code 28 = .ok (.iaload, 1) := by decide +kernel
theorem dX12_lastRule_29 : decode prog_14_method_64_code 29 = .ok (.iload_n 1, 1) := by decide +kernel
theorem dX12_lastRule_30 : decode prog_14_method_64_code 30 = .ok (.if_icmp .ne 20, 3) := by decide +kernel
theorem dX12_lastRule_33 : decode prog_14_method_64_code 33 = .ok (.aload_n 0, 1) := by decide +kernel
theorem dX12_lastRule_34 : decode prog_14_method_64_code 34 = .ok (.getfield 7, 3) := by decide +kernel
theorem dX12_lastRule_37 : decode prog_14_method_64_code 37 = .ok (.bipush 105, 2) := by decide +kernel
theorem dX12_lastRule_39 : decode prog_14_method_64_code 39 = .ok (.iconst 3, 1) := by decide +kernel
theorem dX12_lastRule_40 : decode prog_14_method_64_code 40 = .ok (.iload 4, 2) := by decide +kernel
theorem dX12_lastRule_42 : decode prog_14_method_64_code 42 = .ok (.imul, 1) := by decide +kernel
theorem dX12_lastRule_43 : decode prog_14_method_64_code 43 = .ok (.iadd, 1) := by decide +kernel
theorem dX12_lastRule_44 : decode prog_14_method_64_code 44 = .ok (.iconst 1, 1) := by decide +kernel
theorem dX12_lastRule_45 : decode prog_14_method_64_code 45 = .ok (.iadd, 1) := by decide +kernel
theorem dX12_lastRule_46 : decode prog_14_method_64_code 46 = .ok (.iaload, 1) := by decide +kernel
theorem dX12_lastRule_47 : decode prog_14_method_64_code 47 = .ok (.goto 4, 3) := by decide +kernel
theorem dX12_lastRule_50 : decode prog_14_method_64_code 50 = .ok (.iload_n 3, 1) := by decide +kernel
theorem dX12_lastRule_51 : decode prog_14_method_64_code 51 = .ok (.istore_n 3, 1) := by decide +kernel
theorem dX12_lastRule_52 : decode prog_14_method_64_code 52 = .ok (.iinc 4 1, 3) := by decide +kernel
theorem dX12_lastRule_55 : decode prog_14_method_64_code 55 = .ok (.goto (-50), 3) := by decide +kernel
theorem dX12_lastRule_58 : decode prog_14_method_64_code 58 = .ok (.iload_n 3, 1) := by decide +kernel
theorem dX12_lastRule_59 : decode prog_14_method_64_code 59 = .ok (.ireturn, 1) := by decide +kernel
theorem dX12_mostAgains_0 : decode prog_14_method_65_code 0 = .ok (.aload_n 0, 1) := by decide +kernel
theorem dX12_mostAgains_1 : decode prog_14_method_65_code 1 = .ok (.bipush 8, 2) := by decide +kernel
theorem dX12_mostAgains_3 : decode prog_14_method_65_code 3 = .ok (.bipush 9, 2) := by decide +kernel
theorem dX12_mostAgains_5 : decode prog_14_method_65_code 5 = .ok (.invokevirtual 300, 3) := by decide +kernel
theorem dX12_mostAgains_8 : decode prog_14_method_65_code 8 = .ok (.ireturn, 1) := by decide +kernel
theorem dX12_endsAt_0 : decode prog_14_method_66_code 0 = .ok (.aload_n 0, 1) := by decide +kernel
theorem dX12_endsAt_1 : decode prog_14_method_66_code 1 = .ok (.bipush 10, 2) := by decide +kernel
theorem dX12_endsAt_3 : decode prog_14_method_66_code 3 = .ok (.sipush 300, 3) := by decide +kernel
theorem dX12_endsAt_6 : decode prog_14_method_66_code 6 = .ok (.invokevirtual 300, 3) := by decide +kernel
theorem dX12_endsAt_9 : decode prog_14_method_66_code 9 = .ok (.ireturn, 1) := by decide +kernel
theorem dX12_countsAs_0 : decode prog_14_method_67_code 0 = .ok (.iconst 0, 1) := by decide +kernel
theorem dX12_countsAs_1 : decode prog_14_method_67_code 1 = .ok (.istore_n 2, 1) := by decide +kernel
theorem dX12_countsAs_2 : decode prog_14_method_67_code 2 = .ok (.iload_n 2, 1) := by decide +kernel
theorem dX12_countsAs_3 : decode prog_14_method_67_code 3 = .ok (.aload_n 0, 1) := by decide +kernel
theorem dX12_countsAs_4 : decode prog_14_method_67_code 4 = .ok (.getfield 7, 3) := by decide +kernel
theorem dX12_countsAs_7 : decode prog_14_method_67_code 7 = .ok (.bipush 41, 2) := by decide +kernel
theorem dX12_countsAs_9 : decode prog_14_method_67_code 9 = .ok (.iaload, 1) := by decide +kernel
theorem dX12_countsAs_10 : decode prog_14_method_67_code 10 = .ok (.if_icmp .ge 44, 3) := by decide +kernel
theorem dX12_countsAs_13 : decode prog_14_method_67_code 13 = .ok (.aload_n 0, 1) := by decide +kernel
theorem dX12_countsAs_14 : decode prog_14_method_67_code 14 = .ok (.getfield 7, 3) := by decide +kernel
theorem dX12_countsAs_17 : decode prog_14_method_67_code 17 = .ok (.bipush 105, 2) := by decide +kernel
theorem dX12_countsAs_19 : decode prog_14_method_67_code 19 = .ok (.iconst 3, 1) := by decide +kernel
theorem dX12_countsAs_20 : decode prog_14_method_67_code 20 = .ok (.iload_n 2, 1) := by decide +kernel
theorem dX12_countsAs_21 : decode prog_14_method_67_code 21 = .ok (.imul, 1) := by decide +kernel
theorem dX12_countsAs_22 : decode prog_14_method_67_code 22 = .ok (.iadd, 1) := by decide +kernel
theorem dX12_countsAs_23 : decode prog_14_method_67_code 23 = .ok (.iaload, 1) := by decide +kernel
theorem dX12_countsAs_24 : decode prog_14_method_67_code 24 = .ok (.bipush 9, 2) := by decide +kernel
theorem dX12_countsAs_26 : decode prog_14_method_67_code 26 = .ok (.if_icmp .ne 22, 3) := by decide +kernel
theorem dX12_countsAs_29 : decode prog_14_method_67_code 29 = .ok (.aload_n 0, 1) := by decide +kernel
theorem dX12_countsAs_30 : decode prog_14_method_67_code 30 = .ok (.getfield 7, 3) := by decide +kernel
theorem dX12_countsAs_33 : decode prog_14_method_67_code 33 = .ok (.bipush 105, 2) := by decide +kernel
theorem dX12_countsAs_35 : decode prog_14_method_67_code 35 = .ok (.iconst 3, 1) := by decide +kernel
theorem dX12_countsAs_36 : decode prog_14_method_67_code 36 = .ok (.iload_n 2, 1) := by decide +kernel
theorem dX12_countsAs_37 : decode prog_14_method_67_code 37 = .ok (.imul, 1) := by decide +kernel
theorem dX12_countsAs_38 : decode prog_14_method_67_code 38 = .ok (.iadd, 1) := by decide +kernel
theorem dX12_countsAs_39 : decode prog_14_method_67_code 39 = .ok (.iconst 1, 1) := by decide +kernel
theorem dX12_countsAs_40 : decode prog_14_method_67_code 40 = .ok (.iadd, 1) := by decide +kernel
theorem dX12_countsAs_41 : decode prog_14_method_67_code 41 = .ok (.iaload, 1) := by decide +kernel
theorem dX12_countsAs_42 : decode prog_14_method_67_code 42 = .ok (.iload_n 1, 1) := by decide +kernel
theorem dX12_countsAs_43 : decode prog_14_method_67_code 43 = .ok (.if_icmp .ne 5, 3) := by decide +kernel
theorem dX12_countsAs_46 : decode prog_14_method_67_code 46 = .ok (.iconst 2, 1) := by decide +kernel
theorem dX12_countsAs_47 : decode prog_14_method_67_code 47 = .ok (.ireturn, 1) := by decide +kernel
theorem dX12_countsAs_48 : decode prog_14_method_67_code 48 = .ok (.iinc 2 1, 3) := by decide +kernel
theorem dX12_countsAs_51 : decode prog_14_method_67_code 51 = .ok (.goto (-49), 3) := by decide +kernel
theorem dX12_countsAs_54 : decode prog_14_method_67_code 54 = .ok (.iconst 1, 1) := by decide +kernel
theorem dX12_countsAs_55 : decode prog_14_method_67_code 55 = .ok (.ireturn, 1) := by decide +kernel
theorem dX12_keeps_0 : decode prog_14_method_68_code 0 = .ok (.aload_n 0, 1) := by decide +kernel
theorem dX12_keeps_1 : decode prog_14_method_68_code 1 = .ok (.getfield 60, 3) := by decide +kernel
theorem dX12_keeps_4 : decode prog_14_method_68_code 4 = .ok (.bipush 6, 2) := by decide +kernel
theorem dX12_keeps_6 : decode prog_14_method_68_code 6 = .ok (.if_icmp .ne 43, 3) := by decide +kernel
theorem dX12_keeps_9 : decode prog_14_method_68_code 9 = .ok (.iconst 0, 1) := by decide +kernel
theorem dX12_keeps_10 : decode prog_14_method_68_code 10 = .ok (.istore_n 1, 1) := by decide +kernel
theorem dX12_keeps_11 : decode prog_14_method_68_code 11 = .ok (.iload_n 1, 1) := by decide +kernel
theorem dX12_keeps_12 : decode prog_14_method_68_code 12 = .ok (.sipush 185, 3) := by decide +kernel
theorem dX12_keeps_15 : decode prog_14_method_68_code 15 = .ok (.if_icmp .ge 24, 3) := by decide +kernel
theorem dX12_keeps_18 : decode prog_14_method_68_code 18 = .ok (.aload_n 0, 1) := by decide +kernel
theorem dX12_keeps_19 : decode prog_14_method_68_code 19 = .ok (.getfield 16, 3) := by decide +kernel
theorem dX12_keeps_22 : decode prog_14_method_68_code 22 = .ok (.iload_n 1, 1) := by decide +kernel
theorem dX12_keeps_23 : decode prog_14_method_68_code 23 = .ok (.aload_n 0, 1) := by decide +kernel
theorem dX12_keeps_24 : decode prog_14_method_68_code 24 = .ok (.getfield 16, 3) := by decide +kernel
theorem dX12_keeps_27 : decode prog_14_method_68_code 27 = .ok (.iload_n 1, 1) := by decide +kernel
theorem dX12_keeps_28 : decode prog_14_method_68_code 28 = .ok (.bipush 37, 2) := by decide +kernel
theorem dX12_keeps_30 : decode prog_14_method_68_code 30 = .ok (.iadd, 1) := by decide +kernel
theorem dX12_keeps_31 : decode prog_14_method_68_code 31 = .ok (.iaload, 1) := by decide +kernel
theorem dX12_keeps_32 : decode prog_14_method_68_code 32 = .ok (.iastore, 1) := by decide +kernel
theorem dX12_keeps_33 : decode prog_14_method_68_code 33 = .ok (.iinc 1 1, 3) := by decide +kernel
theorem dX12_keeps_36 : decode prog_14_method_68_code 36 = .ok (.goto (-25), 3) := by decide +kernel

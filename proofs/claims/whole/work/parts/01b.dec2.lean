theorem dX12_keeps_39 : decode prog_14_method_68_code 39 = .ok (.aload_n 0, 1) := by decide +kernel
theorem dX12_keeps_40 : decode prog_14_method_68_code 40 = .ok (.dup, 1) := by decide +kernel
theorem dX12_keeps_41 : decode prog_14_method_68_code 41 = .ok (.getfield 60, 3) := by decide +kernel
theorem dX12_keeps_44 : decode prog_14_method_68_code 44 = .ok (.iconst 1, 1) := by decide +kernel
theorem dX12_keeps_45 : decode prog_14_method_68_code 45 = .ok (.isub, 1) := by decide +kernel
theorem dX12_keeps_46 : decode prog_14_method_68_code 46 = .ok (.putfield 60, 3) := by decide +kernel
theorem dX12_keeps_49 : decode prog_14_method_68_code 49 = .ok (.iconst 0, 1) := by decide +kernel
theorem dX12_keeps_50 : decode prog_14_method_68_code 50 = .ok (.istore_n 1, 1) := by decide +kernel
theorem dX12_keeps_51 : decode prog_14_method_68_code 51 = .ok (.iload_n 1, 1) := by decide +kernel
theorem dX12_keeps_52 : decode prog_14_method_68_code 52 = .ok (.bipush 37, 2) := by decide +kernel
theorem dX12_keeps_54 : decode prog_14_method_68_code 54 = .ok (.if_icmp .ge 29, 3) := by decide +kernel
theorem dX12_keeps_57 : decode prog_14_method_68_code 57 = .ok (.aload_n 0, 1) := by decide +kernel
theorem dX12_keeps_58 : decode prog_14_method_68_code 58 = .ok (.getfield 16, 3) := by decide +kernel
theorem dX12_keeps_61 : decode prog_14_method_68_code 61 = .ok (.bipush 37, 2) := by decide +kernel
theorem dX12_keeps_63 : decode prog_14_method_68_code 63 = .ok (.aload_n 0, 1) := by decide +kernel
theorem dX12_keeps_64 : decode prog_14_method_68_code 64 = .ok (.getfield 60, 3) := by decide +kernel
theorem dX12_keeps_67 : decode prog_14_method_68_code 67 = .ok (.imul, 1) := by decide +kernel
theorem dX12_keeps_68 : decode prog_14_method_68_code 68 = .ok (.iload_n 1, 1) := by decide +kernel
theorem dX12_keeps_69 : decode prog_14_method_68_code 69 = .ok (.iadd, 1) := by decide +kernel
theorem dX12_keeps_70 : decode prog_14_method_68_code 70 = .ok (.aload_n 0, 1) := by decide +kernel
theorem dX12_keeps_71 : decode prog_14_method_68_code 71 = .ok (.getfield 7, 3) := by decide +kernel
theorem dX12_keeps_74 : decode prog_14_method_68_code 74 = .ok (.iload_n 1, 1) := by decide +kernel
theorem dX12_keeps_75 : decode prog_14_method_68_code 75 = .ok (.iaload, 1) := by decide +kernel
theorem dX12_keeps_76 : decode prog_14_method_68_code 76 = .ok (.iastore, 1) := by decide +kernel
theorem dX12_keeps_77 : decode prog_14_method_68_code 77 = .ok (.iinc 1 1, 3) := by decide +kernel
theorem dX12_keeps_80 : decode prog_14_method_68_code 80 = .ok (.goto (-29), 3) := by decide +kernel
theorem dX12_keeps_83 : decode prog_14_method_68_code 83 = .ok (.aload_n 0, 1) := by decide +kernel
theorem dX12_keeps_84 : decode prog_14_method_68_code 84 = .ok (.dup, 1) := by decide +kernel
theorem dX12_keeps_85 : decode prog_14_method_68_code 85 = .ok (.getfield 60, 3) := by decide +kernel
theorem dX12_keeps_88 : decode prog_14_method_68_code 88 = .ok (.iconst 1, 1) := by decide +kernel
theorem dX12_keeps_89 : decode prog_14_method_68_code 89 = .ok (.iadd, 1) := by decide +kernel
theorem dX12_keeps_90 : decode prog_14_method_68_code 90 = .ok (.putfield 60, 3) := by decide +kernel
theorem dX12_keeps_93 : decode prog_14_method_68_code 93 = .ok (.aload_n 0, 1) := by decide +kernel
theorem dX12_keeps_94 : decode prog_14_method_68_code 94 = .ok (.iconst 1, 1) := by decide +kernel
theorem dX12_keeps_95 : decode prog_14_method_68_code 95 = .ok (.putfield 303, 3) := by decide +kernel
theorem dX12_keeps_98 : decode prog_14_method_68_code 98 = .ok (.return_, 1) := by decide +kernel
theorem dX12_undo_0 : decode prog_14_method_69_code 0 = .ok (.aload_n 0, 1) := by decide +kernel
theorem dX12_undo_1 : decode prog_14_method_69_code 1 = .ok (.getfield 60, 3) := by decide +kernel
theorem dX12_undo_4 : decode prog_14_method_69_code 4 = .ok (.ifCond .ne 5, 3) := by decide +kernel
theorem dX12_undo_7 : decode prog_14_method_69_code 7 = .ok (.iconst 0, 1) := by decide +kernel
theorem dX12_undo_8 : decode prog_14_method_69_code 8 = .ok (.ireturn, 1) := by decide +kernel
theorem dX12_undo_9 : decode prog_14_method_69_code 9 = .ok (.aload_n 0, 1) := by decide +kernel
theorem dX12_undo_10 : decode prog_14_method_69_code 10 = .ok (.dup, 1) := by decide +kernel
theorem dX12_undo_11 : decode prog_14_method_69_code 11 = .ok (.getfield 60, 3) := by decide +kernel
theorem dX12_undo_14 : decode prog_14_method_69_code 14 = .ok (.iconst 1, 1) := by decide +kernel
theorem dX12_undo_15 : decode prog_14_method_69_code 15 = .ok (.isub, 1) := by decide +kernel
theorem dX12_undo_16 : decode prog_14_method_69_code 16 = .ok (.putfield 60, 3) := by decide +kernel
theorem dX12_undo_19 : decode prog_14_method_69_code 19 = .ok (.iconst 0, 1) := by decide +kernel
theorem dX12_undo_20 : decode prog_14_method_69_code 20 = .ok (.istore_n 1, 1) := by decide +kernel
theorem dX12_undo_21 : decode prog_14_method_69_code 21 = .ok (.iload_n 1, 1) := by decide +kernel
theorem dX12_undo_22 : decode prog_14_method_69_code 22 = .ok (.bipush 37, 2) := by decide +kernel
theorem dX12_undo_24 : decode prog_14_method_69_code 24 = .ok (.if_icmp .ge 29, 3) := by decide +kernel
theorem dX12_undo_27 : decode prog_14_method_69_code 27 = .ok (.aload_n 0, 1) := by decide +kernel
theorem dX12_undo_28 : decode prog_14_method_69_code 28 = .ok (.getfield 7, 3) := by decide +kernel
theorem dX12_undo_31 : decode prog_14_method_69_code 31 = .ok (.iload_n 1, 1) := by decide +kernel
theorem dX12_undo_32 : decode prog_14_method_69_code 32 = .ok (.aload_n 0, 1) := by decide +kernel
theorem dX12_undo_33 : decode prog_14_method_69_code 33 = .ok (.getfield 16, 3) := by decide +kernel
theorem dX12_undo_36 : decode prog_14_method_69_code 36 = .ok (.bipush 37, 2) := by decide +kernel
theorem dX12_undo_38 : decode prog_14_method_69_code 38 = .ok (.aload_n 0, 1) := by decide +kernel
theorem dX12_undo_39 : decode prog_14_method_69_code 39 = .ok (.getfield 60, 3) := by decide +kernel
theorem dX12_undo_42 : decode prog_14_method_69_code 42 = .ok (.imul, 1) := by decide +kernel
theorem dX12_undo_43 : decode prog_14_method_69_code 43 = .ok (.iload_n 1, 1) := by decide +kernel
theorem dX12_undo_44 : decode prog_14_method_69_code 44 = .ok (.iadd, 1) := by decide +kernel
theorem dX12_undo_45 : decode prog_14_method_69_code 45 = .ok (.iaload, 1) := by decide +kernel
theorem dX12_undo_46 : decode prog_14_method_69_code 46 = .ok (.iastore, 1) := by decide +kernel
theorem dX12_undo_47 : decode prog_14_method_69_code 47 = .ok (.iinc 1 1, 3) := by decide +kernel
theorem dX12_undo_50 : decode prog_14_method_69_code 50 = .ok (.goto (-29), 3) := by decide +kernel
theorem dX12_undo_53 : decode prog_14_method_69_code 53 = .ok (.iconst 1, 1) := by decide +kernel
theorem dX12_undo_54 : decode prog_14_method_69_code 54 = .ok (.ireturn, 1) := by decide +kernel
theorem dX12_notes_0 : decode prog_14_method_70_code 0 = .ok (.aload_n 0, 1) := by decide +kernel
theorem dX12_notes_1 : decode prog_14_method_70_code 1 = .ok (.getfield 303, 3) := by decide +kernel
theorem dX12_notes_4 : decode prog_14_method_70_code 4 = .ok (.ifCond .eq 16, 3) := by decide +kernel
theorem dX12_notes_7 : decode prog_14_method_70_code 7 = .ok (.aload_n 0, 1) := by decide +kernel
theorem dX12_notes_8 : decode prog_14_method_70_code 8 = .ok (.getfield 7, 3) := by decide +kernel
theorem dX12_notes_11 : decode prog_14_method_70_code 11 = .ok (.bipush 6, 2) := by decide +kernel
theorem dX12_notes_13 : decode prog_14_method_70_code 13 = .ok (.iaload, 1) := by decide +kernel
theorem dX12_notes_14 : decode prog_14_method_70_code 14 = .ok (.sipush 150, 3) := by decide +kernel
theorem dX12_notes_17 : decode prog_14_method_70_code 17 = .ok (.if_icmp .ne 4, 3) := by decide +kernel
theorem dX12_notes_20 : decode prog_14_method_70_code 20 = .ok (.return_, 1) := by decide +kernel
theorem dX12_notes_21 : decode prog_14_method_70_code 21 = .ok (.sipush 223, 3) := by decide +kernel
theorem dX12_notes_24 : decode prog_14_method_70_code 24 = .ok (.iconst 4, 1) := by decide +kernel
theorem dX12_notes_25 : decode prog_14_method_70_code 25 = .ok (.aload_n 0, 1) := by decide +kernel
theorem dX12_notes_26 : decode prog_14_method_70_code 26 = .ok (.getfield 7, 3) := by decide +kernel
theorem dX12_notes_29 : decode prog_14_method_70_code 29 = .ok (.bipush 6, 2) := by decide +kernel
theorem dX12_notes_31 : decode prog_14_method_70_code 31 = .ok (.iaload, 1) := by decide +kernel
theorem dX12_notes_32 : decode prog_14_method_70_code 32 = .ok (.imul, 1) := by decide +kernel
theorem dX12_notes_33 : decode prog_14_method_70_code 33 = .ok (.iadd, 1) := by decide +kernel
theorem dX12_notes_34 : decode prog_14_method_70_code 34 = .ok (.istore 4, 2) := by decide +kernel
theorem dX12_notes_36 : decode prog_14_method_70_code 36 = .ok (.aload_n 0, 1) := by decide +kernel
theorem dX12_notes_37 : decode prog_14_method_70_code 37 = .ok (.getfield 7, 3) := by decide +kernel
theorem dX12_notes_40 : decode prog_14_method_70_code 40 = .ok (.iload 4, 2) := by decide +kernel
theorem dX12_notes_42 : decode prog_14_method_70_code 42 = .ok (.aload_n 0, 1) := by decide +kernel
theorem dX12_notes_43 : decode prog_14_method_70_code 43 = .ok (.getfield 7, 3) := by decide +kernel
theorem dX12_notes_46 : decode prog_14_method_70_code 46 = .ok (.iconst 1, 1) := by decide +kernel
theorem dX12_notes_47 : decode prog_14_method_70_code 47 = .ok (.iaload, 1) := by decide +kernel
theorem dX12_notes_48 : decode prog_14_method_70_code 48 = .ok (.iastore, 1) := by decide +kernel
theorem dX12_notes_49 : decode prog_14_method_70_code 49 = .ok (.aload_n 0, 1) := by decide +kernel
theorem dX12_notes_50 : decode prog_14_method_70_code 50 = .ok (.getfield 7, 3) := by decide +kernel
theorem dX12_notes_53 : decode prog_14_method_70_code 53 = .ok (.iload 4, 2) := by decide +kernel
theorem dX12_notes_55 : decode prog_14_method_70_code 55 = .ok (.iconst 1, 1) := by decide +kernel
theorem dX12_notes_56 : decode prog_14_method_70_code 56 = .ok (.iadd, 1) := by decide +kernel
theorem dX12_notes_57 : decode prog_14_method_70_code 57 = .ok (.iload_n 1, 1) := by decide +kernel
theorem dX12_notes_58 : decode prog_14_method_70_code 58 = .ok (.iastore, 1) := by decide +kernel
theorem dX12_notes_59 : decode prog_14_method_70_code 59 = .ok (.aload_n 0, 1) := by decide +kernel
theorem dX12_notes_60 : decode prog_14_method_70_code 60 = .ok (.getfield 7, 3) := by decide +kernel
theorem dX12_notes_63 : decode prog_14_method_70_code 63 = .ok (.iload 4, 2) := by decide +kernel
theorem dX12_notes_65 : decode prog_14_method_70_code 65 = .ok (.iconst 2, 1) := by decide +kernel
theorem dX12_notes_66 : decode prog_14_method_70_code 66 = .ok (.iadd, 1) := by decide +kernel
theorem dX12_notes_67 : decode prog_14_method_70_code 67 = .ok (.iload_n 2, 1) := by decide +kernel
theorem dX12_notes_68 : decode prog_14_method_70_code 68 = .ok (.iastore, 1) := by decide +kernel
theorem dX12_notes_69 : decode prog_14_method_70_code 69 = .ok (.aload_n 0, 1) := by decide +kernel
theorem dX12_notes_70 : decode prog_14_method_70_code 70 = .ok (.getfield 7, 3) := by decide +kernel
theorem dX12_notes_73 : decode prog_14_method_70_code 73 = .ok (.iload 4, 2) := by decide +kernel
theorem dX12_notes_75 : decode prog_14_method_70_code 75 = .ok (.iconst 3, 1) := by decide +kernel
theorem dX12_notes_76 : decode prog_14_method_70_code 76 = .ok (.iadd, 1) := by decide +kernel
theorem dX12_notes_77 : decode prog_14_method_70_code 77 = .ok (.iload_n 3, 1) := by decide +kernel
theorem dX12_notes_78 : decode prog_14_method_70_code 78 = .ok (.iastore, 1) := by decide +kernel
theorem dX12_notes_79 : decode prog_14_method_70_code 79 = .ok (.aload_n 0, 1) := by decide +kernel
theorem dX12_notes_80 : decode prog_14_method_70_code 80 = .ok (.getfield 7, 3) := by decide +kernel
theorem dX12_notes_83 : decode prog_14_method_70_code 83 = .ok (.bipush 6, 2) := by decide +kernel
theorem dX12_notes_85 : decode prog_14_method_70_code 85 = .ok (.dup2, 1) := by decide +kernel
theorem dX12_notes_86 : decode prog_14_method_70_code 86 = .ok (.iaload, 1) := by decide +kernel
theorem dX12_notes_87 : decode prog_14_method_70_code 87 = .ok (.iconst 1, 1) := by decide +kernel
theorem dX12_notes_88 : decode prog_14_method_70_code 88 = .ok (.iadd, 1) := by decide +kernel
theorem dX12_notes_89 : decode prog_14_method_70_code 89 = .ok (.iastore, 1) := by decide +kernel
theorem dX12_notes_90 : decode prog_14_method_70_code 90 = .ok (.return_, 1) := by decide +kernel
theorem dX12_begins0_0 : decode prog_14_method_71_code 0 = .ok (.aload_n 0, 1) := by decide +kernel
theorem dX12_begins0_1 : decode prog_14_method_71_code 1 = .ok (.getfield 7, 3) := by decide +kernel
theorem dX12_begins0_4 : decode prog_14_method_71_code 4 = .ok (.iconst 4, 1) := by decide +kernel
theorem dX12_begins0_5 : decode prog_14_method_71_code 5 = .ok (.aload_n 0, 1) := by decide +kernel
theorem dX12_begins0_6 : decode prog_14_method_71_code 6 = .ok (.getfield 7, 3) := by decide +kernel
theorem dX12_begins0_9 : decode prog_14_method_71_code 9 = .ok (.iconst 3, 1) := by decide +kernel
theorem dX12_begins0_10 : decode prog_14_method_71_code 10 = .ok (.iaload, 1) := by decide +kernel
theorem dX12_begins0_11 : decode prog_14_method_71_code 11 = .ok (.iload_n 1, 1) := by decide +kernel
theorem dX12_begins0_12 : decode prog_14_method_71_code 12 = .ok (.if_icmp .ne 14, 3) := by decide +kernel
theorem dX12_begins0_15 : decode prog_14_method_71_code 15 = .ok (.aload_n 0, 1) := by decide +kernel
theorem dX12_begins0_16 : decode prog_14_method_71_code 16 = .ok (.getfield 7, 3) := by decide +kernel
theorem dX12_begins0_19 : decode prog_14_method_71_code 19 = .ok (.iconst 4, 1) := by decide +kernel
theorem dX12_begins0_20 : decode prog_14_method_71_code 20 = .ok (.iaload, 1) := by decide +kernel
theorem dX12_begins0_21 : decode prog_14_method_71_code 21 = .ok (.iconst 1, 1) := by decide +kernel
theorem dX12_begins0_22 : decode prog_14_method_71_code 22 = .ok (.iadd, 1) := by decide +kernel
theorem dX12_begins0_23 : decode prog_14_method_71_code 23 = .ok (.goto 4, 3) := by decide +kernel
theorem dX12_begins0_26 : decode prog_14_method_71_code 26 = .ok (.iconst 0, 1) := by decide +kernel
theorem dX12_begins0_27 : decode prog_14_method_71_code 27 = .ok (.iastore, 1) := by decide +kernel
theorem dX12_begins0_28 : decode prog_14_method_71_code 28 = .ok (.aload_n 0, 1) := by decide +kernel
theorem dX12_begins0_29 : decode prog_14_method_71_code 29 = .ok (.getfield 7, 3) := by decide +kernel
theorem dX12_begins0_32 : decode prog_14_method_71_code 32 = .ok (.iconst 3, 1) := by decide +kernel
theorem dX12_begins0_33 : decode prog_14_method_71_code 33 = .ok (.iload_n 1, 1) := by decide +kernel
theorem dX12_begins0_34 : decode prog_14_method_71_code 34 = .ok (.iastore, 1) := by decide +kernel
theorem dX12_begins0_35 : decode prog_14_method_71_code 35 = .ok (.aload_n 0, 1) := by decide +kernel
theorem dX12_begins0_36 : decode prog_14_method_71_code 36 = .ok (.iload_n 1, 1) := by decide +kernel
theorem dX12_begins0_37 : decode prog_14_method_71_code 37 = .ok (.invokevirtual 307, 3) := by decide +kernel
theorem dX12_begins0_40 : decode prog_14_method_71_code 40 = .ok (.istore_n 2, 1) := by decide +kernel
theorem dX12_begins0_41 : decode prog_14_method_71_code 41 = .ok (.aload_n 0, 1) := by decide +kernel
theorem dX12_begins0_42 : decode prog_14_method_71_code 42 = .ok (.getfield 7, 3) := by decide +kernel
theorem dX12_begins0_45 : decode prog_14_method_71_code 45 = .ok (.iconst 0, 1) := by decide +kernel
theorem dX12_begins0_46 : decode prog_14_method_71_code 46 = .ok (.dup2, 1) := by decide +kernel
theorem dX12_begins0_47 : decode prog_14_method_71_code 47 = .ok (.iaload, 1) := by decide +kernel
theorem dX12_begins0_48 : decode prog_14_method_71_code 48 = .ok (.aload_n 0, 1) := by decide +kernel
theorem dX12_begins0_49 : decode prog_14_method_71_code 49 = .ok (.getfield 7, 3) := by decide +kernel
theorem dX12_begins0_52 : decode prog_14_method_71_code 52 = .ok (.bipush 89, 2) := by decide +kernel
theorem dX12_begins0_54 : decode prog_14_method_71_code 54 = .ok (.iload_n 1, 1) := by decide +kernel
theorem dX12_begins0_55 : decode prog_14_method_71_code 55 = .ok (.iadd, 1) := by decide +kernel
theorem dX12_begins0_56 : decode prog_14_method_71_code 56 = .ok (.iaload, 1) := by decide +kernel
theorem dX12_begins0_57 : decode prog_14_method_71_code 57 = .ok (.iadd, 1) := by decide +kernel
theorem dX12_begins0_58 : decode prog_14_method_71_code 58 = .ok (.iastore, 1) := by decide +kernel
theorem dX12_begins0_59 : decode prog_14_method_71_code 59 = .ok (.aload_n 0, 1) := by decide +kernel
theorem dX12_begins0_60 : decode prog_14_method_71_code 60 = .ok (.getfield 7, 3) := by decide +kernel
theorem dX12_begins0_63 : decode prog_14_method_71_code 63 = .ok (.iconst 2, 1) := by decide +kernel
theorem dX12_begins0_64 : decode prog_14_method_71_code 64 = .ok (.dup2, 1) := by decide +kernel
theorem dX12_begins0_65 : decode prog_14_method_71_code 65 = .ok (.iaload, 1) := by decide +kernel
theorem dX12_begins0_66 : decode prog_14_method_71_code 66 = .ok (.aload_n 0, 1) := by decide +kernel
theorem dX12_begins0_67 : decode prog_14_method_71_code 67 = .ok (.getfield 7, 3) := by decide +kernel
theorem dX12_begins0_70 : decode prog_14_method_71_code 70 = .ok (.bipush 97, 2) := by decide +kernel
theorem dX12_begins0_72 : decode prog_14_method_71_code 72 = .ok (.iload_n 1, 1) := by decide +kernel
theorem dX12_begins0_73 : decode prog_14_method_71_code 73 = .ok (.iadd, 1) := by decide +kernel
theorem dX12_begins0_74 : decode prog_14_method_71_code 74 = .ok (.iaload, 1) := by decide +kernel
theorem dX12_begins0_75 : decode prog_14_method_71_code 75 = .ok (.isub, 1) := by decide +kernel
theorem dX12_begins0_76 : decode prog_14_method_71_code 76 = .ok (.iastore, 1) := by decide +kernel
theorem dX12_begins0_77 : decode prog_14_method_71_code 77 = .ok (.aload_n 0, 1) := by decide +kernel
theorem dX12_begins0_78 : decode prog_14_method_71_code 78 = .ok (.getfield 7, 3) := by decide +kernel
theorem dX12_begins0_81 : decode prog_14_method_71_code 81 = .ok (.bipush 29, 2) := by decide +kernel
theorem dX12_begins0_83 : decode prog_14_method_71_code 83 = .ok (.iload_n 1, 1) := by decide +kernel
theorem dX12_begins0_84 : decode prog_14_method_71_code 84 = .ok (.iadd, 1) := by decide +kernel
theorem dX12_begins0_85 : decode prog_14_method_71_code 85 = .ok (.dup2, 1) := by decide +kernel
theorem dX12_begins0_86 : decode prog_14_method_71_code 86 = .ok (.iaload, 1) := by decide +kernel
theorem dX12_begins0_87 : decode prog_14_method_71_code 87 = .ok (.iconst 1, 1) := by decide +kernel
theorem dX12_begins0_88 : decode prog_14_method_71_code 88 = .ok (.iadd, 1) := by decide +kernel
theorem dX12_begins0_89 : decode prog_14_method_71_code 89 = .ok (.iastore, 1) := by decide +kernel
theorem dX12_begins0_90 : decode prog_14_method_71_code 90 = .ok (.aload_n 0, 1) := by decide +kernel
theorem dX12_begins0_91 : decode prog_14_method_71_code 91 = .ok (.getfield 7, 3) := by decide +kernel
theorem dX12_begins0_94 : decode prog_14_method_71_code 94 = .ok (.bipush 21, 2) := by decide +kernel
theorem dX12_begins0_96 : decode prog_14_method_71_code 96 = .ok (.iload_n 1, 1) := by decide +kernel
theorem dX12_begins0_97 : decode prog_14_method_71_code 97 = .ok (.iadd, 1) := by decide +kernel
theorem dX12_begins0_98 : decode prog_14_method_71_code 98 = .ok (.bipush 99, 2) := by decide +kernel
theorem dX12_begins0_100 : decode prog_14_method_71_code 100 = .ok (.aload_n 0, 1) := by decide +kernel
theorem dX12_begins0_101 : decode prog_14_method_71_code 101 = .ok (.getfield 7, 3) := by decide +kernel
theorem dX12_begins0_104 : decode prog_14_method_71_code 104 = .ok (.bipush 21, 2) := by decide +kernel
theorem dX12_begins0_106 : decode prog_14_method_71_code 106 = .ok (.iload_n 1, 1) := by decide +kernel
theorem dX12_begins0_107 : decode prog_14_method_71_code 107 = .ok (.iadd, 1) := by decide +kernel
theorem dX12_begins0_108 : decode prog_14_method_71_code 108 = .ok (.iaload, 1) := by decide +kernel
theorem dX12_begins0_109 : decode prog_14_method_71_code 109 = .ok (.iload_n 2, 1) := by decide +kernel
theorem dX12_begins0_110 : decode prog_14_method_71_code 110 = .ok (.iadd, 1) := by decide +kernel
theorem dX12_begins0_111 : decode prog_14_method_71_code 111 = .ok (.invokestatic 286, 3) := by decide +kernel
theorem dX12_begins0_114 : decode prog_14_method_71_code 114 = .ok (.iastore, 1) := by decide +kernel
theorem dX12_begins0_115 : decode prog_14_method_71_code 115 = .ok (.return_, 1) := by decide +kernel
theorem dX12_aRound_0 : decode prog_14_method_72_code 0 = .ok (.iconst 0, 1) := by decide +kernel
theorem dX12_aRound_1 : decode prog_14_method_72_code 1 = .ok (.istore_n 2, 1) := by decide +kernel
theorem dX12_aRound_2 : decode prog_14_method_72_code 2 = .ok (.iconst 0, 1) := by decide +kernel
theorem dX12_aRound_3 : decode prog_14_method_72_code 3 = .ok (.istore_n 3, 1) := by decide +kernel
theorem dX12_aRound_4 : decode prog_14_method_72_code 4 = .ok (.iload_n 3, 1) := by decide +kernel
theorem dX12_aRound_5 : decode prog_14_method_72_code 5 = .ok (.aload_n 0, 1) := by decide +kernel
theorem dX12_aRound_6 : decode prog_14_method_72_code 6 = .ok (.getfield 7, 3) := by decide +kernel
theorem dX12_aRound_9 : decode prog_14_method_72_code 9 = .ok (.bipush 37, 2) := by decide +kernel
theorem dX12_aRound_11 : decode prog_14_method_72_code 11 = .ok (.iaload, 1) := by decide +kernel
theorem dX12_aRound_12 : decode prog_14_method_72_code 12 = .ok (.if_icmp .ge 90, 3) := by decide +kernel
theorem dX12_aRound_15 : decode prog_14_method_72_code 15 = .ok (.aload_n 0, 1) := by decide +kernel
theorem dX12_aRound_16 : decode prog_14_method_72_code 16 = .ok (.iload_n 3, 1) := by decide +kernel
theorem dX12_aRound_17 : decode prog_14_method_72_code 17 = .ok (.invokevirtual 310, 3) := by decide +kernel
theorem dX12_aRound_20 : decode prog_14_method_72_code 20 = .ok (.ifCond .eq 76, 3) := by decide +kernel
theorem dX12_aRound_23 : decode prog_14_method_72_code 23 = .ok (.aload_n 0, 1) := by decide +kernel
theorem dX12_aRound_24 : decode prog_14_method_72_code 24 = .ok (.iload_n 3, 1) := by decide +kernel
theorem dX12_aRound_25 : decode prog_14_method_72_code 25 = .ok (.invokevirtual 313, 3) := by decide +kernel
theorem dX12_aRound_28 : decode prog_14_method_72_code 28 = .ok (.ifCond .ne 68, 3) := by decide +kernel
theorem dX12_aRound_31 : decode prog_14_method_72_code 31 = .ok (.aload_n 0, 1) := by decide +kernel
theorem dX12_aRound_32 : decode prog_14_method_72_code 32 = .ok (.getfield 316, 3) := by decide +kernel
theorem dX12_aRound_35 : decode prog_14_method_72_code 35 = .ok (.iload_n 3, 1) := by decide +kernel
theorem dX12_aRound_36 : decode prog_14_method_72_code 36 = .ok (.ishr, 1) := by decide +kernel
theorem dX12_aRound_37 : decode prog_14_method_72_code 37 = .ok (.iconst 1, 1) := by decide +kernel
theorem dX12_aRound_38 : decode prog_14_method_72_code 38 = .ok (.iand, 1) := by decide +kernel
theorem dX12_aRound_39 : decode prog_14_method_72_code 39 = .ok (.iconst 1, 1) := by decide +kernel
theorem dX12_aRound_40 : decode prog_14_method_72_code 40 = .ok (.if_icmp .ne 6, 3) := by decide +kernel
theorem dX12_aRound_43 : decode prog_14_method_72_code 43 = .ok (.goto 53, 3) := by decide +kernel
theorem dX12_aRound_46 : decode prog_14_method_72_code 46 = .ok (.aload_n 0, 1) := by decide +kernel
theorem dX12_aRound_47 : decode prog_14_method_72_code 47 = .ok (.getfield 44, 3) := by decide +kernel
theorem dX12_aRound_50 : decode prog_14_method_72_code 50 = .ok (.iload_n 3, 1) := by decide +kernel
theorem dX12_aRound_51 : decode prog_14_method_72_code 51 = .ok (.iaload, 1) := by decide +kernel
theorem dX12_aRound_52 : decode prog_14_method_72_code 52 = .ok (.aload_n 0, 1) := by decide +kernel
theorem dX12_aRound_53 : decode prog_14_method_72_code 53 = .ok (.iload_n 3, 1) := by decide +kernel
theorem dX12_aRound_54 : decode prog_14_method_72_code 54 = .ok (.iload_n 1, 1) := by decide +kernel
theorem dX12_aRound_55 : decode prog_14_method_72_code 55 = .ok (.aload_n 0, 1) := by decide +kernel
theorem dX12_aRound_56 : decode prog_14_method_72_code 56 = .ok (.getfield 7, 3) := by decide +kernel
theorem dX12_aRound_59 : decode prog_14_method_72_code 59 = .ok (.sipush 185, 3) := by decide +kernel
theorem dX12_aRound_62 : decode prog_14_method_72_code 62 = .ok (.iload_n 3, 1) := by decide +kernel
theorem dX12_aRound_63 : decode prog_14_method_72_code 63 = .ok (.iadd, 1) := by decide +kernel
theorem dX12_aRound_64 : decode prog_14_method_72_code 64 = .ok (.iaload, 1) := by decide +kernel
theorem dX12_aRound_65 : decode prog_14_method_72_code 65 = .ok (.aload_n 0, 1) := by decide +kernel
theorem dX12_aRound_66 : decode prog_14_method_72_code 66 = .ok (.getfield 316, 3) := by decide +kernel
theorem dX12_aRound_69 : decode prog_14_method_72_code 69 = .ok (.iand, 1) := by decide +kernel
theorem dX12_aRound_70 : decode prog_14_method_72_code 70 = .ok (.invokestatic 319, 3) := by decide +kernel
theorem dX12_aRound_73 : decode prog_14_method_72_code 73 = .ok (.invokevirtual 322, 3) := by decide +kernel
theorem dX12_aRound_76 : decode prog_14_method_72_code 76 = .ok (.if_icmp .lt 6, 3) := by decide +kernel
theorem dX12_aRound_79 : decode prog_14_method_72_code 79 = .ok (.goto 17, 3) := by decide +kernel
theorem dX12_aRound_82 : decode prog_14_method_72_code 82 = .ok (.aload_n 0, 1) := by decide +kernel
theorem dX12_aRound_83 : decode prog_14_method_72_code 83 = .ok (.dup, 1) := by decide +kernel
theorem dX12_aRound_84 : decode prog_14_method_72_code 84 = .ok (.getfield 316, 3) := by decide +kernel
theorem dX12_aRound_87 : decode prog_14_method_72_code 87 = .ok (.iconst 1, 1) := by decide +kernel
theorem dX12_aRound_88 : decode prog_14_method_72_code 88 = .ok (.iload_n 3, 1) := by decide +kernel
theorem dX12_aRound_89 : decode prog_14_method_72_code 89 = .ok (.ishl, 1) := by decide +kernel
theorem dX12_aRound_90 : decode prog_14_method_72_code 90 = .ok (.ior, 1) := by decide +kernel
theorem dX12_aRound_91 : decode prog_14_method_72_code 91 = .ok (.putfield 316, 3) := by decide +kernel
theorem dX12_aRound_94 : decode prog_14_method_72_code 94 = .ok (.iconst 1, 1) := by decide +kernel
theorem dX12_aRound_95 : decode prog_14_method_72_code 95 = .ok (.istore_n 2, 1) := by decide +kernel
theorem dX12_aRound_96 : decode prog_14_method_72_code 96 = .ok (.iinc 3 1, 3) := by decide +kernel
theorem dX12_aRound_99 : decode prog_14_method_72_code 99 = .ok (.goto (-95), 3) := by decide +kernel
theorem dX12_aRound_102 : decode prog_14_method_72_code 102 = .ok (.iload_n 2, 1) := by decide +kernel
theorem dX12_aRound_103 : decode prog_14_method_72_code 103 = .ok (.ireturn, 1) := by decide +kernel
theorem dX12_handsClapping_0 : decode prog_14_method_73_code 0 = .ok (.iconst 0, 1) := by decide +kernel
theorem dX12_handsClapping_1 : decode prog_14_method_73_code 1 = .ok (.istore_n 1, 1) := by decide +kernel
theorem dX12_handsClapping_2 : decode prog_14_method_73_code 2 = .ok (.iconst 0, 1) := by decide +kernel
theorem dX12_handsClapping_3 : decode prog_14_method_73_code 3 = .ok (.istore_n 2, 1) := by decide +kernel
theorem dX12_handsClapping_4 : decode prog_14_method_73_code 4 = .ok (.iload_n 2, 1) := by decide +kernel
theorem dX12_handsClapping_5 : decode prog_14_method_73_code 5 = .ok (.aload_n 0, 1) := by decide +kernel
theorem dX12_handsClapping_6 : decode prog_14_method_73_code 6 = .ok (.getfield 7, 3) := by decide +kernel
theorem dX12_handsClapping_9 : decode prog_14_method_73_code 9 = .ok (.bipush 37, 2) := by decide +kernel
theorem dX12_handsClapping_11 : decode prog_14_method_73_code 11 = .ok (.iaload, 1) := by decide +kernel
theorem dX12_handsClapping_12 : decode prog_14_method_73_code 12 = .ok (.if_icmp .ge 43, 3) := by decide +kernel
theorem dX12_handsClapping_15 : decode prog_14_method_73_code 15 = .ok (.iload_n 1, 1) := by decide +kernel
theorem dX12_handsClapping_16 : decode prog_14_method_73_code 16 = .ok (.aload_n 0, 1) := by decide +kernel
theorem dX12_handsClapping_17 : decode prog_14_method_73_code 17 = .ok (.getfield 316, 3) := by decide +kernel
theorem dX12_handsClapping_20 : decode prog_14_method_73_code 20 = .ok (.iload_n 2, 1) := by decide +kernel
theorem dX12_handsClapping_21 : decode prog_14_method_73_code 21 = .ok (.ishr, 1) := by decide +kernel
theorem dX12_handsClapping_22 : decode prog_14_method_73_code 22 = .ok (.iconst 1, 1) := by decide +kernel
theorem dX12_handsClapping_23 : decode prog_14_method_73_code 23 = .ok (.iand, 1) := by decide +kernel
theorem dX12_handsClapping_24 : decode prog_14_method_73_code 24 = .ok (.iconst 1, 1) := by decide +kernel
theorem dX12_handsClapping_25 : decode prog_14_method_73_code 25 = .ok (.if_icmp .ne 21, 3) := by decide +kernel
theorem dX12_handsClapping_28 : decode prog_14_method_73_code 28 = .ok (.aload_n 0, 1) := by decide +kernel
theorem dX12_handsClapping_29 : decode prog_14_method_73_code 29 = .ok (.getfield 7, 3) := by decide +kernel
theorem dX12_handsClapping_32 : decode prog_14_method_73_code 32 = .ok (.bipush 45, 2) := by decide +kernel
theorem dX12_handsClapping_34 : decode prog_14_method_73_code 34 = .ok (.iload_n 2, 1) := by decide +kernel
theorem dX12_handsClapping_35 : decode prog_14_method_73_code 35 = .ok (.iadd, 1) := by decide +kernel
theorem dX12_handsClapping_36 : decode prog_14_method_73_code 36 = .ok (.iaload, 1) := by decide +kernel
theorem dX12_handsClapping_37 : decode prog_14_method_73_code 37 = .ok (.aload_n 0, 1) := by decide +kernel
theorem dX12_handsClapping_38 : decode prog_14_method_73_code 38 = .ok (.iload_n 2, 1) := by decide +kernel
theorem dX12_handsClapping_39 : decode prog_14_method_73_code 39 = .ok (.invokevirtual 325, 3) := by decide +kernel
theorem dX12_handsClapping_42 : decode prog_14_method_73_code 42 = .ok (.imul, 1) := by decide +kernel
theorem dX12_handsClapping_43 : decode prog_14_method_73_code 43 = .ok (.goto 4, 3) := by decide +kernel
theorem dX12_handsClapping_46 : decode prog_14_method_73_code 46 = .ok (.iconst 0, 1) := by decide +kernel
theorem dX12_handsClapping_47 : decode prog_14_method_73_code 47 = .ok (.iadd, 1) := by decide +kernel
theorem dX12_handsClapping_48 : decode prog_14_method_73_code 48 = .ok (.istore_n 1, 1) := by decide +kernel
theorem dX12_handsClapping_49 : decode prog_14_method_73_code 49 = .ok (.iinc 2 1, 3) := by decide +kernel
theorem dX12_handsClapping_52 : decode prog_14_method_73_code 52 = .ok (.goto (-48), 3) := by decide +kernel
theorem dX12_handsClapping_55 : decode prog_14_method_73_code 55 = .ok (.iload_n 1, 1) := by decide +kernel
theorem dX12_handsClapping_56 : decode prog_14_method_73_code 56 = .ok (.ireturn, 1) := by decide +kernel
theorem dX12_claps_0 : decode prog_14_method_74_code 0 = .ok (.iconst 0, 1) := by decide +kernel
theorem dX12_claps_1 : decode prog_14_method_74_code 1 = .ok (.istore_n 2, 1) := by decide +kernel
theorem dX12_claps_2 : decode prog_14_method_74_code 2 = .ok (.iload_n 2, 1) := by decide +kernel
theorem dX12_claps_3 : decode prog_14_method_74_code 3 = .ok (.aload_n 0, 1) := by decide +kernel
theorem dX12_claps_4 : decode prog_14_method_74_code 4 = .ok (.getfield 7, 3) := by decide +kernel
theorem dX12_claps_7 : decode prog_14_method_74_code 7 = .ok (.bipush 37, 2) := by decide +kernel
theorem dX12_claps_9 : decode prog_14_method_74_code 9 = .ok (.iaload, 1) := by decide +kernel
theorem dX12_claps_10 : decode prog_14_method_74_code 10 = .ok (.if_icmp .ge 43, 3) := by decide +kernel
theorem dX12_claps_13 : decode prog_14_method_74_code 13 = .ok (.aload_n 0, 1) := by decide +kernel
theorem dX12_claps_14 : decode prog_14_method_74_code 14 = .ok (.iload_n 2, 1) := by decide +kernel
theorem dX12_claps_15 : decode prog_14_method_74_code 15 = .ok (.invokevirtual 310, 3) := by decide +kernel
theorem dX12_claps_18 : decode prog_14_method_74_code 18 = .ok (.ifCond .eq 29, 3) := by decide +kernel
theorem dX12_claps_21 : decode prog_14_method_74_code 21 = .ok (.aload_n 0, 1) := by decide +kernel
theorem dX12_claps_22 : decode prog_14_method_74_code 22 = .ok (.getfield 44, 3) := by decide +kernel
theorem dX12_claps_25 : decode prog_14_method_74_code 25 = .ok (.iload_n 2, 1) := by decide +kernel
theorem dX12_claps_26 : decode prog_14_method_74_code 26 = .ok (.aload_n 0, 1) := by decide +kernel
theorem dX12_claps_27 : decode prog_14_method_74_code 27 = .ok (.getfield 303, 3) := by decide +kernel
theorem dX12_claps_30 : decode prog_14_method_74_code 30 = .ok (.ifCond .eq 13, 3) := by decide +kernel
theorem dX12_claps_33 : decode prog_14_method_74_code 33 = .ok (.aload_n 0, 1) := by decide +kernel
theorem dX12_claps_34 : decode prog_14_method_74_code 34 = .ok (.sipush 1000, 3) := by decide +kernel
theorem dX12_claps_37 : decode prog_14_method_74_code 37 = .ok (.invokevirtual 328, 3) := by decide +kernel
theorem dX12_claps_40 : decode prog_14_method_74_code 40 = .ok (.goto 6, 3) := by decide +kernel
theorem dX12_claps_43 : decode prog_14_method_74_code 43 = .ok (.sipush 500, 3) := by decide +kernel
theorem dX12_claps_46 : decode prog_14_method_74_code 46 = .ok (.iastore, 1) := by decide +kernel
theorem dX12_claps_47 : decode prog_14_method_74_code 47 = .ok (.iinc 2 1, 3) := by decide +kernel
theorem dX12_claps_50 : decode prog_14_method_74_code 50 = .ok (.goto (-48), 3) := by decide +kernel
theorem dX12_claps_53 : decode prog_14_method_74_code 53 = .ok (.aload_n 0, 1) := by decide +kernel
theorem dX12_claps_54 : decode prog_14_method_74_code 54 = .ok (.iconst 0, 1) := by decide +kernel
theorem dX12_claps_55 : decode prog_14_method_74_code 55 = .ok (.putfield 316, 3) := by decide +kernel
theorem dX12_claps_58 : decode prog_14_method_74_code 58 = .ok (.aload_n 0, 1) := by decide +kernel
theorem dX12_claps_59 : decode prog_14_method_74_code 59 = .ok (.iconst 0, 1) := by decide +kernel
theorem dX12_claps_60 : decode prog_14_method_74_code 60 = .ok (.putfield 331, 3) := by decide +kernel
theorem dX12_claps_63 : decode prog_14_method_74_code 63 = .ok (.aload_n 0, 1) := by decide +kernel
theorem dX12_claps_64 : decode prog_14_method_74_code 64 = .ok (.iload_n 1, 1) := by decide +kernel
theorem dX12_claps_65 : decode prog_14_method_74_code 65 = .ok (.invokevirtual 334, 3) := by decide +kernel
theorem dX12_claps_68 : decode prog_14_method_74_code 68 = .ok (.ifCond .eq 16, 3) := by decide +kernel
theorem dX12_claps_71 : decode prog_14_method_74_code 71 = .ok (.aload_n 0, 1) := by decide +kernel
theorem dX12_claps_72 : decode prog_14_method_74_code 72 = .ok (.dup, 1) := by decide +kernel
theorem dX12_claps_73 : decode prog_14_method_74_code 73 = .ok (.getfield 331, 3) := by decide +kernel
theorem dX12_claps_76 : decode prog_14_method_74_code 76 = .ok (.iconst 1, 1) := by decide +kernel
theorem dX12_claps_77 : decode prog_14_method_74_code 77 = .ok (.iadd, 1) := by decide +kernel
theorem dX12_claps_78 : decode prog_14_method_74_code 78 = .ok (.putfield 331, 3) := by decide +kernel
theorem dX12_claps_81 : decode prog_14_method_74_code 81 = .ok (.goto (-18), 3) := by decide +kernel
theorem dX12_claps_84 : decode prog_14_method_74_code 84 = .ok (.aload_n 0, 1) := by decide +kernel
theorem dX12_claps_85 : decode prog_14_method_74_code 85 = .ok (.getfield 303, 3) := by decide +kernel
theorem dX12_claps_88 : decode prog_14_method_74_code 88 = .ok (.ifCond .eq 34, 3) := by decide +kernel
theorem dX12_claps_91 : decode prog_14_method_74_code 91 = .ok (.aload_n 0, 1) := by decide +kernel
theorem dX12_claps_92 : decode prog_14_method_74_code 92 = .ok (.getfield 7, 3) := by decide +kernel
theorem dX12_claps_95 : decode prog_14_method_74_code 95 = .ok (.bipush 39, 2) := by decide +kernel
theorem dX12_claps_97 : decode prog_14_method_74_code 97 = .ok (.iaload, 1) := by decide +kernel
theorem dX12_claps_98 : decode prog_14_method_74_code 98 = .ok (.ifCond .le 24, 3) := by decide +kernel
theorem dX12_claps_101 : decode prog_14_method_74_code 101 = .ok (.aload_n 0, 1) := by decide +kernel
theorem dX12_claps_102 : decode prog_14_method_74_code 102 = .ok (.sipush 1000, 3) := by decide +kernel
theorem dX12_claps_105 : decode prog_14_method_74_code 105 = .ok (.invokevirtual 328, 3) := by decide +kernel
theorem dX12_claps_108 : decode prog_14_method_74_code 108 = .ok (.aload_n 0, 1) := by decide +kernel
theorem dX12_claps_109 : decode prog_14_method_74_code 109 = .ok (.getfield 7, 3) := by decide +kernel
theorem dX12_claps_112 : decode prog_14_method_74_code 112 = .ok (.bipush 39, 2) := by decide +kernel
theorem dX12_claps_114 : decode prog_14_method_74_code 114 = .ok (.iaload, 1) := by decide +kernel
theorem dX12_claps_115 : decode prog_14_method_74_code 115 = .ok (.if_icmp .ge 7, 3) := by decide +kernel
theorem dX12_claps_118 : decode prog_14_method_74_code 118 = .ok (.iconst 1, 1) := by decide +kernel
theorem dX12_claps_119 : decode prog_14_method_74_code 119 = .ok (.goto 4, 3) := by decide +kernel
theorem dX12_claps_122 : decode prog_14_method_74_code 122 = .ok (.iconst 0, 1) := by decide +kernel
theorem dX12_claps_123 : decode prog_14_method_74_code 123 = .ok (.istore_n 2, 1) := by decide +kernel
theorem dX12_claps_124 : decode prog_14_method_74_code 124 = .ok (.iload_n 2, 1) := by decide +kernel
theorem dX12_claps_125 : decode prog_14_method_74_code 125 = .ok (.ifCond .eq 10, 3) := by decide +kernel
theorem dX12_claps_128 : decode prog_14_method_74_code 128 = .ok (.aload_n 0, 1) := by decide +kernel
theorem dX12_claps_129 : decode prog_14_method_74_code 129 = .ok (.iconst 2, 1) := by decide +kernel
theorem dX12_claps_130 : decode prog_14_method_74_code 130 = .ok (.iload_n 1, 1) := by decide +kernel
theorem dX12_claps_131 : decode prog_14_method_74_code 131 = .ok (.iconst 0, 1) := by decide +kernel
theorem dX12_claps_132 : decode prog_14_method_74_code 132 = .ok (.invokevirtual 337, 3) := by decide +kernel
theorem dX12_claps_135 : decode prog_14_method_74_code 135 = .ok (.aload_n 0, 1) := by decide +kernel
theorem dX12_claps_136 : decode prog_14_method_74_code 136 = .ok (.iload_n 2, 1) := by decide +kernel
theorem dX12_claps_137 : decode prog_14_method_74_code 137 = .ok (.ifCond .eq 7, 3) := by decide +kernel
theorem dX12_claps_140 : decode prog_14_method_74_code 140 = .ok (.iconst 0, 1) := by decide +kernel
theorem dX12_claps_141 : decode prog_14_method_74_code 141 = .ok (.goto 13, 3) := by decide +kernel
theorem dX12_claps_144 : decode prog_14_method_74_code 144 = .ok (.aload_n 0, 1) := by decide +kernel
theorem dX12_claps_145 : decode prog_14_method_74_code 145 = .ok (.iload_n 1, 1) := by decide +kernel
theorem dX12_claps_146 : decode prog_14_method_74_code 146 = .ok (.invokevirtual 341, 3) := by decide +kernel
theorem dX12_claps_149 : decode prog_14_method_74_code 149 = .ok (.aload_n 0, 1) := by decide +kernel
theorem dX12_claps_150 : decode prog_14_method_74_code 150 = .ok (.invokevirtual 344, 3) := by decide +kernel
theorem dX12_claps_153 : decode prog_14_method_74_code 153 = .ok (.iadd, 1) := by decide +kernel
theorem dX12_claps_154 : decode prog_14_method_74_code 154 = .ok (.putfield 347, 3) := by decide +kernel
theorem dX12_claps_157 : decode prog_14_method_74_code 157 = .ok (.aload_n 0, 1) := by decide +kernel
theorem dX12_claps_158 : decode prog_14_method_74_code 158 = .ok (.iload_n 2, 1) := by decide +kernel
theorem dX12_claps_159 : decode prog_14_method_74_code 159 = .ok (.ifCond .ne 44, 3) := by decide +kernel
theorem dX12_claps_162 : decode prog_14_method_74_code 162 = .ok (.aload_n 0, 1) := by decide +kernel
theorem dX12_claps_163 : decode prog_14_method_74_code 163 = .ok (.getfield 347, 3) := by decide +kernel
theorem dX12_claps_166 : decode prog_14_method_74_code 166 = .ok (.aload_n 0, 1) := by decide +kernel
theorem dX12_claps_167 : decode prog_14_method_74_code 167 = .ok (.invokevirtual 349, 3) := by decide +kernel
theorem dX12_claps_170 : decode prog_14_method_74_code 170 = .ok (.if_icmp .lt 33, 3) := by decide +kernel
theorem dX12_claps_173 : decode prog_14_method_74_code 173 = .ok (.aload_n 0, 1) := by decide +kernel
theorem dX12_claps_174 : decode prog_14_method_74_code 174 = .ok (.getfield 7, 3) := by decide +kernel
theorem dX12_claps_177 : decode prog_14_method_74_code 177 = .ok (.iconst 4, 1) := by decide +kernel
theorem dX12_claps_178 : decode prog_14_method_74_code 178 = .ok (.iaload, 1) := by decide +kernel
theorem dX12_claps_179 : decode prog_14_method_74_code 179 = .ok (.aload_n 0, 1) := by decide +kernel
theorem dX12_claps_180 : decode prog_14_method_74_code 180 = .ok (.invokevirtual 352, 3) := by decide +kernel
theorem dX12_claps_183 : decode prog_14_method_74_code 183 = .ok (.if_icmp .ge 20, 3) := by decide +kernel
theorem dX12_claps_186 : decode prog_14_method_74_code 186 = .ok (.aload_n 0, 1) := by decide +kernel
theorem dX12_claps_187 : decode prog_14_method_74_code 187 = .ok (.getfield 7, 3) := by decide +kernel
theorem dX12_claps_190 : decode prog_14_method_74_code 190 = .ok (.iconst 0, 1) := by decide +kernel
theorem dX12_claps_191 : decode prog_14_method_74_code 191 = .ok (.iaload, 1) := by decide +kernel
theorem dX12_claps_192 : decode prog_14_method_74_code 192 = .ok (.aload_n 0, 1) := by decide +kernel
theorem dX12_claps_193 : decode prog_14_method_74_code 193 = .ok (.invokevirtual 355, 3) := by decide +kernel
theorem dX12_claps_196 : decode prog_14_method_74_code 196 = .ok (.if_icmp .ge 7, 3) := by decide +kernel
theorem dX12_claps_199 : decode prog_14_method_74_code 199 = .ok (.iconst 1, 1) := by decide +kernel
theorem dX12_claps_200 : decode prog_14_method_74_code 200 = .ok (.goto 4, 3) := by decide +kernel
theorem dX12_claps_203 : decode prog_14_method_74_code 203 = .ok (.iconst 0, 1) := by decide +kernel
theorem dX12_claps_204 : decode prog_14_method_74_code 204 = .ok (.putfield 358, 3) := by decide +kernel
theorem dX12_claps_207 : decode prog_14_method_74_code 207 = .ok (.aload_n 0, 1) := by decide +kernel
theorem dX12_claps_208 : decode prog_14_method_74_code 208 = .ok (.aload_n 0, 1) := by decide +kernel
theorem dX12_claps_209 : decode prog_14_method_74_code 209 = .ok (.getfield 7, 3) := by decide +kernel
theorem dX12_claps_212 : decode prog_14_method_74_code 212 = .ok (.iconst 4, 1) := by decide +kernel
theorem dX12_claps_213 : decode prog_14_method_74_code 213 = .ok (.iaload, 1) := by decide +kernel
theorem dX12_claps_214 : decode prog_14_method_74_code 214 = .ok (.ifCond .ne 7, 3) := by decide +kernel
theorem dX12_claps_217 : decode prog_14_method_74_code 217 = .ok (.iconst 0, 1) := by decide +kernel
theorem dX12_claps_218 : decode prog_14_method_74_code 218 = .ok (.goto 4, 3) := by decide +kernel
theorem dX12_claps_221 : decode prog_14_method_74_code 221 = .ok (.iconst 1, 1) := by decide +kernel
theorem dX12_claps_222 : decode prog_14_method_74_code 222 = .ok (.iload_n 1, 1) := by decide +kernel
theorem dX12_claps_223 : decode prog_14_method_74_code 223 = .ok (.aload_n 0, 1) := by decide +kernel
theorem dX12_claps_224 : decode prog_14_method_74_code 224 = .ok (.getfield 347, 3) := by decide +kernel
theorem dX12_claps_227 : decode prog_14_method_74_code 227 = .ok (.invokevirtual 337, 3) := by decide +kernel
theorem dX12_claps_230 : decode prog_14_method_74_code 230 = .ok (.return_, 1) := by decide +kernel
theorem dX12_does_0 : decode prog_14_method_75_code 0 = .ok (.iconst 0, 1) := by decide +kernel
theorem dX12_does_1 : decode prog_14_method_75_code 1 = .ok (.istore_n 2, 1) := by decide +kernel
theorem dX12_does_2 : decode prog_14_method_75_code 2 = .ok (.aload_n 0, 1) := by decide +kernel
theorem dX12_does_3 : decode prog_14_method_75_code 3 = .ok (.iconst 1, 1) := by decide +kernel
theorem dX12_does_4 : decode prog_14_method_75_code 4 = .ok (.putfield 358, 3) := by decide +kernel
theorem dX12_does_7 : decode prog_14_method_75_code 7 = .ok (.aload_n 0, 1) := by decide +kernel
theorem dX12_does_8 : decode prog_14_method_75_code 8 = .ok (.getfield 358, 3) := by decide +kernel
theorem dX12_does_11 : decode prog_14_method_75_code 11 = .ok (.ifCond .eq 19, 3) := by decide +kernel
theorem dX12_does_14 : decode prog_14_method_75_code 14 = .ok (.aload_n 0, 1) := by decide +kernel
theorem dX12_does_15 : decode prog_14_method_75_code 15 = .ok (.iload_n 1, 1) := by decide +kernel
theorem dX12_does_16 : decode prog_14_method_75_code 16 = .ok (.invokevirtual 361, 3) := by decide +kernel
theorem dX12_does_19 : decode prog_14_method_75_code 19 = .ok (.aload_n 0, 1) := by decide +kernel
theorem dX12_does_20 : decode prog_14_method_75_code 20 = .ok (.iload_n 1, 1) := by decide +kernel
theorem dX12_does_21 : decode prog_14_method_75_code 21 = .ok (.invokevirtual 364, 3) := by decide +kernel
theorem dX12_does_24 : decode prog_14_method_75_code 24 = .ok (.iinc 2 1, 3) := by decide +kernel
theorem dX12_does_27 : decode prog_14_method_75_code 27 = .ok (.goto (-20), 3) := by decide +kernel
theorem dX12_does_30 : decode prog_14_method_75_code 30 = .ok (.iload_n 2, 1) := by decide +kernel
theorem dX12_does_31 : decode prog_14_method_75_code 31 = .ok (.ireturn, 1) := by decide +kernel
theorem dX12_perform_0 : decode prog_14_method_76_code 0 = .ok (.aload_n 0, 1) := by decide +kernel
theorem dX12_perform_1 : decode prog_14_method_76_code 1 = .ok (.iload_n 1, 1) := by decide +kernel
theorem dX12_perform_2 : decode prog_14_method_76_code 2 = .ok (.invokevirtual 72, 3) := by decide +kernel
theorem dX12_perform_5 : decode prog_14_method_76_code 5 = .ok (.ifCond .eq 28, 3) := by decide +kernel
theorem dX12_perform_8 : decode prog_14_method_76_code 8 = .ok (.aload_n 0, 1) := by decide +kernel
theorem dX12_perform_9 : decode prog_14_method_76_code 9 = .ok (.getfield 7, 3) := by decide +kernel
theorem dX12_perform_12 : decode prog_14_method_76_code 12 = .ok (.iconst 0, 1) := by decide +kernel
theorem dX12_perform_13 : decode prog_14_method_76_code 13 = .ok (.iaload, 1) := by decide +kernel
theorem dX12_perform_14 : decode prog_14_method_76_code 14 = .ok (.bipush 21, 2) := by decide +kernel
theorem dX12_perform_16 : decode prog_14_method_76_code 16 = .ok (.aload_n 0, 1) := by decide +kernel
theorem dX12_perform_17 : decode prog_14_method_76_code 17 = .ok (.getfield 7, 3) := by decide +kernel
theorem dX12_perform_20 : decode prog_14_method_76_code 20 = .ok (.bipush 89, 2) := by decide +kernel
theorem dX12_perform_22 : decode prog_14_method_76_code 22 = .ok (.iload_n 1, 1) := by decide +kernel
theorem dX12_perform_23 : decode prog_14_method_76_code 23 = .ok (.iadd, 1) := by decide +kernel
theorem dX12_perform_24 : decode prog_14_method_76_code 24 = .ok (.iaload, 1) := by decide +kernel
theorem dX12_perform_25 : decode prog_14_method_76_code 25 = .ok (.imul, 1) := by decide +kernel
theorem dX12_perform_26 : decode prog_14_method_76_code 26 = .ok (.iadd, 1) := by decide +kernel
theorem dX12_perform_27 : decode prog_14_method_76_code 27 = .ok (.sipush 9999, 3) := by decide +kernel
theorem dX12_perform_30 : decode prog_14_method_76_code 30 = .ok (.if_icmp .lt 5, 3) := by decide +kernel
theorem dX12_perform_33 : decode prog_14_method_76_code 33 = .ok (.iconst (-1), 1) := by decide +kernel
theorem dX12_perform_34 : decode prog_14_method_76_code 34 = .ok (.ireturn, 1) := by decide +kernel
theorem dX12_perform_35 : decode prog_14_method_76_code 35 = .ok (.aload_n 0, 1) := by decide +kernel
theorem dX12_perform_36 : decode prog_14_method_76_code 36 = .ok (.invokevirtual 367, 3) := by decide +kernel
theorem dX12_perform_39 : decode prog_14_method_76_code 39 = .ok (.aload_n 0, 1) := by decide +kernel
theorem dX12_perform_40 : decode prog_14_method_76_code 40 = .ok (.iload_n 1, 1) := by decide +kernel
theorem dX12_perform_41 : decode prog_14_method_76_code 41 = .ok (.invokevirtual 370, 3) := by decide +kernel
theorem dX12_perform_44 : decode prog_14_method_76_code 44 = .ok (.ireturn, 1) := by decide +kernel
theorem dX12_pay_0 : decode prog_14_method_77_code 0 = .ok (.aload_n 0, 1) := by decide +kernel
theorem dX12_pay_1 : decode prog_14_method_77_code 1 = .ok (.iload_n 1, 1) := by decide +kernel
theorem dX12_pay_2 : decode prog_14_method_77_code 2 = .ok (.invokevirtual 68, 3) := by decide +kernel
theorem dX12_pay_5 : decode prog_14_method_77_code 5 = .ok (.ifCond .eq 13, 3) := by decide +kernel
theorem dX12_pay_8 : decode prog_14_method_77_code 8 = .ok (.iload_n 2, 1) := by decide +kernel
theorem dX12_pay_9 : decode prog_14_method_77_code 9 = .ok (.iconst 1, 1) := by decide +kernel
theorem dX12_pay_10 : decode prog_14_method_77_code 10 = .ok (.bipush 99, 2) := by decide +kernel
theorem dX12_pay_12 : decode prog_14_method_77_code 12 = .ok (.invokestatic 56, 3) := by decide +kernel
theorem dX12_pay_15 : decode prog_14_method_77_code 15 = .ok (.ifCond .ne 5, 3) := by decide +kernel
theorem dX12_pay_18 : decode prog_14_method_77_code 18 = .ok (.iconst 0, 1) := by decide +kernel
theorem dX12_pay_19 : decode prog_14_method_77_code 19 = .ok (.ireturn, 1) := by decide +kernel
theorem dX12_pay_20 : decode prog_14_method_77_code 20 = .ok (.aload_n 0, 1) := by decide +kernel
theorem dX12_pay_21 : decode prog_14_method_77_code 21 = .ok (.invokevirtual 367, 3) := by decide +kernel
theorem dX12_pay_24 : decode prog_14_method_77_code 24 = .ok (.aload_n 0, 1) := by decide +kernel
theorem dX12_pay_25 : decode prog_14_method_77_code 25 = .ok (.getfield 7, 3) := by decide +kernel
theorem dX12_pay_28 : decode prog_14_method_77_code 28 = .ok (.bipush 9, 2) := by decide +kernel
theorem dX12_pay_30 : decode prog_14_method_77_code 30 = .ok (.iload_n 1, 1) := by decide +kernel
theorem dX12_pay_31 : decode prog_14_method_77_code 31 = .ok (.iadd, 1) := by decide +kernel
theorem dX12_pay_32 : decode prog_14_method_77_code 32 = .ok (.bipush 99, 2) := by decide +kernel
theorem dX12_pay_34 : decode prog_14_method_77_code 34 = .ok (.aload_n 0, 1) := by decide +kernel
theorem dX12_pay_35 : decode prog_14_method_77_code 35 = .ok (.getfield 7, 3) := by decide +kernel
theorem dX12_pay_38 : decode prog_14_method_77_code 38 = .ok (.bipush 9, 2) := by decide +kernel
theorem dX12_pay_40 : decode prog_14_method_77_code 40 = .ok (.iload_n 1, 1) := by decide +kernel
theorem dX12_pay_41 : decode prog_14_method_77_code 41 = .ok (.iadd, 1) := by decide +kernel
theorem dX12_pay_42 : decode prog_14_method_77_code 42 = .ok (.iaload, 1) := by decide +kernel
theorem dX12_pay_43 : decode prog_14_method_77_code 43 = .ok (.iload_n 2, 1) := by decide +kernel
theorem dX12_pay_44 : decode prog_14_method_77_code 44 = .ok (.iadd, 1) := by decide +kernel
theorem dX12_pay_45 : decode prog_14_method_77_code 45 = .ok (.invokestatic 286, 3) := by decide +kernel
theorem dX12_pay_48 : decode prog_14_method_77_code 48 = .ok (.iastore, 1) := by decide +kernel
theorem dX12_pay_49 : decode prog_14_method_77_code 49 = .ok (.aload_n 0, 1) := by decide +kernel
theorem dX12_pay_50 : decode prog_14_method_77_code 50 = .ok (.getfield 7, 3) := by decide +kernel
theorem dX12_pay_53 : decode prog_14_method_77_code 53 = .ok (.iconst 2, 1) := by decide +kernel
theorem dX12_pay_54 : decode prog_14_method_77_code 54 = .ok (.dup2, 1) := by decide +kernel
theorem dX12_pay_55 : decode prog_14_method_77_code 55 = .ok (.iaload, 1) := by decide +kernel
theorem dX12_pay_56 : decode prog_14_method_77_code 56 = .ok (.iload_n 2, 1) := by decide +kernel
theorem dX12_pay_57 : decode prog_14_method_77_code 57 = .ok (.isub, 1) := by decide +kernel
theorem dX12_pay_58 : decode prog_14_method_77_code 58 = .ok (.iastore, 1) := by decide +kernel
theorem dX12_pay_59 : decode prog_14_method_77_code 59 = .ok (.aload_n 0, 1) := by decide +kernel
theorem dX12_pay_60 : decode prog_14_method_77_code 60 = .ok (.iconst 3, 1) := by decide +kernel
theorem dX12_pay_61 : decode prog_14_method_77_code 61 = .ok (.iload_n 1, 1) := by decide +kernel
theorem dX12_pay_62 : decode prog_14_method_77_code 62 = .ok (.iload_n 2, 1) := by decide +kernel
theorem dX12_pay_63 : decode prog_14_method_77_code 63 = .ok (.invokevirtual 337, 3) := by decide +kernel
theorem dX12_pay_66 : decode prog_14_method_77_code 66 = .ok (.iconst 1, 1) := by decide +kernel
theorem dX12_pay_67 : decode prog_14_method_77_code 67 = .ok (.ireturn, 1) := by decide +kernel
theorem dX12_glove_0 : decode prog_14_method_78_code 0 = .ok (.aload_n 0, 1) := by decide +kernel
theorem dX12_glove_1 : decode prog_14_method_78_code 1 = .ok (.iload_n 1, 1) := by decide +kernel
theorem dX12_glove_2 : decode prog_14_method_78_code 2 = .ok (.invokevirtual 68, 3) := by decide +kernel
theorem dX12_glove_5 : decode prog_14_method_78_code 5 = .ok (.ifCond .eq 12, 3) := by decide +kernel
theorem dX12_glove_8 : decode prog_14_method_78_code 8 = .ok (.aload_n 0, 1) := by decide +kernel
theorem dX12_glove_9 : decode prog_14_method_78_code 9 = .ok (.iload_n 1, 1) := by decide +kernel
theorem dX12_glove_10 : decode prog_14_method_78_code 10 = .ok (.invokevirtual 313, 3) := by decide +kernel
theorem dX12_glove_13 : decode prog_14_method_78_code 13 = .ok (.iload_n 2, 1) := by decide +kernel
theorem dX12_glove_14 : decode prog_14_method_78_code 14 = .ok (.if_icmp .ne 5, 3) := by decide +kernel
theorem dX12_glove_17 : decode prog_14_method_78_code 17 = .ok (.iconst 0, 1) := by decide +kernel
theorem dX12_glove_18 : decode prog_14_method_78_code 18 = .ok (.ireturn, 1) := by decide +kernel
theorem dX12_glove_19 : decode prog_14_method_78_code 19 = .ok (.aload_n 0, 1) := by decide +kernel
theorem dX12_glove_20 : decode prog_14_method_78_code 20 = .ok (.invokevirtual 367, 3) := by decide +kernel
theorem dX12_glove_23 : decode prog_14_method_78_code 23 = .ok (.aload_n 0, 1) := by decide +kernel
theorem dX12_glove_24 : decode prog_14_method_78_code 24 = .ok (.getfield 7, 3) := by decide +kernel
theorem dX12_glove_27 : decode prog_14_method_78_code 27 = .ok (.bipush 8, 2) := by decide +kernel
theorem dX12_glove_29 : decode prog_14_method_78_code 29 = .ok (.dup2, 1) := by decide +kernel
theorem dX12_glove_30 : decode prog_14_method_78_code 30 = .ok (.iaload, 1) := by decide +kernel
theorem dX12_glove_31 : decode prog_14_method_78_code 31 = .ok (.iconst 1, 1) := by decide +kernel
theorem dX12_glove_32 : decode prog_14_method_78_code 32 = .ok (.iload_n 1, 1) := by decide +kernel
theorem dX12_glove_33 : decode prog_14_method_78_code 33 = .ok (.ishl, 1) := by decide +kernel
theorem dX12_glove_34 : decode prog_14_method_78_code 34 = .ok (.ixor, 1) := by decide +kernel
theorem dX12_glove_35 : decode prog_14_method_78_code 35 = .ok (.iastore, 1) := by decide +kernel
theorem dX12_glove_36 : decode prog_14_method_78_code 36 = .ok (.aload_n 0, 1) := by decide +kernel
theorem dX12_glove_37 : decode prog_14_method_78_code 37 = .ok (.iconst 4, 1) := by decide +kernel
theorem dX12_glove_38 : decode prog_14_method_78_code 38 = .ok (.iload_n 1, 1) := by decide +kernel
theorem dX12_glove_39 : decode prog_14_method_78_code 39 = .ok (.iload_n 2, 1) := by decide +kernel
theorem dX12_glove_40 : decode prog_14_method_78_code 40 = .ok (.ifCond .eq 7, 3) := by decide +kernel
theorem dX12_glove_43 : decode prog_14_method_78_code 43 = .ok (.iconst 1, 1) := by decide +kernel
theorem dX12_glove_44 : decode prog_14_method_78_code 44 = .ok (.goto 4, 3) := by decide +kernel
theorem dX12_glove_47 : decode prog_14_method_78_code 47 = .ok (.iconst 0, 1) := by decide +kernel
theorem dX12_glove_48 : decode prog_14_method_78_code 48 = .ok (.invokevirtual 337, 3) := by decide +kernel
theorem dX12_glove_51 : decode prog_14_method_78_code 51 = .ok (.iconst 1, 1) := by decide +kernel
theorem dX12_glove_52 : decode prog_14_method_78_code 52 = .ok (.ireturn, 1) := by decide +kernel
theorem dX12_let_0 : decode prog_14_method_79_code 0 = .ok (.aload_n 0, 1) := by decide +kernel
theorem dX12_let_1 : decode prog_14_method_79_code 1 = .ok (.iload_n 1, 1) := by decide +kernel
theorem dX12_let_2 : decode prog_14_method_79_code 2 = .ok (.invokevirtual 68, 3) := by decide +kernel
theorem dX12_let_5 : decode prog_14_method_79_code 5 = .ok (.ifCond .eq 12, 3) := by decide +kernel
theorem dX12_let_8 : decode prog_14_method_79_code 8 = .ok (.aload_n 0, 1) := by decide +kernel
theorem dX12_let_9 : decode prog_14_method_79_code 9 = .ok (.iload_n 1, 1) := by decide +kernel
theorem dX12_let_10 : decode prog_14_method_79_code 10 = .ok (.invokevirtual 310, 3) := by decide +kernel
theorem dX12_let_13 : decode prog_14_method_79_code 13 = .ok (.iload_n 2, 1) := by decide +kernel
theorem dX12_let_14 : decode prog_14_method_79_code 14 = .ok (.if_icmp .ne 5, 3) := by decide +kernel
theorem dX12_let_17 : decode prog_14_method_79_code 17 = .ok (.iconst 0, 1) := by decide +kernel
theorem dX12_let_18 : decode prog_14_method_79_code 18 = .ok (.ireturn, 1) := by decide +kernel
theorem dX12_let_19 : decode prog_14_method_79_code 19 = .ok (.aload_n 0, 1) := by decide +kernel
theorem dX12_let_20 : decode prog_14_method_79_code 20 = .ok (.invokevirtual 367, 3) := by decide +kernel
theorem dX12_let_23 : decode prog_14_method_79_code 23 = .ok (.aload_n 0, 1) := by decide +kernel
theorem dX12_let_24 : decode prog_14_method_79_code 24 = .ok (.getfield 7, 3) := by decide +kernel
theorem dX12_let_27 : decode prog_14_method_79_code 27 = .ok (.bipush 7, 2) := by decide +kernel
theorem dX12_let_29 : decode prog_14_method_79_code 29 = .ok (.dup2, 1) := by decide +kernel
theorem dX12_let_30 : decode prog_14_method_79_code 30 = .ok (.iaload, 1) := by decide +kernel
theorem dX12_let_31 : decode prog_14_method_79_code 31 = .ok (.iconst 1, 1) := by decide +kernel
theorem dX12_let_32 : decode prog_14_method_79_code 32 = .ok (.iload_n 1, 1) := by decide +kernel
theorem dX12_let_33 : decode prog_14_method_79_code 33 = .ok (.ishl, 1) := by decide +kernel
theorem dX12_let_34 : decode prog_14_method_79_code 34 = .ok (.ixor, 1) := by decide +kernel
theorem dX12_let_35 : decode prog_14_method_79_code 35 = .ok (.iastore, 1) := by decide +kernel
theorem dX12_let_36 : decode prog_14_method_79_code 36 = .ok (.aload_n 0, 1) := by decide +kernel
theorem dX12_let_37 : decode prog_14_method_79_code 37 = .ok (.iconst 5, 1) := by decide +kernel
theorem dX12_let_38 : decode prog_14_method_79_code 38 = .ok (.iload_n 1, 1) := by decide +kernel
theorem dX12_let_39 : decode prog_14_method_79_code 39 = .ok (.iload_n 2, 1) := by decide +kernel
theorem dX12_let_40 : decode prog_14_method_79_code 40 = .ok (.ifCond .eq 7, 3) := by decide +kernel
theorem dX12_let_43 : decode prog_14_method_79_code 43 = .ok (.iconst 1, 1) := by decide +kernel
theorem dX12_let_44 : decode prog_14_method_79_code 44 = .ok (.goto 4, 3) := by decide +kernel
theorem dX12_let_47 : decode prog_14_method_79_code 47 = .ok (.iconst 0, 1) := by decide +kernel
theorem dX12_let_48 : decode prog_14_method_79_code 48 = .ok (.invokevirtual 337, 3) := by decide +kernel
theorem dX12_let_51 : decode prog_14_method_79_code 51 = .ok (.iconst 1, 1) := by decide +kernel
theorem dX12_let_52 : decode prog_14_method_79_code 52 = .ok (.ireturn, 1) := by decide +kernel
theorem dX12_anEvening_0 : decode prog_14_method_80_code 0 = .ok (.aload_n 0, 1) := by decide +kernel
theorem dX12_anEvening_1 : decode prog_14_method_80_code 1 = .ok (.getfield 7, 3) := by decide +kernel
theorem dX12_anEvening_4 : decode prog_14_method_80_code 4 = .ok (.iconst 0, 1) := by decide +kernel
theorem dX12_anEvening_5 : decode prog_14_method_80_code 5 = .ok (.iconst 0, 1) := by decide +kernel
theorem dX12_anEvening_6 : decode prog_14_method_80_code 6 = .ok (.iastore, 1) := by decide +kernel
theorem dX12_anEvening_7 : decode prog_14_method_80_code 7 = .ok (.aload_n 0, 1) := by decide +kernel
theorem dX12_anEvening_8 : decode prog_14_method_80_code 8 = .ok (.getfield 7, 3) := by decide +kernel
theorem dX12_anEvening_11 : decode prog_14_method_80_code 11 = .ok (.iconst 3, 1) := by decide +kernel
theorem dX12_anEvening_12 : decode prog_14_method_80_code 12 = .ok (.iconst (-1), 1) := by decide +kernel
theorem dX12_anEvening_13 : decode prog_14_method_80_code 13 = .ok (.iastore, 1) := by decide +kernel
theorem dX12_anEvening_14 : decode prog_14_method_80_code 14 = .ok (.aload_n 0, 1) := by decide +kernel
theorem dX12_anEvening_15 : decode prog_14_method_80_code 15 = .ok (.getfield 7, 3) := by decide +kernel
theorem dX12_anEvening_18 : decode prog_14_method_80_code 18 = .ok (.iconst 4, 1) := by decide +kernel
theorem dX12_anEvening_19 : decode prog_14_method_80_code 19 = .ok (.iconst 0, 1) := by decide +kernel
theorem dX12_anEvening_20 : decode prog_14_method_80_code 20 = .ok (.iastore, 1) := by decide +kernel
theorem dX12_anEvening_21 : decode prog_14_method_80_code 21 = .ok (.iconst 0, 1) := by decide +kernel
theorem dX12_anEvening_22 : decode prog_14_method_80_code 22 = .ok (.istore_n 1, 1) := by decide +kernel
theorem dX12_anEvening_23 : decode prog_14_method_80_code 23 = .ok (.iconst 0, 1) := by decide +kernel
theorem dX12_anEvening_24 : decode prog_14_method_80_code 24 = .ok (.istore_n 2, 1) := by decide +kernel
theorem dX12_anEvening_25 : decode prog_14_method_80_code 25 = .ok (.iload_n 2, 1) := by decide +kernel
theorem dX12_anEvening_26 : decode prog_14_method_80_code 26 = .ok (.aload_n 0, 1) := by decide +kernel
theorem dX12_anEvening_27 : decode prog_14_method_80_code 27 = .ok (.getfield 7, 3) := by decide +kernel
theorem dX12_anEvening_30 : decode prog_14_method_80_code 30 = .ok (.bipush 42, 2) := by decide +kernel
theorem dX12_anEvening_32 : decode prog_14_method_80_code 32 = .ok (.iaload, 1) := by decide +kernel
theorem dX12_anEvening_33 : decode prog_14_method_80_code 33 = .ok (.if_icmp .ge 70, 3) := by decide +kernel
theorem dX12_anEvening_36 : decode prog_14_method_80_code 36 = .ok (.aload_n 0, 1) := by decide +kernel
theorem dX12_anEvening_37 : decode prog_14_method_80_code 37 = .ok (.getfield 7, 3) := by decide +kernel
theorem dX12_anEvening_40 : decode prog_14_method_80_code 40 = .ok (.iconst 0, 1) := by decide +kernel
theorem dX12_anEvening_41 : decode prog_14_method_80_code 41 = .ok (.aload_n 0, 1) := by decide +kernel
theorem dX12_anEvening_42 : decode prog_14_method_80_code 42 = .ok (.getfield 7, 3) := by decide +kernel
theorem dX12_anEvening_45 : decode prog_14_method_80_code 45 = .ok (.iconst 0, 1) := by decide +kernel
theorem dX12_anEvening_46 : decode prog_14_method_80_code 46 = .ok (.iaload, 1) := by decide +kernel
theorem dX12_anEvening_47 : decode prog_14_method_80_code 47 = .ok (.aload_n 0, 1) := by decide +kernel
theorem dX12_anEvening_48 : decode prog_14_method_80_code 48 = .ok (.getfield 7, 3) := by decide +kernel
theorem dX12_anEvening_51 : decode prog_14_method_80_code 51 = .ok (.sipush 153, 3) := by decide +kernel
theorem dX12_anEvening_54 : decode prog_14_method_80_code 54 = .ok (.iconst 2, 1) := by decide +kernel
theorem dX12_anEvening_55 : decode prog_14_method_80_code 55 = .ok (.iload_n 2, 1) := by decide +kernel
theorem dX12_anEvening_56 : decode prog_14_method_80_code 56 = .ok (.imul, 1) := by decide +kernel
theorem dX12_anEvening_57 : decode prog_14_method_80_code 57 = .ok (.iadd, 1) := by decide +kernel
theorem dX12_anEvening_58 : decode prog_14_method_80_code 58 = .ok (.iaload, 1) := by decide +kernel
theorem dX12_anEvening_59 : decode prog_14_method_80_code 59 = .ok (.invokestatic 290, 3) := by decide +kernel
theorem dX12_anEvening_62 : decode prog_14_method_80_code 62 = .ok (.iastore, 1) := by decide +kernel
theorem dX12_anEvening_63 : decode prog_14_method_80_code 63 = .ok (.aload_n 0, 1) := by decide +kernel
theorem dX12_anEvening_64 : decode prog_14_method_80_code 64 = .ok (.getfield 7, 3) := by decide +kernel
theorem dX12_anEvening_67 : decode prog_14_method_80_code 67 = .ok (.iconst 0, 1) := by decide +kernel
theorem dX12_anEvening_68 : decode prog_14_method_80_code 68 = .ok (.iaload, 1) := by decide +kernel
theorem dX12_anEvening_69 : decode prog_14_method_80_code 69 = .ok (.aload_n 0, 1) := by decide +kernel
theorem dX12_anEvening_70 : decode prog_14_method_80_code 70 = .ok (.invokevirtual 355, 3) := by decide +kernel
theorem dX12_anEvening_73 : decode prog_14_method_80_code 73 = .ok (.if_icmp .ge 24, 3) := by decide +kernel
theorem dX12_anEvening_76 : decode prog_14_method_80_code 76 = .ok (.iload_n 1, 1) := by decide +kernel
theorem dX12_anEvening_77 : decode prog_14_method_80_code 77 = .ok (.aload_n 0, 1) := by decide +kernel
theorem dX12_anEvening_78 : decode prog_14_method_80_code 78 = .ok (.aload_n 0, 1) := by decide +kernel
theorem dX12_anEvening_79 : decode prog_14_method_80_code 79 = .ok (.getfield 7, 3) := by decide +kernel
theorem dX12_anEvening_82 : decode prog_14_method_80_code 82 = .ok (.sipush 153, 3) := by decide +kernel
theorem dX12_anEvening_85 : decode prog_14_method_80_code 85 = .ok (.iconst 2, 1) := by decide +kernel
theorem dX12_anEvening_86 : decode prog_14_method_80_code 86 = .ok (.iload_n 2, 1) := by decide +kernel
theorem dX12_anEvening_87 : decode prog_14_method_80_code 87 = .ok (.imul, 1) := by decide +kernel
theorem dX12_anEvening_88 : decode prog_14_method_80_code 88 = .ok (.iadd, 1) := by decide +kernel
theorem dX12_anEvening_89 : decode prog_14_method_80_code 89 = .ok (.iconst 1, 1) := by decide +kernel
theorem dX12_anEvening_90 : decode prog_14_method_80_code 90 = .ok (.iadd, 1) := by decide +kernel
theorem dX12_anEvening_91 : decode prog_14_method_80_code 91 = .ok (.iaload, 1) := by decide +kernel
theorem dX12_anEvening_92 : decode prog_14_method_80_code 92 = .ok (.invokevirtual 370, 3) := by decide +kernel
theorem dX12_anEvening_95 : decode prog_14_method_80_code 95 = .ok (.iadd, 1) := by decide +kernel
theorem dX12_anEvening_96 : decode prog_14_method_80_code 96 = .ok (.istore_n 1, 1) := by decide +kernel
theorem dX12_anEvening_97 : decode prog_14_method_80_code 97 = .ok (.iinc 2 1, 3) := by decide +kernel
theorem dX12_anEvening_100 : decode prog_14_method_80_code 100 = .ok (.goto (-75), 3) := by decide +kernel
theorem dX12_anEvening_103 : decode prog_14_method_80_code 103 = .ok (.aload_n 0, 1) := by decide +kernel
theorem dX12_anEvening_104 : decode prog_14_method_80_code 104 = .ok (.getfield 7, 3) := by decide +kernel
theorem dX12_anEvening_107 : decode prog_14_method_80_code 107 = .ok (.iconst 1, 1) := by decide +kernel
theorem dX12_anEvening_108 : decode prog_14_method_80_code 108 = .ok (.dup2, 1) := by decide +kernel
theorem dX12_anEvening_109 : decode prog_14_method_80_code 109 = .ok (.iaload, 1) := by decide +kernel
theorem dX12_anEvening_110 : decode prog_14_method_80_code 110 = .ok (.iconst 1, 1) := by decide +kernel
theorem dX12_anEvening_111 : decode prog_14_method_80_code 111 = .ok (.iadd, 1) := by decide +kernel
theorem dX12_anEvening_112 : decode prog_14_method_80_code 112 = .ok (.iastore, 1) := by decide +kernel
theorem dX12_anEvening_113 : decode prog_14_method_80_code 113 = .ok (.iload_n 1, 1) := by decide +kernel
theorem dX12_anEvening_114 : decode prog_14_method_80_code 114 = .ok (.ireturn, 1) := by decide +kernel
theorem dX12_evenings_0 : decode prog_14_method_81_code 0 = .ok (.iload_n 1, 1) := by decide +kernel
theorem dX12_evenings_1 : decode prog_14_method_81_code 1 = .ok (.iconst 1, 1) := by decide +kernel
theorem dX12_evenings_2 : decode prog_14_method_81_code 2 = .ok (.bipush 20, 2) := by decide +kernel
theorem dX12_evenings_4 : decode prog_14_method_81_code 4 = .ok (.invokestatic 56, 3) := by decide +kernel
theorem dX12_evenings_7 : decode prog_14_method_81_code 7 = .ok (.ifCond .eq 17, 3) := by decide +kernel
theorem dX12_evenings_10 : decode prog_14_method_81_code 10 = .ok (.aload_n 0, 1) := by decide +kernel
theorem dX12_evenings_11 : decode prog_14_method_81_code 11 = .ok (.getfield 7, 3) := by decide +kernel
theorem dX12_evenings_14 : decode prog_14_method_81_code 14 = .ok (.iconst 1, 1) := by decide +kernel
theorem dX12_evenings_15 : decode prog_14_method_81_code 15 = .ok (.iaload, 1) := by decide +kernel
theorem dX12_evenings_16 : decode prog_14_method_81_code 16 = .ok (.iload_n 1, 1) := by decide +kernel
theorem dX12_evenings_17 : decode prog_14_method_81_code 17 = .ok (.iadd, 1) := by decide +kernel
theorem dX12_evenings_18 : decode prog_14_method_81_code 18 = .ok (.sipush 9999, 3) := by decide +kernel
theorem dX12_evenings_21 : decode prog_14_method_81_code 21 = .ok (.if_icmp .le 5, 3) := by decide +kernel
theorem dX12_evenings_24 : decode prog_14_method_81_code 24 = .ok (.iconst (-1), 1) := by decide +kernel
theorem dX12_evenings_25 : decode prog_14_method_81_code 25 = .ok (.ireturn, 1) := by decide +kernel
theorem dX12_evenings_26 : decode prog_14_method_81_code 26 = .ok (.iconst 0, 1) := by decide +kernel
theorem dX12_evenings_27 : decode prog_14_method_81_code 27 = .ok (.istore_n 2, 1) := by decide +kernel
theorem dX12_evenings_28 : decode prog_14_method_81_code 28 = .ok (.iconst 0, 1) := by decide +kernel
theorem dX12_evenings_29 : decode prog_14_method_81_code 29 = .ok (.istore_n 3, 1) := by decide +kernel
theorem dX12_evenings_30 : decode prog_14_method_81_code 30 = .ok (.iload_n 3, 1) := by decide +kernel
theorem dX12_evenings_31 : decode prog_14_method_81_code 31 = .ok (.iload_n 1, 1) := by decide +kernel
theorem dX12_evenings_32 : decode prog_14_method_81_code 32 = .ok (.if_icmp .ge 20, 3) := by decide +kernel
theorem dX12_evenings_35 : decode prog_14_method_81_code 35 = .ok (.aload_n 0, 1) := by decide +kernel
theorem dX12_evenings_36 : decode prog_14_method_81_code 36 = .ok (.invokevirtual 367, 3) := by decide +kernel
theorem dX12_evenings_39 : decode prog_14_method_81_code 39 = .ok (.iload_n 2, 1) := by decide +kernel
theorem dX12_evenings_40 : decode prog_14_method_81_code 40 = .ok (.aload_n 0, 1) := by decide +kernel
theorem dX12_evenings_41 : decode prog_14_method_81_code 41 = .ok (.invokevirtual 373, 3) := by decide +kernel
theorem dX12_evenings_44 : decode prog_14_method_81_code 44 = .ok (.iadd, 1) := by decide +kernel
theorem dX12_evenings_45 : decode prog_14_method_81_code 45 = .ok (.istore_n 2, 1) := by decide +kernel
theorem dX12_evenings_46 : decode prog_14_method_81_code 46 = .ok (.iinc 3 1, 3) := by decide +kernel
theorem dX12_evenings_49 : decode prog_14_method_81_code 49 = .ok (.goto (-19), 3) := by decide +kernel
theorem dX12_evenings_52 : decode prog_14_method_81_code 52 = .ok (.iload_n 2, 1) := by decide +kernel
theorem dX12_evenings_53 : decode prog_14_method_81_code 53 = .ok (.ireturn, 1) := by decide +kernel
theorem dX12_of_0 : decode prog_14_method_82_code 0 = .ok (.aload_n 0, 1) := by decide +kernel
theorem dX12_of_1 : decode prog_14_method_82_code 1 = .ok (.iload_n 1, 1) := by decide +kernel
theorem dX12_of_2 : decode prog_14_method_82_code 2 = .ok (.invokevirtual 68, 3) := by decide +kernel
theorem dX12_of_5 : decode prog_14_method_82_code 5 = .ok (.ifCond .ne 5, 3) := by decide +kernel
theorem dX12_of_8 : decode prog_14_method_82_code 8 = .ok (.iconst (-1), 1) := by decide +kernel
theorem dX12_of_9 : decode prog_14_method_82_code 9 = .ok (.ireturn, 1) := by decide +kernel
theorem dX12_of_10 : decode prog_14_method_82_code 10 = .ok (.iload_n 2, 1) := by decide +kernel
theorem dX12_of_11 : decode prog_14_method_82_code 11 = .ok (.tableswitch 88 3 7 #[33, 47, 61, 71, 82], 33) := by decide +kernel
theorem dX12_of_44 : decode prog_14_method_82_code 44 = .ok (.aload_n 0, 1) := by decide +kernel
theorem dX12_of_45 : decode prog_14_method_82_code 45 = .ok (.iload_n 1, 1) := by decide +kernel
theorem dX12_of_46 : decode prog_14_method_82_code 46 = .ok (.invokevirtual 310, 3) := by decide +kernel
theorem dX12_of_49 : decode prog_14_method_82_code 49 = .ok (.ifCond .eq 7, 3) := by decide +kernel
theorem dX12_of_52 : decode prog_14_method_82_code 52 = .ok (.iconst 1, 1) := by decide +kernel
theorem dX12_of_53 : decode prog_14_method_82_code 53 = .ok (.goto 4, 3) := by decide +kernel
theorem dX12_of_56 : decode prog_14_method_82_code 56 = .ok (.iconst 0, 1) := by decide +kernel
theorem dX12_of_57 : decode prog_14_method_82_code 57 = .ok (.ireturn, 1) := by decide +kernel
theorem dX12_of_58 : decode prog_14_method_82_code 58 = .ok (.aload_n 0, 1) := by decide +kernel
theorem dX12_of_59 : decode prog_14_method_82_code 59 = .ok (.iload_n 1, 1) := by decide +kernel
theorem dX12_of_60 : decode prog_14_method_82_code 60 = .ok (.invokevirtual 313, 3) := by decide +kernel
theorem dX12_of_63 : decode prog_14_method_82_code 63 = .ok (.ifCond .eq 7, 3) := by decide +kernel
theorem dX12_of_66 : decode prog_14_method_82_code 66 = .ok (.iconst 1, 1) := by decide +kernel
theorem dX12_of_67 : decode prog_14_method_82_code 67 = .ok (.goto 4, 3) := by decide +kernel
theorem dX12_of_70 : decode prog_14_method_82_code 70 = .ok (.iconst 0, 1) := by decide +kernel
theorem dX12_of_71 : decode prog_14_method_82_code 71 = .ok (.ireturn, 1) := by decide +kernel
theorem dX12_of_72 : decode prog_14_method_82_code 72 = .ok (.aload_n 0, 1) := by decide +kernel
theorem dX12_of_73 : decode prog_14_method_82_code 73 = .ok (.getfield 7, 3) := by decide +kernel
theorem dX12_of_76 : decode prog_14_method_82_code 76 = .ok (.bipush 9, 2) := by decide +kernel
theorem dX12_of_78 : decode prog_14_method_82_code 78 = .ok (.iload_n 1, 1) := by decide +kernel
theorem dX12_of_79 : decode prog_14_method_82_code 79 = .ok (.iadd, 1) := by decide +kernel
theorem dX12_of_80 : decode prog_14_method_82_code 80 = .ok (.iaload, 1) := by decide +kernel
theorem dX12_of_81 : decode prog_14_method_82_code 81 = .ok (.ireturn, 1) := by decide +kernel
theorem dX12_of_82 : decode prog_14_method_82_code 82 = .ok (.aload_n 0, 1) := by decide +kernel
theorem dX12_of_83 : decode prog_14_method_82_code 83 = .ok (.getfield 7, 3) := by decide +kernel
theorem dX12_of_86 : decode prog_14_method_82_code 86 = .ok (.sipush 185, 3) := by decide +kernel
theorem dX12_of_89 : decode prog_14_method_82_code 89 = .ok (.iload_n 1, 1) := by decide +kernel
theorem dX12_of_90 : decode prog_14_method_82_code 90 = .ok (.iadd, 1) := by decide +kernel
theorem dX12_of_91 : decode prog_14_method_82_code 91 = .ok (.iaload, 1) := by decide +kernel
theorem dX12_of_92 : decode prog_14_method_82_code 92 = .ok (.ireturn, 1) := by decide +kernel
theorem dX12_of_93 : decode prog_14_method_82_code 93 = .ok (.aload_n 0, 1) := by decide +kernel
theorem dX12_of_94 : decode prog_14_method_82_code 94 = .ok (.iload_n 1, 1) := by decide +kernel
theorem dX12_of_95 : decode prog_14_method_82_code 95 = .ok (.invokevirtual 325, 3) := by decide +kernel
theorem dX12_of_98 : decode prog_14_method_82_code 98 = .ok (.ireturn, 1) := by decide +kernel
theorem dX12_of_99 : decode prog_14_method_82_code 99 = .ok (.iload_n 2, 1) := by decide +kernel
theorem dX12_of_100 : decode prog_14_method_82_code 100 = .ok (.iconst 0, 1) := by decide +kernel
theorem dX12_of_101 : decode prog_14_method_82_code 101 = .ok (.iconst 2, 1) := by decide +kernel
theorem dX12_of_102 : decode prog_14_method_82_code 102 = .ok (.invokestatic 56, 3) := by decide +kernel
theorem dX12_of_105 : decode prog_14_method_82_code 105 = .ok (.ifCond .eq 18, 3) := by decide +kernel
theorem dX12_of_108 : decode prog_14_method_82_code 108 = .ok (.aload_n 0, 1) := by decide +kernel
theorem dX12_of_109 : decode prog_14_method_82_code 109 = .ok (.getfield 7, 3) := by decide +kernel
theorem dX12_of_112 : decode prog_14_method_82_code 112 = .ok (.bipush 45, 2) := by decide +kernel
theorem dX12_of_114 : decode prog_14_method_82_code 114 = .ok (.bipush 12, 2) := by decide +kernel
theorem dX12_of_116 : decode prog_14_method_82_code 116 = .ok (.iload_n 2, 1) := by decide +kernel
theorem dX12_of_117 : decode prog_14_method_82_code 117 = .ok (.imul, 1) := by decide +kernel
theorem dX12_of_118 : decode prog_14_method_82_code 118 = .ok (.iadd, 1) := by decide +kernel
theorem dX12_of_119 : decode prog_14_method_82_code 119 = .ok (.iload_n 1, 1) := by decide +kernel
theorem dX12_of_120 : decode prog_14_method_82_code 120 = .ok (.iadd, 1) := by decide +kernel
theorem dX12_of_121 : decode prog_14_method_82_code 121 = .ok (.iaload, 1) := by decide +kernel
theorem dX12_of_122 : decode prog_14_method_82_code 122 = .ok (.ireturn, 1) := by decide +kernel
theorem dX12_of_123 : decode prog_14_method_82_code 123 = .ok (.aload_n 0, 1) := by decide +kernel
theorem dX12_of_124 : decode prog_14_method_82_code 124 = .ok (.iload_n 2, 1) := by decide +kernel
theorem dX12_of_125 : decode prog_14_method_82_code 125 = .ok (.bipush 10, 2) := by decide +kernel
theorem dX12_of_127 : decode prog_14_method_82_code 127 = .ok (.isub, 1) := by decide +kernel
theorem dX12_of_128 : decode prog_14_method_82_code 128 = .ok (.invokevirtual 72, 3) := by decide +kernel
theorem dX12_of_131 : decode prog_14_method_82_code 131 = .ok (.ifCond .eq 16, 3) := by decide +kernel
theorem dX12_of_134 : decode prog_14_method_82_code 134 = .ok (.aload_n 0, 1) := by decide +kernel
theorem dX12_of_135 : decode prog_14_method_82_code 135 = .ok (.iload_n 1, 1) := by decide +kernel
theorem dX12_of_136 : decode prog_14_method_82_code 136 = .ok (.iload_n 2, 1) := by decide +kernel
theorem dX12_of_137 : decode prog_14_method_82_code 137 = .ok (.bipush 10, 2) := by decide +kernel
theorem dX12_of_139 : decode prog_14_method_82_code 139 = .ok (.isub, 1) := by decide +kernel
theorem dX12_of_140 : decode prog_14_method_82_code 140 = .ok (.iconst 0, 1) := by decide +kernel
theorem dX12_of_141 : decode prog_14_method_82_code 141 = .ok (.invokevirtual 322, 3) := by decide +kernel
theorem dX12_of_144 : decode prog_14_method_82_code 144 = .ok (.goto 4, 3) := by decide +kernel
theorem dX12_of_147 : decode prog_14_method_82_code 147 = .ok (.iconst (-1), 1) := by decide +kernel
theorem dX12_of_148 : decode prog_14_method_82_code 148 = .ok (.ireturn, 1) := by decide +kernel
theorem dX12_deedOf_0 : decode prog_14_method_83_code 0 = .ok (.aload_n 0, 1) := by decide +kernel
theorem dX12_deedOf_1 : decode prog_14_method_83_code 1 = .ok (.iload_n 1, 1) := by decide +kernel
theorem dX12_deedOf_2 : decode prog_14_method_83_code 2 = .ok (.invokevirtual 72, 3) := by decide +kernel
theorem dX12_deedOf_5 : decode prog_14_method_83_code 5 = .ok (.ifCond .ne 5, 3) := by decide +kernel
theorem dX12_deedOf_8 : decode prog_14_method_83_code 8 = .ok (.iconst (-1), 1) := by decide +kernel
theorem dX12_deedOf_9 : decode prog_14_method_83_code 9 = .ok (.ireturn, 1) := by decide +kernel
theorem dX12_deedOf_10 : decode prog_14_method_83_code 10 = .ok (.iload_n 2, 1) := by decide +kernel
theorem dX12_deedOf_11 : decode prog_14_method_83_code 11 = .ok (.tableswitch 103 0 6 #[41, 51, 61, 71, 81, 91, 97], 41) := by decide +kernel
theorem dX12_deedOf_52 : decode prog_14_method_83_code 52 = .ok (.aload_n 0, 1) := by decide +kernel
theorem dX12_deedOf_53 : decode prog_14_method_83_code 53 = .ok (.getfield 7, 3) := by decide +kernel
theorem dX12_deedOf_56 : decode prog_14_method_83_code 56 = .ok (.bipush 81, 2) := by decide +kernel
theorem dX12_deedOf_58 : decode prog_14_method_83_code 58 = .ok (.iload_n 1, 1) := by decide +kernel
theorem dX12_deedOf_59 : decode prog_14_method_83_code 59 = .ok (.iadd, 1) := by decide +kernel
theorem dX12_deedOf_60 : decode prog_14_method_83_code 60 = .ok (.iaload, 1) := by decide +kernel
theorem dX12_deedOf_61 : decode prog_14_method_83_code 61 = .ok (.ireturn, 1) := by decide +kernel
theorem dX12_deedOf_62 : decode prog_14_method_83_code 62 = .ok (.aload_n 0, 1) := by decide +kernel
theorem dX12_deedOf_63 : decode prog_14_method_83_code 63 = .ok (.getfield 7, 3) := by decide +kernel
theorem dX12_deedOf_66 : decode prog_14_method_83_code 66 = .ok (.bipush 89, 2) := by decide +kernel
theorem dX12_deedOf_68 : decode prog_14_method_83_code 68 = .ok (.iload_n 1, 1) := by decide +kernel
theorem dX12_deedOf_69 : decode prog_14_method_83_code 69 = .ok (.iadd, 1) := by decide +kernel
theorem dX12_deedOf_70 : decode prog_14_method_83_code 70 = .ok (.iaload, 1) := by decide +kernel
theorem dX12_deedOf_71 : decode prog_14_method_83_code 71 = .ok (.ireturn, 1) := by decide +kernel
theorem dX12_deedOf_72 : decode prog_14_method_83_code 72 = .ok (.aload_n 0, 1) := by decide +kernel
theorem dX12_deedOf_73 : decode prog_14_method_83_code 73 = .ok (.getfield 7, 3) := by decide +kernel
theorem dX12_deedOf_76 : decode prog_14_method_83_code 76 = .ok (.bipush 97, 2) := by decide +kernel
theorem dX12_deedOf_78 : decode prog_14_method_83_code 78 = .ok (.iload_n 1, 1) := by decide +kernel
theorem dX12_deedOf_79 : decode prog_14_method_83_code 79 = .ok (.iadd, 1) := by decide +kernel
theorem dX12_deedOf_80 : decode prog_14_method_83_code 80 = .ok (.iaload, 1) := by decide +kernel
theorem dX12_deedOf_81 : decode prog_14_method_83_code 81 = .ok (.ireturn, 1) := by decide +kernel
theorem dX12_deedOf_82 : decode prog_14_method_83_code 82 = .ok (.aload_n 0, 1) := by decide +kernel
theorem dX12_deedOf_83 : decode prog_14_method_83_code 83 = .ok (.getfield 7, 3) := by decide +kernel
theorem dX12_deedOf_86 : decode prog_14_method_83_code 86 = .ok (.bipush 21, 2) := by decide +kernel
theorem dX12_deedOf_88 : decode prog_14_method_83_code 88 = .ok (.iload_n 1, 1) := by decide +kernel
theorem dX12_deedOf_89 : decode prog_14_method_83_code 89 = .ok (.iadd, 1) := by decide +kernel
theorem dX12_deedOf_90 : decode prog_14_method_83_code 90 = .ok (.iaload, 1) := by decide +kernel
theorem dX12_deedOf_91 : decode prog_14_method_83_code 91 = .ok (.ireturn, 1) := by decide +kernel
theorem dX12_deedOf_92 : decode prog_14_method_83_code 92 = .ok (.aload_n 0, 1) := by decide +kernel
theorem dX12_deedOf_93 : decode prog_14_method_83_code 93 = .ok (.getfield 7, 3) := by decide +kernel
theorem dX12_deedOf_96 : decode prog_14_method_83_code 96 = .ok (.bipush 29, 2) := by decide +kernel
theorem dX12_deedOf_98 : decode prog_14_method_83_code 98 = .ok (.iload_n 1, 1) := by decide +kernel
theorem dX12_deedOf_99 : decode prog_14_method_83_code 99 = .ok (.iadd, 1) := by decide +kernel
theorem dX12_deedOf_100 : decode prog_14_method_83_code 100 = .ok (.iaload, 1) := by decide +kernel
theorem dX12_deedOf_101 : decode prog_14_method_83_code 101 = .ok (.ireturn, 1) := by decide +kernel
theorem dX12_deedOf_102 : decode prog_14_method_83_code 102 = .ok (.aload_n 0, 1) := by decide +kernel
theorem dX12_deedOf_103 : decode prog_14_method_83_code 103 = .ok (.iload_n 1, 1) := by decide +kernel
theorem dX12_deedOf_104 : decode prog_14_method_83_code 104 = .ok (.invokevirtual 341, 3) := by decide +kernel
theorem dX12_deedOf_107 : decode prog_14_method_83_code 107 = .ok (.ireturn, 1) := by decide +kernel
theorem dX12_deedOf_108 : decode prog_14_method_83_code 108 = .ok (.aload_n 0, 1) := by decide +kernel
theorem dX12_deedOf_109 : decode prog_14_method_83_code 109 = .ok (.iload_n 1, 1) := by decide +kernel
theorem dX12_deedOf_110 : decode prog_14_method_83_code 110 = .ok (.invokevirtual 307, 3) := by decide +kernel
theorem dX12_deedOf_113 : decode prog_14_method_83_code 113 = .ok (.ireturn, 1) := by decide +kernel
theorem dX12_deedOf_114 : decode prog_14_method_83_code 114 = .ok (.iconst (-1), 1) := by decide +kernel
theorem dX12_deedOf_115 : decode prog_14_method_83_code 115 = .ok (.ireturn, 1) := by decide +kernel
theorem dX12_statute_0 : decode prog_14_method_84_code 0 = .ok (.iload_n 1, 1) := by decide +kernel
theorem dX12_statute_1 : decode prog_14_method_84_code 1 = .ok (.ifCond .ne 10, 3) := by decide +kernel
theorem dX12_statute_4 : decode prog_14_method_84_code 4 = .ok (.aload_n 0, 1) := by decide +kernel
theorem dX12_statute_5 : decode prog_14_method_84_code 5 = .ok (.invokevirtual 349, 3) := by decide +kernel
theorem dX12_statute_8 : decode prog_14_method_84_code 8 = .ok (.goto 28, 3) := by decide +kernel
theorem dX12_statute_11 : decode prog_14_method_84_code 11 = .ok (.iload_n 1, 1) := by decide +kernel
theorem dX12_statute_12 : decode prog_14_method_84_code 12 = .ok (.iconst 1, 1) := by decide +kernel
theorem dX12_statute_13 : decode prog_14_method_84_code 13 = .ok (.if_icmp .ne 10, 3) := by decide +kernel
theorem dX12_statute_16 : decode prog_14_method_84_code 16 = .ok (.aload_n 0, 1) := by decide +kernel
theorem dX12_statute_17 : decode prog_14_method_84_code 17 = .ok (.invokevirtual 352, 3) := by decide +kernel
theorem dX12_statute_20 : decode prog_14_method_84_code 20 = .ok (.goto 16, 3) := by decide +kernel
theorem dX12_statute_23 : decode prog_14_method_84_code 23 = .ok (.iload_n 1, 1) := by decide +kernel
theorem dX12_statute_24 : decode prog_14_method_84_code 24 = .ok (.iconst 2, 1) := by decide +kernel
theorem dX12_statute_25 : decode prog_14_method_84_code 25 = .ok (.if_icmp .ne 10, 3) := by decide +kernel
theorem dX12_statute_28 : decode prog_14_method_84_code 28 = .ok (.aload_n 0, 1) := by decide +kernel
theorem dX12_statute_29 : decode prog_14_method_84_code 29 = .ok (.invokevirtual 355, 3) := by decide +kernel
theorem dX12_statute_32 : decode prog_14_method_84_code 32 = .ok (.goto 4, 3) := by decide +kernel
theorem dX12_statute_35 : decode prog_14_method_84_code 35 = .ok (.iconst (-1), 1) := by decide +kernel
theorem dX12_statute_36 : decode prog_14_method_84_code 36 = .ok (.ireturn, 1) := by decide +kernel
theorem dX12_book_0 : decode prog_14_method_85_code 0 = .ok (.iload_n 1, 1) := by decide +kernel
theorem dX12_book_1 : decode prog_14_method_85_code 1 = .ok (.iconst 0, 1) := by decide +kernel
theorem dX12_book_2 : decode prog_14_method_85_code 2 = .ok (.aload_n 0, 1) := by decide +kernel
theorem dX12_book_3 : decode prog_14_method_85_code 3 = .ok (.getfield 7, 3) := by decide +kernel
theorem dX12_book_6 : decode prog_14_method_85_code 6 = .ok (.bipush 6, 2) := by decide +kernel
theorem dX12_book_8 : decode prog_14_method_85_code 8 = .ok (.iaload, 1) := by decide +kernel
theorem dX12_book_9 : decode prog_14_method_85_code 9 = .ok (.iconst 1, 1) := by decide +kernel
theorem dX12_book_10 : decode prog_14_method_85_code 10 = .ok (.isub, 1) := by decide +kernel
theorem dX12_book_11 : decode prog_14_method_85_code 11 = .ok (.invokestatic 56, 3) := by decide +kernel
theorem dX12_book_14 : decode prog_14_method_85_code 14 = .ok (.ifCond .eq 29, 3) := by decide +kernel
theorem dX12_book_17 : decode prog_14_method_85_code 17 = .ok (.iload_n 2, 1) := by decide +kernel
theorem dX12_book_18 : decode prog_14_method_85_code 18 = .ok (.iconst 0, 1) := by decide +kernel
theorem dX12_book_19 : decode prog_14_method_85_code 19 = .ok (.iconst 3, 1) := by decide +kernel
theorem dX12_book_20 : decode prog_14_method_85_code 20 = .ok (.invokestatic 56, 3) := by decide +kernel
theorem dX12_book_23 : decode prog_14_method_85_code 23 = .ok (.ifCond .eq 20, 3) := by decide +kernel
theorem dX12_book_26 : decode prog_14_method_85_code 26 = .ok (.aload_n 0, 1) := by decide +kernel
theorem dX12_book_27 : decode prog_14_method_85_code 27 = .ok (.getfield 7, 3) := by decide +kernel
theorem dX12_book_30 : decode prog_14_method_85_code 30 = .ok (.sipush 223, 3) := by decide +kernel
theorem dX12_book_33 : decode prog_14_method_85_code 33 = .ok (.iconst 4, 1) := by decide +kernel
theorem dX12_book_34 : decode prog_14_method_85_code 34 = .ok (.iload_n 1, 1) := by decide +kernel
theorem dX12_book_35 : decode prog_14_method_85_code 35 = .ok (.imul, 1) := by decide +kernel
theorem dX12_book_36 : decode prog_14_method_85_code 36 = .ok (.iadd, 1) := by decide +kernel
theorem dX12_book_37 : decode prog_14_method_85_code 37 = .ok (.iload_n 2, 1) := by decide +kernel
theorem dX12_book_38 : decode prog_14_method_85_code 38 = .ok (.iadd, 1) := by decide +kernel
theorem dX12_book_39 : decode prog_14_method_85_code 39 = .ok (.iaload, 1) := by decide +kernel
theorem dX12_book_40 : decode prog_14_method_85_code 40 = .ok (.goto 4, 3) := by decide +kernel
theorem dX12_book_43 : decode prog_14_method_85_code 43 = .ok (.iconst (-1), 1) := by decide +kernel
theorem dX12_book_44 : decode prog_14_method_85_code 44 = .ok (.ireturn, 1) := by decide +kernel
theorem dX12_lays_0 : decode prog_14_method_86_code 0 = .ok (.iconst 0, 1) := by decide +kernel
theorem dX12_lays_1 : decode prog_14_method_86_code 1 = .ok (.istore_n 1, 1) := by decide +kernel
theorem dX12_lays_2 : decode prog_14_method_86_code 2 = .ok (.iload_n 1, 1) := by decide +kernel
theorem dX12_lays_3 : decode prog_14_method_86_code 3 = .ok (.bipush 37, 2) := by decide +kernel
theorem dX12_lays_5 : decode prog_14_method_86_code 5 = .ok (.if_icmp .ge 21, 3) := by decide +kernel
theorem dX12_lays_8 : decode prog_14_method_86_code 8 = .ok (.aload_n 0, 1) := by decide +kernel
theorem dX12_lays_9 : decode prog_14_method_86_code 9 = .ok (.getfield 19, 3) := by decide +kernel
theorem dX12_lays_12 : decode prog_14_method_86_code 12 = .ok (.iload_n 1, 1) := by decide +kernel
theorem dX12_lays_13 : decode prog_14_method_86_code 13 = .ok (.aload_n 0, 1) := by decide +kernel
theorem dX12_lays_14 : decode prog_14_method_86_code 14 = .ok (.getfield 7, 3) := by decide +kernel
theorem dX12_lays_17 : decode prog_14_method_86_code 17 = .ok (.iload_n 1, 1) := by decide +kernel
theorem dX12_lays_18 : decode prog_14_method_86_code 18 = .ok (.iaload, 1) := by decide +kernel
theorem dX12_lays_19 : decode prog_14_method_86_code 19 = .ok (.iastore, 1) := by decide +kernel
theorem dX12_lays_20 : decode prog_14_method_86_code 20 = .ok (.iinc 1 1, 3) := by decide +kernel
theorem dX12_lays_23 : decode prog_14_method_86_code 23 = .ok (.goto (-21), 3) := by decide +kernel
theorem dX12_lays_26 : decode prog_14_method_86_code 26 = .ok (.aload_n 0, 1) := by decide +kernel
theorem dX12_lays_27 : decode prog_14_method_86_code 27 = .ok (.iconst 0, 1) := by decide +kernel
theorem dX12_lays_28 : decode prog_14_method_86_code 28 = .ok (.putfield 303, 3) := by decide +kernel
theorem dX12_lays_31 : decode prog_14_method_86_code 31 = .ok (.return_, 1) := by decide +kernel
theorem dX12_putsBack_0 : decode prog_14_method_87_code 0 = .ok (.iconst 0, 1) := by decide +kernel
theorem dX12_putsBack_1 : decode prog_14_method_87_code 1 = .ok (.istore_n 1, 1) := by decide +kernel
theorem dX12_putsBack_2 : decode prog_14_method_87_code 2 = .ok (.iload_n 1, 1) := by decide +kernel
theorem dX12_putsBack_3 : decode prog_14_method_87_code 3 = .ok (.bipush 37, 2) := by decide +kernel
theorem dX12_putsBack_5 : decode prog_14_method_87_code 5 = .ok (.if_icmp .ge 21, 3) := by decide +kernel
theorem dX12_putsBack_8 : decode prog_14_method_87_code 8 = .ok (.aload_n 0, 1) := by decide +kernel
theorem dX12_putsBack_9 : decode prog_14_method_87_code 9 = .ok (.getfield 7, 3) := by decide +kernel
theorem dX12_putsBack_12 : decode prog_14_method_87_code 12 = .ok (.iload_n 1, 1) := by decide +kernel
theorem dX12_putsBack_13 : decode prog_14_method_87_code 13 = .ok (.aload_n 0, 1) := by decide +kernel
theorem dX12_putsBack_14 : decode prog_14_method_87_code 14 = .ok (.getfield 19, 3) := by decide +kernel
theorem dX12_putsBack_17 : decode prog_14_method_87_code 17 = .ok (.iload_n 1, 1) := by decide +kernel
theorem dX12_putsBack_18 : decode prog_14_method_87_code 18 = .ok (.iaload, 1) := by decide +kernel
theorem dX12_putsBack_19 : decode prog_14_method_87_code 19 = .ok (.iastore, 1) := by decide +kernel
theorem dX12_putsBack_20 : decode prog_14_method_87_code 20 = .ok (.iinc 1 1, 3) := by decide +kernel
theorem dX12_putsBack_23 : decode prog_14_method_87_code 23 = .ok (.goto (-21), 3) := by decide +kernel
theorem dX12_putsBack_26 : decode prog_14_method_87_code 26 = .ok (.return_, 1) := by decide +kernel
theorem dX12_goes_0 : decode prog_14_method_88_code 0 = .ok (.iload_n 1, 1) := by decide +kernel
theorem dX12_goes_1 : decode prog_14_method_88_code 1 = .ok (.iconst 0, 1) := by decide +kernel
theorem dX12_goes_2 : decode prog_14_method_88_code 2 = .ok (.iconst 1, 1) := by decide +kernel
theorem dX12_goes_3 : decode prog_14_method_88_code 3 = .ok (.invokestatic 56, 3) := by decide +kernel
theorem dX12_goes_6 : decode prog_14_method_88_code 6 = .ok (.ifCond .ne 18, 3) := by decide +kernel
theorem dX12_goes_9 : decode prog_14_method_88_code 9 = .ok (.aload_n 0, 1) := by decide +kernel
theorem dX12_goes_10 : decode prog_14_method_88_code 10 = .ok (.iload_n 1, 1) := by decide +kernel
theorem dX12_goes_11 : decode prog_14_method_88_code 11 = .ok (.bipush 10, 2) := by decide +kernel
theorem dX12_goes_13 : decode prog_14_method_88_code 13 = .ok (.isub, 1) := by decide +kernel
theorem dX12_goes_14 : decode prog_14_method_88_code 14 = .ok (.invokevirtual 72, 3) := by decide +kernel
theorem dX12_goes_17 : decode prog_14_method_88_code 17 = .ok (.ifCond .ne 7, 3) := by decide +kernel
theorem dX12_goes_20 : decode prog_14_method_88_code 20 = .ok (.ldc_w 376, 3) := by decide +kernel
theorem dX12_goes_23 : decode prog_14_method_88_code 23 = .ok (.ireturn, 1) := by decide +kernel
theorem dX12_goes_24 : decode prog_14_method_88_code 24 = .ok (.aload_n 0, 1) := by decide +kernel
theorem dX12_goes_25 : decode prog_14_method_88_code 25 = .ok (.invokevirtual 377, 3) := by decide +kernel
theorem dX12_goes_28 : decode prog_14_method_88_code 28 = .ok (.aload_n 0, 1) := by decide +kernel
theorem dX12_goes_29 : decode prog_14_method_88_code 29 = .ok (.invokevirtual 373, 3) := by decide +kernel
theorem dX12_goes_32 : decode prog_14_method_88_code 32 = .ok (.pop, 1) := by decide +kernel
theorem dX12_goes_33 : decode prog_14_method_88_code 33 = .ok (.iload_n 1, 1) := by decide +kernel
theorem dX12_goes_34 : decode prog_14_method_88_code 34 = .ok (.ifCond .ne 12, 3) := by decide +kernel
theorem dX12_goes_37 : decode prog_14_method_88_code 37 = .ok (.aload_n 0, 1) := by decide +kernel
theorem dX12_goes_38 : decode prog_14_method_88_code 38 = .ok (.getfield 7, 3) := by decide +kernel
theorem dX12_goes_41 : decode prog_14_method_88_code 41 = .ok (.iconst 0, 1) := by decide +kernel
theorem dX12_goes_42 : decode prog_14_method_88_code 42 = .ok (.iaload, 1) := by decide +kernel
theorem dX12_goes_43 : decode prog_14_method_88_code 43 = .ok (.goto 42, 3) := by decide +kernel
theorem dX12_goes_46 : decode prog_14_method_88_code 46 = .ok (.iload_n 1, 1) := by decide +kernel
theorem dX12_goes_47 : decode prog_14_method_88_code 47 = .ok (.iconst 1, 1) := by decide +kernel
theorem dX12_goes_48 : decode prog_14_method_88_code 48 = .ok (.if_icmp .ne 12, 3) := by decide +kernel
theorem dX12_goes_51 : decode prog_14_method_88_code 51 = .ok (.aload_n 0, 1) := by decide +kernel
theorem dX12_goes_52 : decode prog_14_method_88_code 52 = .ok (.getfield 7, 3) := by decide +kernel
theorem dX12_goes_55 : decode prog_14_method_88_code 55 = .ok (.iconst 2, 1) := by decide +kernel
theorem dX12_goes_56 : decode prog_14_method_88_code 56 = .ok (.iaload, 1) := by decide +kernel
theorem dX12_goes_57 : decode prog_14_method_88_code 57 = .ok (.goto 28, 3) := by decide +kernel
theorem dX12_goes_60 : decode prog_14_method_88_code 60 = .ok (.aload_n 0, 1) := by decide +kernel
theorem dX12_goes_61 : decode prog_14_method_88_code 61 = .ok (.getfield 7, 3) := by decide +kernel
theorem dX12_goes_64 : decode prog_14_method_88_code 64 = .ok (.bipush 29, 2) := by decide +kernel
theorem dX12_goes_66 : decode prog_14_method_88_code 66 = .ok (.iload_n 1, 1) := by decide +kernel
theorem dX12_goes_67 : decode prog_14_method_88_code 67 = .ok (.iadd, 1) := by decide +kernel
theorem dX12_goes_68 : decode prog_14_method_88_code 68 = .ok (.bipush 10, 2) := by decide +kernel
theorem dX12_goes_70 : decode prog_14_method_88_code 70 = .ok (.isub, 1) := by decide +kernel
theorem dX12_goes_71 : decode prog_14_method_88_code 71 = .ok (.iaload, 1) := by decide +kernel
theorem dX12_goes_72 : decode prog_14_method_88_code 72 = .ok (.aload_n 0, 1) := by decide +kernel
theorem dX12_goes_73 : decode prog_14_method_88_code 73 = .ok (.getfield 19, 3) := by decide +kernel
theorem dX12_goes_76 : decode prog_14_method_88_code 76 = .ok (.bipush 29, 2) := by decide +kernel
theorem dX12_goes_78 : decode prog_14_method_88_code 78 = .ok (.iload_n 1, 1) := by decide +kernel
theorem dX12_goes_79 : decode prog_14_method_88_code 79 = .ok (.iadd, 1) := by decide +kernel
theorem dX12_goes_80 : decode prog_14_method_88_code 80 = .ok (.bipush 10, 2) := by decide +kernel
theorem dX12_goes_82 : decode prog_14_method_88_code 82 = .ok (.isub, 1) := by decide +kernel
theorem dX12_goes_83 : decode prog_14_method_88_code 83 = .ok (.iaload, 1) := by decide +kernel
theorem dX12_goes_84 : decode prog_14_method_88_code 84 = .ok (.isub, 1) := by decide +kernel
theorem dX12_goes_85 : decode prog_14_method_88_code 85 = .ok (.istore_n 2, 1) := by decide +kernel
theorem dX12_goes_86 : decode prog_14_method_88_code 86 = .ok (.aload_n 0, 1) := by decide +kernel
theorem dX12_goes_87 : decode prog_14_method_88_code 87 = .ok (.invokevirtual 380, 3) := by decide +kernel
theorem dX12_goes_90 : decode prog_14_method_88_code 90 = .ok (.iload_n 2, 1) := by decide +kernel
theorem dX12_goes_91 : decode prog_14_method_88_code 91 = .ok (.ireturn, 1) := by decide +kernel
theorem dX12_settles_0 : decode prog_14_method_89_code 0 = .ok (.aload_n 0, 1) := by decide +kernel
theorem dX12_settles_1 : decode prog_14_method_89_code 1 = .ok (.iload_n 1, 1) := by decide +kernel
theorem dX12_settles_2 : decode prog_14_method_89_code 2 = .ok (.invokevirtual 72, 3) := by decide +kernel
theorem dX12_settles_5 : decode prog_14_method_89_code 5 = .ok (.ifCond .eq 12, 3) := by decide +kernel
theorem dX12_settles_8 : decode prog_14_method_89_code 8 = .ok (.iload_n 2, 1) := by decide +kernel
theorem dX12_settles_9 : decode prog_14_method_89_code 9 = .ok (.iconst 0, 1) := by decide +kernel
theorem dX12_settles_10 : decode prog_14_method_89_code 10 = .ok (.iconst 2, 1) := by decide +kernel
theorem dX12_settles_11 : decode prog_14_method_89_code 11 = .ok (.invokestatic 56, 3) := by decide +kernel
theorem dX12_settles_14 : decode prog_14_method_89_code 14 = .ok (.ifCond .ne 5, 3) := by decide +kernel
theorem dX12_settles_17 : decode prog_14_method_89_code 17 = .ok (.iconst (-1), 1) := by decide +kernel
theorem dX12_settles_18 : decode prog_14_method_89_code 18 = .ok (.ireturn, 1) := by decide +kernel
theorem dX12_settles_19 : decode prog_14_method_89_code 19 = .ok (.aload_n 0, 1) := by decide +kernel
theorem dX12_settles_20 : decode prog_14_method_89_code 20 = .ok (.invokevirtual 377, 3) := by decide +kernel
theorem dX12_settles_23 : decode prog_14_method_89_code 23 = .ok (.aload_n 0, 1) := by decide +kernel
theorem dX12_settles_24 : decode prog_14_method_89_code 24 = .ok (.iload_n 1, 1) := by decide +kernel
theorem dX12_settles_25 : decode prog_14_method_89_code 25 = .ok (.invokevirtual 361, 3) := by decide +kernel
theorem dX12_settles_28 : decode prog_14_method_89_code 28 = .ok (.aload_n 0, 1) := by decide +kernel
theorem dX12_settles_29 : decode prog_14_method_89_code 29 = .ok (.iload_n 1, 1) := by decide +kernel
theorem dX12_settles_30 : decode prog_14_method_89_code 30 = .ok (.invokevirtual 364, 3) := by decide +kernel
theorem dX12_settles_33 : decode prog_14_method_89_code 33 = .ok (.aload_n 0, 1) := by decide +kernel
theorem dX12_settles_34 : decode prog_14_method_89_code 34 = .ok (.invokevirtual 380, 3) := by decide +kernel
theorem dX12_settles_37 : decode prog_14_method_89_code 37 = .ok (.iload_n 2, 1) := by decide +kernel
theorem dX12_settles_38 : decode prog_14_method_89_code 38 = .ok (.ifCond .ne 10, 3) := by decide +kernel
theorem dX12_settles_41 : decode prog_14_method_89_code 41 = .ok (.aload_n 0, 1) := by decide +kernel
theorem dX12_settles_42 : decode prog_14_method_89_code 42 = .ok (.getfield 316, 3) := by decide +kernel
theorem dX12_settles_45 : decode prog_14_method_89_code 45 = .ok (.goto 19, 3) := by decide +kernel
theorem dX12_settles_48 : decode prog_14_method_89_code 48 = .ok (.iload_n 2, 1) := by decide +kernel
theorem dX12_settles_49 : decode prog_14_method_89_code 49 = .ok (.iconst 1, 1) := by decide +kernel
theorem dX12_settles_50 : decode prog_14_method_89_code 50 = .ok (.if_icmp .ne 10, 3) := by decide +kernel
theorem dX12_settles_53 : decode prog_14_method_89_code 53 = .ok (.aload_n 0, 1) := by decide +kernel
theorem dX12_settles_54 : decode prog_14_method_89_code 54 = .ok (.getfield 331, 3) := by decide +kernel
theorem dX12_settles_57 : decode prog_14_method_89_code 57 = .ok (.goto 7, 3) := by decide +kernel
theorem dX12_settles_60 : decode prog_14_method_89_code 60 = .ok (.aload_n 0, 1) := by decide +kernel
theorem dX12_settles_61 : decode prog_14_method_89_code 61 = .ok (.getfield 347, 3) := by decide +kernel
theorem dX12_settles_64 : decode prog_14_method_89_code 64 = .ok (.ireturn, 1) := by decide +kernel
theorem dX12_doneWithout_0 : decode prog_14_method_90_code 0 = .ok (.aload_n 0, 1) := by decide +kernel
theorem dX12_doneWithout_1 : decode prog_14_method_90_code 1 = .ok (.invokevirtual 377, 3) := by decide +kernel
theorem dX12_doneWithout_4 : decode prog_14_method_90_code 4 = .ok (.aload_n 0, 1) := by decide +kernel
theorem dX12_doneWithout_5 : decode prog_14_method_90_code 5 = .ok (.getfield 7, 3) := by decide +kernel
theorem dX12_doneWithout_8 : decode prog_14_method_90_code 8 = .ok (.bipush 7, 2) := by decide +kernel
theorem dX12_doneWithout_10 : decode prog_14_method_90_code 10 = .ok (.dup2, 1) := by decide +kernel
theorem dX12_doneWithout_11 : decode prog_14_method_90_code 11 = .ok (.iaload, 1) := by decide +kernel
theorem dX12_doneWithout_12 : decode prog_14_method_90_code 12 = .ok (.iload_n 2, 1) := by decide +kernel
theorem dX12_doneWithout_13 : decode prog_14_method_90_code 13 = .ok (.iconst (-1), 1) := by decide +kernel
theorem dX12_doneWithout_14 : decode prog_14_method_90_code 14 = .ok (.ixor, 1) := by decide +kernel
theorem dX12_doneWithout_15 : decode prog_14_method_90_code 15 = .ok (.iand, 1) := by decide +kernel
theorem dX12_doneWithout_16 : decode prog_14_method_90_code 16 = .ok (.iastore, 1) := by decide +kernel
theorem dX12_doneWithout_17 : decode prog_14_method_90_code 17 = .ok (.aload_n 0, 1) := by decide +kernel
theorem dX12_doneWithout_18 : decode prog_14_method_90_code 18 = .ok (.iload_n 1, 1) := by decide +kernel
theorem dX12_doneWithout_19 : decode prog_14_method_90_code 19 = .ok (.invokevirtual 370, 3) := by decide +kernel
theorem dX12_doneWithout_22 : decode prog_14_method_90_code 22 = .ok (.istore_n 3, 1) := by decide +kernel
theorem dX12_doneWithout_23 : decode prog_14_method_90_code 23 = .ok (.aload_n 0, 1) := by decide +kernel
theorem dX12_doneWithout_24 : decode prog_14_method_90_code 24 = .ok (.invokevirtual 380, 3) := by decide +kernel
theorem dX12_doneWithout_27 : decode prog_14_method_90_code 27 = .ok (.iload_n 3, 1) := by decide +kernel
theorem dX12_doneWithout_28 : decode prog_14_method_90_code 28 = .ok (.ireturn, 1) := by decide +kernel
theorem dX12_makes_0 : decode prog_14_method_91_code 0 = .ok (.aload_n 0, 1) := by decide +kernel
theorem dX12_makes_1 : decode prog_14_method_91_code 1 = .ok (.iload_n 1, 1) := by decide +kernel
theorem dX12_makes_2 : decode prog_14_method_91_code 2 = .ok (.invokevirtual 72, 3) := by decide +kernel
theorem dX12_makes_5 : decode prog_14_method_91_code 5 = .ok (.ifCond .eq 21, 3) := by decide +kernel
theorem dX12_makes_8 : decode prog_14_method_91_code 8 = .ok (.iload_n 2, 1) := by decide +kernel
theorem dX12_makes_9 : decode prog_14_method_91_code 9 = .ok (.iconst 1, 1) := by decide +kernel
theorem dX12_makes_10 : decode prog_14_method_91_code 10 = .ok (.iconst 5, 1) := by decide +kernel
theorem dX12_makes_11 : decode prog_14_method_91_code 11 = .ok (.invokestatic 56, 3) := by decide +kernel
theorem dX12_makes_14 : decode prog_14_method_91_code 14 = .ok (.ifCond .eq 12, 3) := by decide +kernel
theorem dX12_makes_17 : decode prog_14_method_91_code 17 = .ok (.iload_n 3, 1) := by decide +kernel
theorem dX12_makes_18 : decode prog_14_method_91_code 18 = .ok (.iconst 0, 1) := by decide +kernel
theorem dX12_makes_19 : decode prog_14_method_91_code 19 = .ok (.iconst 1, 1) := by decide +kernel
theorem dX12_makes_20 : decode prog_14_method_91_code 20 = .ok (.invokestatic 56, 3) := by decide +kernel
theorem dX12_makes_23 : decode prog_14_method_91_code 23 = .ok (.ifCond .ne 5, 3) := by decide +kernel
theorem dX12_makes_26 : decode prog_14_method_91_code 26 = .ok (.iconst (-1), 1) := by decide +kernel
theorem dX12_makes_27 : decode prog_14_method_91_code 27 = .ok (.ireturn, 1) := by decide +kernel
theorem dX12_makes_28 : decode prog_14_method_91_code 28 = .ok (.iconst (-1), 1) := by decide +kernel
theorem dX12_makes_29 : decode prog_14_method_91_code 29 = .ok (.istore 4, 2) := by decide +kernel
theorem dX12_makes_31 : decode prog_14_method_91_code 31 = .ok (.iconst 0, 1) := by decide +kernel
theorem dX12_makes_32 : decode prog_14_method_91_code 32 = .ok (.istore 5, 2) := by decide +kernel
theorem dX12_makes_34 : decode prog_14_method_91_code 34 = .ok (.iload 5, 2) := by decide +kernel
theorem dX12_makes_36 : decode prog_14_method_91_code 36 = .ok (.aload_n 0, 1) := by decide +kernel
theorem dX12_makes_37 : decode prog_14_method_91_code 37 = .ok (.getfield 7, 3) := by decide +kernel
theorem dX12_makes_40 : decode prog_14_method_91_code 40 = .ok (.bipush 7, 2) := by decide +kernel
theorem dX12_makes_42 : decode prog_14_method_91_code 42 = .ok (.iaload, 1) := by decide +kernel
theorem dX12_makes_43 : decode prog_14_method_91_code 43 = .ok (.if_icmp .gt 58, 3) := by decide +kernel
theorem dX12_makes_46 : decode prog_14_method_91_code 46 = .ok (.iload 5, 2) := by decide +kernel
theorem dX12_makes_48 : decode prog_14_method_91_code 48 = .ok (.aload_n 0, 1) := by decide +kernel
theorem dX12_makes_49 : decode prog_14_method_91_code 49 = .ok (.getfield 7, 3) := by decide +kernel
theorem dX12_makes_52 : decode prog_14_method_91_code 52 = .ok (.bipush 7, 2) := by decide +kernel
theorem dX12_makes_54 : decode prog_14_method_91_code 54 = .ok (.iaload, 1) := by decide +kernel
theorem dX12_makes_55 : decode prog_14_method_91_code 55 = .ok (.iconst (-1), 1) := by decide +kernel
theorem dX12_makes_56 : decode prog_14_method_91_code 56 = .ok (.ixor, 1) := by decide +kernel
theorem dX12_makes_57 : decode prog_14_method_91_code 57 = .ok (.iand, 1) := by decide +kernel
theorem dX12_makes_58 : decode prog_14_method_91_code 58 = .ok (.ifCond .ne 37, 3) := by decide +kernel
theorem dX12_makes_61 : decode prog_14_method_91_code 61 = .ok (.iload 4, 2) := by decide +kernel
theorem dX12_makes_63 : decode prog_14_method_91_code 63 = .ok (.iconst (-1), 1) := by decide +kernel
theorem dX12_makes_64 : decode prog_14_method_91_code 64 = .ok (.if_icmp .eq 16, 3) := by decide +kernel
theorem dX12_makes_67 : decode prog_14_method_91_code 67 = .ok (.iload 5, 2) := by decide +kernel
theorem dX12_makes_69 : decode prog_14_method_91_code 69 = .ok (.invokestatic 319, 3) := by decide +kernel
theorem dX12_makes_72 : decode prog_14_method_91_code 72 = .ok (.iload 4, 2) := by decide +kernel
theorem dX12_makes_74 : decode prog_14_method_91_code 74 = .ok (.invokestatic 319, 3) := by decide +kernel
theorem dX12_makes_77 : decode prog_14_method_91_code 77 = .ok (.if_icmp .ge 18, 3) := by decide +kernel
theorem dX12_makes_80 : decode prog_14_method_91_code 80 = .ok (.aload_n 0, 1) := by decide +kernel
theorem dX12_makes_81 : decode prog_14_method_91_code 81 = .ok (.iload_n 1, 1) := by decide +kernel
theorem dX12_makes_82 : decode prog_14_method_91_code 82 = .ok (.iload 5, 2) := by decide +kernel
theorem dX12_makes_84 : decode prog_14_method_91_code 84 = .ok (.invokevirtual 383, 3) := by decide +kernel
theorem dX12_makes_87 : decode prog_14_method_91_code 87 = .ok (.iload_n 2, 1) := by decide +kernel
theorem dX12_makes_88 : decode prog_14_method_91_code 88 = .ok (.if_icmp .ne 7, 3) := by decide +kernel
theorem dX12_makes_91 : decode prog_14_method_91_code 91 = .ok (.iload 5, 2) := by decide +kernel
theorem dX12_makes_93 : decode prog_14_method_91_code 93 = .ok (.istore 4, 2) := by decide +kernel
theorem dX12_makes_95 : decode prog_14_method_91_code 95 = .ok (.iinc 5 1, 3) := by decide +kernel
theorem dX12_makes_98 : decode prog_14_method_91_code 98 = .ok (.goto (-64), 3) := by decide +kernel
theorem dX12_makes_101 : decode prog_14_method_91_code 101 = .ok (.iload 4, 2) := by decide +kernel
theorem dX12_makes_103 : decode prog_14_method_91_code 103 = .ok (.iconst (-1), 1) := by decide +kernel
theorem dX12_makes_104 : decode prog_14_method_91_code 104 = .ok (.if_icmp .eq 8, 3) := by decide +kernel
theorem dX12_makes_107 : decode prog_14_method_91_code 107 = .ok (.iload_n 3, 1) := by decide +kernel
theorem dX12_makes_108 : decode prog_14_method_91_code 108 = .ok (.iconst 1, 1) := by decide +kernel
theorem dX12_makes_109 : decode prog_14_method_91_code 109 = .ok (.if_icmp .ne 8, 3) := by decide +kernel
theorem dX12_makes_112 : decode prog_14_method_91_code 112 = .ok (.iload 4, 2) := by decide +kernel
theorem dX12_makes_114 : decode prog_14_method_91_code 114 = .ok (.goto 8, 3) := by decide +kernel
theorem dX12_makes_117 : decode prog_14_method_91_code 117 = .ok (.iload 4, 2) := by decide +kernel
theorem dX12_makes_119 : decode prog_14_method_91_code 119 = .ok (.invokestatic 319, 3) := by decide +kernel
theorem dX12_makes_122 : decode prog_14_method_91_code 122 = .ok (.ireturn, 1) := by decide +kernel
theorem dX12_doneWithGloves_0 : decode prog_14_method_92_code 0 = .ok (.aload_n 0, 1) := by decide +kernel
theorem dX12_doneWithGloves_1 : decode prog_14_method_92_code 1 = .ok (.invokevirtual 377, 3) := by decide +kernel
theorem dX12_doneWithGloves_4 : decode prog_14_method_92_code 4 = .ok (.aload_n 0, 1) := by decide +kernel
theorem dX12_doneWithGloves_5 : decode prog_14_method_92_code 5 = .ok (.getfield 7, 3) := by decide +kernel
theorem dX12_doneWithGloves_8 : decode prog_14_method_92_code 8 = .ok (.bipush 8, 2) := by decide +kernel
theorem dX12_doneWithGloves_10 : decode prog_14_method_92_code 10 = .ok (.dup2, 1) := by decide +kernel
theorem dX12_doneWithGloves_11 : decode prog_14_method_92_code 11 = .ok (.iaload, 1) := by decide +kernel
theorem dX12_doneWithGloves_12 : decode prog_14_method_92_code 12 = .ok (.iload_n 2, 1) := by decide +kernel
theorem dX12_doneWithGloves_13 : decode prog_14_method_92_code 13 = .ok (.ior, 1) := by decide +kernel
theorem dX12_doneWithGloves_14 : decode prog_14_method_92_code 14 = .ok (.iastore, 1) := by decide +kernel
theorem dX12_doneWithGloves_15 : decode prog_14_method_92_code 15 = .ok (.aload_n 0, 1) := by decide +kernel
theorem dX12_doneWithGloves_16 : decode prog_14_method_92_code 16 = .ok (.iload_n 1, 1) := by decide +kernel
theorem dX12_doneWithGloves_17 : decode prog_14_method_92_code 17 = .ok (.invokevirtual 370, 3) := by decide +kernel
theorem dX12_doneWithGloves_20 : decode prog_14_method_92_code 20 = .ok (.istore_n 3, 1) := by decide +kernel
theorem dX12_doneWithGloves_21 : decode prog_14_method_92_code 21 = .ok (.aload_n 0, 1) := by decide +kernel
theorem dX12_doneWithGloves_22 : decode prog_14_method_92_code 22 = .ok (.invokevirtual 380, 3) := by decide +kernel
theorem dX12_doneWithGloves_25 : decode prog_14_method_92_code 25 = .ok (.iload_n 3, 1) := by decide +kernel
theorem dX12_doneWithGloves_26 : decode prog_14_method_92_code 26 = .ok (.ireturn, 1) := by decide +kernel
theorem dX12_brakes_0 : decode prog_14_method_93_code 0 = .ok (.aload_n 0, 1) := by decide +kernel
theorem dX12_brakes_1 : decode prog_14_method_93_code 1 = .ok (.iload_n 1, 1) := by decide +kernel
theorem dX12_brakes_2 : decode prog_14_method_93_code 2 = .ok (.invokevirtual 72, 3) := by decide +kernel
theorem dX12_brakes_5 : decode prog_14_method_93_code 5 = .ok (.ifCond .eq 12, 3) := by decide +kernel
theorem dX12_brakes_8 : decode prog_14_method_93_code 8 = .ok (.iload_n 2, 1) := by decide +kernel
theorem dX12_brakes_9 : decode prog_14_method_93_code 9 = .ok (.iconst 0, 1) := by decide +kernel
theorem dX12_brakes_10 : decode prog_14_method_93_code 10 = .ok (.iconst 1, 1) := by decide +kernel
theorem dX12_brakes_11 : decode prog_14_method_93_code 11 = .ok (.invokestatic 56, 3) := by decide +kernel
theorem dX12_brakes_14 : decode prog_14_method_93_code 14 = .ok (.ifCond .ne 5, 3) := by decide +kernel
theorem dX12_brakes_17 : decode prog_14_method_93_code 17 = .ok (.iconst (-1), 1) := by decide +kernel
theorem dX12_brakes_18 : decode prog_14_method_93_code 18 = .ok (.ireturn, 1) := by decide +kernel
theorem dX12_brakes_19 : decode prog_14_method_93_code 19 = .ok (.aload_n 0, 1) := by decide +kernel
theorem dX12_brakes_20 : decode prog_14_method_93_code 20 = .ok (.getfield 7, 3) := by decide +kernel
theorem dX12_brakes_23 : decode prog_14_method_93_code 23 = .ok (.bipush 7, 2) := by decide +kernel
theorem dX12_brakes_25 : decode prog_14_method_93_code 25 = .ok (.iaload, 1) := by decide +kernel
theorem dX12_brakes_26 : decode prog_14_method_93_code 26 = .ok (.aload_n 0, 1) := by decide +kernel
theorem dX12_brakes_27 : decode prog_14_method_93_code 27 = .ok (.getfield 7, 3) := by decide +kernel
theorem dX12_brakes_30 : decode prog_14_method_93_code 30 = .ok (.bipush 8, 2) := by decide +kernel
theorem dX12_brakes_32 : decode prog_14_method_93_code 32 = .ok (.iaload, 1) := by decide +kernel
theorem dX12_brakes_33 : decode prog_14_method_93_code 33 = .ok (.iconst (-1), 1) := by decide +kernel
theorem dX12_brakes_34 : decode prog_14_method_93_code 34 = .ok (.ixor, 1) := by decide +kernel
theorem dX12_brakes_35 : decode prog_14_method_93_code 35 = .ok (.iand, 1) := by decide +kernel
theorem dX12_brakes_36 : decode prog_14_method_93_code 36 = .ok (.istore_n 3, 1) := by decide +kernel
theorem dX12_brakes_37 : decode prog_14_method_93_code 37 = .ok (.iconst (-1), 1) := by decide +kernel
theorem dX12_brakes_38 : decode prog_14_method_93_code 38 = .ok (.istore 4, 2) := by decide +kernel
theorem dX12_brakes_40 : decode prog_14_method_93_code 40 = .ok (.iconst 0, 1) := by decide +kernel
theorem dX12_brakes_41 : decode prog_14_method_93_code 41 = .ok (.istore 5, 2) := by decide +kernel
theorem dX12_brakes_43 : decode prog_14_method_93_code 43 = .ok (.iload 5, 2) := by decide +kernel
theorem dX12_brakes_45 : decode prog_14_method_93_code 45 = .ok (.iload_n 3, 1) := by decide +kernel
theorem dX12_brakes_46 : decode prog_14_method_93_code 46 = .ok (.if_icmp .gt 52, 3) := by decide +kernel
theorem dX12_brakes_49 : decode prog_14_method_93_code 49 = .ok (.iload 5, 2) := by decide +kernel
theorem dX12_brakes_51 : decode prog_14_method_93_code 51 = .ok (.iload_n 3, 1) := by decide +kernel
theorem dX12_brakes_52 : decode prog_14_method_93_code 52 = .ok (.iconst (-1), 1) := by decide +kernel
theorem dX12_brakes_53 : decode prog_14_method_93_code 53 = .ok (.ixor, 1) := by decide +kernel
theorem dX12_brakes_54 : decode prog_14_method_93_code 54 = .ok (.iand, 1) := by decide +kernel
theorem dX12_brakes_55 : decode prog_14_method_93_code 55 = .ok (.ifCond .ne 37, 3) := by decide +kernel
theorem dX12_brakes_58 : decode prog_14_method_93_code 58 = .ok (.iload 4, 2) := by decide +kernel
theorem dX12_brakes_60 : decode prog_14_method_93_code 60 = .ok (.iconst (-1), 1) := by decide +kernel
theorem dX12_brakes_61 : decode prog_14_method_93_code 61 = .ok (.if_icmp .eq 16, 3) := by decide +kernel
theorem dX12_brakes_64 : decode prog_14_method_93_code 64 = .ok (.iload 5, 2) := by decide +kernel
theorem dX12_brakes_66 : decode prog_14_method_93_code 66 = .ok (.invokestatic 319, 3) := by decide +kernel
theorem dX12_brakes_69 : decode prog_14_method_93_code 69 = .ok (.iload 4, 2) := by decide +kernel
theorem dX12_brakes_71 : decode prog_14_method_93_code 71 = .ok (.invokestatic 319, 3) := by decide +kernel
theorem dX12_brakes_74 : decode prog_14_method_93_code 74 = .ok (.if_icmp .ge 18, 3) := by decide +kernel
theorem dX12_brakes_77 : decode prog_14_method_93_code 77 = .ok (.aload_n 0, 1) := by decide +kernel
theorem dX12_brakes_78 : decode prog_14_method_93_code 78 = .ok (.iload_n 1, 1) := by decide +kernel
theorem dX12_brakes_79 : decode prog_14_method_93_code 79 = .ok (.iload 5, 2) := by decide +kernel
theorem dX12_brakes_81 : decode prog_14_method_93_code 81 = .ok (.invokevirtual 386, 3) := by decide +kernel
theorem dX12_brakes_84 : decode prog_14_method_93_code 84 = .ok (.iconst 1, 1) := by decide +kernel
theorem dX12_brakes_85 : decode prog_14_method_93_code 85 = .ok (.if_icmp .ne 7, 3) := by decide +kernel
theorem dX12_brakes_88 : decode prog_14_method_93_code 88 = .ok (.iload 5, 2) := by decide +kernel
theorem dX12_brakes_90 : decode prog_14_method_93_code 90 = .ok (.istore 4, 2) := by decide +kernel
theorem dX12_brakes_92 : decode prog_14_method_93_code 92 = .ok (.iinc 5 1, 3) := by decide +kernel
theorem dX12_brakes_95 : decode prog_14_method_93_code 95 = .ok (.goto (-52), 3) := by decide +kernel
theorem dX12_brakes_98 : decode prog_14_method_93_code 98 = .ok (.iload 4, 2) := by decide +kernel
theorem dX12_brakes_100 : decode prog_14_method_93_code 100 = .ok (.iconst (-1), 1) := by decide +kernel
theorem dX12_brakes_101 : decode prog_14_method_93_code 101 = .ok (.if_icmp .eq 8, 3) := by decide +kernel
theorem dX12_brakes_104 : decode prog_14_method_93_code 104 = .ok (.iload_n 2, 1) := by decide +kernel
theorem dX12_brakes_105 : decode prog_14_method_93_code 105 = .ok (.iconst 1, 1) := by decide +kernel
theorem dX12_brakes_106 : decode prog_14_method_93_code 106 = .ok (.if_icmp .ne 8, 3) := by decide +kernel
theorem dX12_brakes_109 : decode prog_14_method_93_code 109 = .ok (.iload 4, 2) := by decide +kernel
theorem dX12_brakes_111 : decode prog_14_method_93_code 111 = .ok (.goto 8, 3) := by decide +kernel
theorem dX12_brakes_114 : decode prog_14_method_93_code 114 = .ok (.iload 4, 2) := by decide +kernel
theorem dX12_brakes_116 : decode prog_14_method_93_code 116 = .ok (.invokestatic 319, 3) := by decide +kernel
theorem dX12_brakes_119 : decode prog_14_method_93_code 119 = .ok (.ireturn, 1) := by decide +kernel
theorem dX12_eager_0 : decode prog_14_method_94_code 0 = .ok (.aload_n 0, 1) := by decide +kernel
theorem dX12_eager_1 : decode prog_14_method_94_code 1 = .ok (.iload_n 1, 1) := by decide +kernel
theorem dX12_eager_2 : decode prog_14_method_94_code 2 = .ok (.invokevirtual 72, 3) := by decide +kernel
theorem dX12_eager_5 : decode prog_14_method_94_code 5 = .ok (.ifCond .eq 12, 3) := by decide +kernel
theorem dX12_eager_8 : decode prog_14_method_94_code 8 = .ok (.iload_n 2, 1) := by decide +kernel
theorem dX12_eager_9 : decode prog_14_method_94_code 9 = .ok (.iconst 0, 1) := by decide +kernel
theorem dX12_eager_10 : decode prog_14_method_94_code 10 = .ok (.iconst 1, 1) := by decide +kernel
theorem dX12_eager_11 : decode prog_14_method_94_code 11 = .ok (.invokestatic 56, 3) := by decide +kernel
theorem dX12_eager_14 : decode prog_14_method_94_code 14 = .ok (.ifCond .ne 5, 3) := by decide +kernel
theorem dX12_eager_17 : decode prog_14_method_94_code 17 = .ok (.iconst (-1), 1) := by decide +kernel
theorem dX12_eager_18 : decode prog_14_method_94_code 18 = .ok (.ireturn, 1) := by decide +kernel
theorem dX12_eager_19 : decode prog_14_method_94_code 19 = .ok (.iconst (-1), 1) := by decide +kernel
theorem dX12_eager_20 : decode prog_14_method_94_code 20 = .ok (.istore_n 3, 1) := by decide +kernel
theorem dX12_eager_21 : decode prog_14_method_94_code 21 = .ok (.iconst 0, 1) := by decide +kernel
theorem dX12_eager_22 : decode prog_14_method_94_code 22 = .ok (.istore 4, 2) := by decide +kernel
theorem dX12_eager_24 : decode prog_14_method_94_code 24 = .ok (.iload 4, 2) := by decide +kernel
theorem dX12_eager_26 : decode prog_14_method_94_code 26 = .ok (.aload_n 0, 1) := by decide +kernel
theorem dX12_eager_27 : decode prog_14_method_94_code 27 = .ok (.getfield 7, 3) := by decide +kernel
theorem dX12_eager_30 : decode prog_14_method_94_code 30 = .ok (.bipush 37, 2) := by decide +kernel
theorem dX12_eager_32 : decode prog_14_method_94_code 32 = .ok (.iaload, 1) := by decide +kernel
theorem dX12_eager_33 : decode prog_14_method_94_code 33 = .ok (.if_icmp .ge 53, 3) := by decide +kernel
theorem dX12_eager_36 : decode prog_14_method_94_code 36 = .ok (.aload_n 0, 1) := by decide +kernel
theorem dX12_eager_37 : decode prog_14_method_94_code 37 = .ok (.iload 4, 2) := by decide +kernel
theorem dX12_eager_39 : decode prog_14_method_94_code 39 = .ok (.invokevirtual 310, 3) := by decide +kernel
theorem dX12_eager_42 : decode prog_14_method_94_code 42 = .ok (.ifCond .eq 38, 3) := by decide +kernel
theorem dX12_eager_45 : decode prog_14_method_94_code 45 = .ok (.aload_n 0, 1) := by decide +kernel
theorem dX12_eager_46 : decode prog_14_method_94_code 46 = .ok (.iload 4, 2) := by decide +kernel
theorem dX12_eager_48 : decode prog_14_method_94_code 48 = .ok (.invokevirtual 313, 3) := by decide +kernel
theorem dX12_eager_51 : decode prog_14_method_94_code 51 = .ok (.ifCond .ne 29, 3) := by decide +kernel
theorem dX12_eager_54 : decode prog_14_method_94_code 54 = .ok (.iload_n 3, 1) := by decide +kernel
theorem dX12_eager_55 : decode prog_14_method_94_code 55 = .ok (.iconst (-1), 1) := by decide +kernel
theorem dX12_eager_56 : decode prog_14_method_94_code 56 = .ok (.if_icmp .eq 21, 3) := by decide +kernel
theorem dX12_eager_59 : decode prog_14_method_94_code 59 = .ok (.aload_n 0, 1) := by decide +kernel
theorem dX12_eager_60 : decode prog_14_method_94_code 60 = .ok (.iload 4, 2) := by decide +kernel
theorem dX12_eager_62 : decode prog_14_method_94_code 62 = .ok (.iload_n 1, 1) := by decide +kernel
theorem dX12_eager_63 : decode prog_14_method_94_code 63 = .ok (.iconst 0, 1) := by decide +kernel
theorem dX12_eager_64 : decode prog_14_method_94_code 64 = .ok (.invokevirtual 322, 3) := by decide +kernel
theorem dX12_eager_67 : decode prog_14_method_94_code 67 = .ok (.aload_n 0, 1) := by decide +kernel
theorem dX12_eager_68 : decode prog_14_method_94_code 68 = .ok (.iload_n 3, 1) := by decide +kernel
theorem dX12_eager_69 : decode prog_14_method_94_code 69 = .ok (.iload_n 1, 1) := by decide +kernel
theorem dX12_eager_70 : decode prog_14_method_94_code 70 = .ok (.iconst 0, 1) := by decide +kernel
theorem dX12_eager_71 : decode prog_14_method_94_code 71 = .ok (.invokevirtual 322, 3) := by decide +kernel
theorem dX12_eager_74 : decode prog_14_method_94_code 74 = .ok (.if_icmp .le 6, 3) := by decide +kernel
theorem dX12_eager_77 : decode prog_14_method_94_code 77 = .ok (.iload 4, 2) := by decide +kernel
theorem dX12_eager_79 : decode prog_14_method_94_code 79 = .ok (.istore_n 3, 1) := by decide +kernel
theorem dX12_eager_80 : decode prog_14_method_94_code 80 = .ok (.iinc 4 1, 3) := by decide +kernel
theorem dX12_eager_83 : decode prog_14_method_94_code 83 = .ok (.goto (-59), 3) := by decide +kernel
theorem dX12_eager_86 : decode prog_14_method_94_code 86 = .ok (.iload_n 3, 1) := by decide +kernel
theorem dX12_eager_87 : decode prog_14_method_94_code 87 = .ok (.iconst (-1), 1) := by decide +kernel
theorem dX12_eager_88 : decode prog_14_method_94_code 88 = .ok (.if_icmp .eq 7, 3) := by decide +kernel
theorem dX12_eager_91 : decode prog_14_method_94_code 91 = .ok (.iload_n 2, 1) := by decide +kernel
theorem dX12_eager_92 : decode prog_14_method_94_code 92 = .ok (.ifCond .ne 7, 3) := by decide +kernel
theorem dX12_eager_95 : decode prog_14_method_94_code 95 = .ok (.iload_n 3, 1) := by decide +kernel
theorem dX12_eager_96 : decode prog_14_method_94_code 96 = .ok (.goto 10, 3) := by decide +kernel
theorem dX12_eager_99 : decode prog_14_method_94_code 99 = .ok (.aload_n 0, 1) := by decide +kernel
theorem dX12_eager_100 : decode prog_14_method_94_code 100 = .ok (.iload_n 3, 1) := by decide +kernel
theorem dX12_eager_101 : decode prog_14_method_94_code 101 = .ok (.iload_n 1, 1) := by decide +kernel
theorem dX12_eager_102 : decode prog_14_method_94_code 102 = .ok (.iconst 0, 1) := by decide +kernel
theorem dX12_eager_103 : decode prog_14_method_94_code 103 = .ok (.invokevirtual 322, 3) := by decide +kernel
theorem dX12_eager_106 : decode prog_14_method_94_code 106 = .ok (.ireturn, 1) := by decide +kernel
theorem dX12_price_0 : decode prog_14_method_95_code 0 = .ok (.aload_n 0, 1) := by decide +kernel
theorem dX12_price_1 : decode prog_14_method_95_code 1 = .ok (.iload_n 1, 1) := by decide +kernel
theorem dX12_price_2 : decode prog_14_method_95_code 2 = .ok (.invokevirtual 68, 3) := by decide +kernel
theorem dX12_price_5 : decode prog_14_method_95_code 5 = .ok (.ifCond .eq 11, 3) := by decide +kernel
theorem dX12_price_8 : decode prog_14_method_95_code 8 = .ok (.aload_n 0, 1) := by decide +kernel
theorem dX12_price_9 : decode prog_14_method_95_code 9 = .ok (.iload_n 2, 1) := by decide +kernel
theorem dX12_price_10 : decode prog_14_method_95_code 10 = .ok (.invokevirtual 72, 3) := by decide +kernel
theorem dX12_price_13 : decode prog_14_method_95_code 13 = .ok (.ifCond .ne 5, 3) := by decide +kernel
theorem dX12_price_16 : decode prog_14_method_95_code 16 = .ok (.iconst (-1), 1) := by decide +kernel
theorem dX12_price_17 : decode prog_14_method_95_code 17 = .ok (.ireturn, 1) := by decide +kernel
theorem dX12_price_18 : decode prog_14_method_95_code 18 = .ok (.aload_n 0, 1) := by decide +kernel
theorem dX12_price_19 : decode prog_14_method_95_code 19 = .ok (.getfield 7, 3) := by decide +kernel
theorem dX12_price_22 : decode prog_14_method_95_code 22 = .ok (.bipush 9, 2) := by decide +kernel
theorem dX12_price_24 : decode prog_14_method_95_code 24 = .ok (.iload_n 1, 1) := by decide +kernel
theorem dX12_price_25 : decode prog_14_method_95_code 25 = .ok (.iadd, 1) := by decide +kernel
theorem dX12_price_26 : decode prog_14_method_95_code 26 = .ok (.iaload, 1) := by decide +kernel
theorem dX12_price_27 : decode prog_14_method_95_code 27 = .ok (.istore_n 3, 1) := by decide +kernel
theorem dX12_price_28 : decode prog_14_method_95_code 28 = .ok (.iconst (-1), 1) := by decide +kernel
theorem dX12_price_29 : decode prog_14_method_95_code 29 = .ok (.istore 4, 2) := by decide +kernel
theorem dX12_price_31 : decode prog_14_method_95_code 31 = .ok (.iload_n 3, 1) := by decide +kernel
theorem dX12_price_32 : decode prog_14_method_95_code 32 = .ok (.istore 5, 2) := by decide +kernel
theorem dX12_price_34 : decode prog_14_method_95_code 34 = .ok (.iload 5, 2) := by decide +kernel
theorem dX12_price_36 : decode prog_14_method_95_code 36 = .ok (.bipush 99, 2) := by decide +kernel
theorem dX12_price_38 : decode prog_14_method_95_code 38 = .ok (.if_icmp .gt 49, 3) := by decide +kernel
theorem dX12_price_41 : decode prog_14_method_95_code 41 = .ok (.iload 4, 2) := by decide +kernel
theorem dX12_price_43 : decode prog_14_method_95_code 43 = .ok (.iconst (-1), 1) := by decide +kernel
theorem dX12_price_44 : decode prog_14_method_95_code 44 = .ok (.if_icmp .ne 43, 3) := by decide +kernel
theorem dX12_price_47 : decode prog_14_method_95_code 47 = .ok (.aload_n 0, 1) := by decide +kernel
theorem dX12_price_48 : decode prog_14_method_95_code 48 = .ok (.getfield 7, 3) := by decide +kernel
theorem dX12_price_51 : decode prog_14_method_95_code 51 = .ok (.bipush 9, 2) := by decide +kernel
theorem dX12_price_53 : decode prog_14_method_95_code 53 = .ok (.iload_n 1, 1) := by decide +kernel
theorem dX12_price_54 : decode prog_14_method_95_code 54 = .ok (.iadd, 1) := by decide +kernel
theorem dX12_price_55 : decode prog_14_method_95_code 55 = .ok (.iload 5, 2) := by decide +kernel
theorem dX12_price_57 : decode prog_14_method_95_code 57 = .ok (.iastore, 1) := by decide +kernel
theorem dX12_price_58 : decode prog_14_method_95_code 58 = .ok (.aload_n 0, 1) := by decide +kernel
theorem dX12_price_59 : decode prog_14_method_95_code 59 = .ok (.iload_n 1, 1) := by decide +kernel
theorem dX12_price_60 : decode prog_14_method_95_code 60 = .ok (.iload_n 2, 1) := by decide +kernel
theorem dX12_price_61 : decode prog_14_method_95_code 61 = .ok (.iconst 0, 1) := by decide +kernel
theorem dX12_price_62 : decode prog_14_method_95_code 62 = .ok (.invokevirtual 322, 3) := by decide +kernel
theorem dX12_price_65 : decode prog_14_method_95_code 65 = .ok (.sipush 500, 3) := by decide +kernel
theorem dX12_price_68 : decode prog_14_method_95_code 68 = .ok (.if_icmp .le 10, 3) := by decide +kernel
theorem dX12_price_71 : decode prog_14_method_95_code 71 = .ok (.iload 5, 2) := by decide +kernel
theorem dX12_price_73 : decode prog_14_method_95_code 73 = .ok (.iload_n 3, 1) := by decide +kernel
theorem dX12_price_74 : decode prog_14_method_95_code 74 = .ok (.isub, 1) := by decide +kernel
theorem dX12_price_75 : decode prog_14_method_95_code 75 = .ok (.goto 4, 3) := by decide +kernel
theorem dX12_price_78 : decode prog_14_method_95_code 78 = .ok (.iconst (-1), 1) := by decide +kernel
theorem dX12_price_79 : decode prog_14_method_95_code 79 = .ok (.istore 4, 2) := by decide +kernel
theorem dX12_price_81 : decode prog_14_method_95_code 81 = .ok (.iinc 5 1, 3) := by decide +kernel
theorem dX12_price_84 : decode prog_14_method_95_code 84 = .ok (.goto (-50), 3) := by decide +kernel
theorem dX12_price_87 : decode prog_14_method_95_code 87 = .ok (.aload_n 0, 1) := by decide +kernel
theorem dX12_price_88 : decode prog_14_method_95_code 88 = .ok (.getfield 7, 3) := by decide +kernel
theorem dX12_price_91 : decode prog_14_method_95_code 91 = .ok (.bipush 9, 2) := by decide +kernel
theorem dX12_price_93 : decode prog_14_method_95_code 93 = .ok (.iload_n 1, 1) := by decide +kernel
theorem dX12_price_94 : decode prog_14_method_95_code 94 = .ok (.iadd, 1) := by decide +kernel
theorem dX12_price_95 : decode prog_14_method_95_code 95 = .ok (.iload_n 3, 1) := by decide +kernel
theorem dX12_price_96 : decode prog_14_method_95_code 96 = .ok (.iastore, 1) := by decide +kernel
theorem dX12_price_97 : decode prog_14_method_95_code 97 = .ok (.iload 4, 2) := by decide +kernel
theorem dX12_price_99 : decode prog_14_method_95_code 99 = .ok (.ireturn, 1) := by decide +kernel
theorem dX12_gain_0 : decode prog_14_method_96_code 0 = .ok (.aload_n 0, 1) := by decide +kernel
theorem dX12_gain_1 : decode prog_14_method_96_code 1 = .ok (.iload_n 1, 1) := by decide +kernel
theorem dX12_gain_2 : decode prog_14_method_96_code 2 = .ok (.invokevirtual 72, 3) := by decide +kernel
theorem dX12_gain_5 : decode prog_14_method_96_code 5 = .ok (.ifCond .ne 5, 3) := by decide +kernel
theorem dX12_gain_8 : decode prog_14_method_96_code 8 = .ok (.iconst (-1), 1) := by decide +kernel
theorem dX12_gain_9 : decode prog_14_method_96_code 9 = .ok (.ireturn, 1) := by decide +kernel
theorem dX12_gain_10 : decode prog_14_method_96_code 10 = .ok (.aload_n 0, 1) := by decide +kernel
theorem dX12_gain_11 : decode prog_14_method_96_code 11 = .ok (.iload_n 1, 1) := by decide +kernel
theorem dX12_gain_12 : decode prog_14_method_96_code 12 = .ok (.iconst 0, 1) := by decide +kernel
theorem dX12_gain_13 : decode prog_14_method_96_code 13 = .ok (.invokevirtual 389, 3) := by decide +kernel
theorem dX12_gain_16 : decode prog_14_method_96_code 16 = .ok (.istore_n 2, 1) := by decide +kernel
theorem dX12_gain_17 : decode prog_14_method_96_code 17 = .ok (.iconst 0, 1) := by decide +kernel
theorem dX12_gain_18 : decode prog_14_method_96_code 18 = .ok (.istore_n 3, 1) := by decide +kernel
theorem dX12_gain_19 : decode prog_14_method_96_code 19 = .ok (.iconst 0, 1) := by decide +kernel
theorem dX12_gain_20 : decode prog_14_method_96_code 20 = .ok (.istore 4, 2) := by decide +kernel
theorem dX12_gain_22 : decode prog_14_method_96_code 22 = .ok (.iload 4, 2) := by decide +kernel
theorem dX12_gain_24 : decode prog_14_method_96_code 24 = .ok (.aload_n 0, 1) := by decide +kernel
theorem dX12_gain_25 : decode prog_14_method_96_code 25 = .ok (.getfield 7, 3) := by decide +kernel
theorem dX12_gain_28 : decode prog_14_method_96_code 28 = .ok (.bipush 37, 2) := by decide +kernel
theorem dX12_gain_30 : decode prog_14_method_96_code 30 = .ok (.iaload, 1) := by decide +kernel
theorem dX12_gain_31 : decode prog_14_method_96_code 31 = .ok (.if_icmp .ge 44, 3) := by decide +kernel
theorem dX12_gain_34 : decode prog_14_method_96_code 34 = .ok (.iload_n 3, 1) := by decide +kernel
theorem dX12_gain_35 : decode prog_14_method_96_code 35 = .ok (.iload_n 2, 1) := by decide +kernel
theorem dX12_gain_36 : decode prog_14_method_96_code 36 = .ok (.iload 4, 2) := by decide +kernel
theorem dX12_gain_38 : decode prog_14_method_96_code 38 = .ok (.ishr, 1) := by decide +kernel
theorem dX12_gain_39 : decode prog_14_method_96_code 39 = .ok (.iconst 1, 1) := by decide +kernel
theorem dX12_gain_40 : decode prog_14_method_96_code 40 = .ok (.iand, 1) := by decide +kernel
theorem dX12_gain_41 : decode prog_14_method_96_code 41 = .ok (.iconst 1, 1) := by decide +kernel
theorem dX12_gain_42 : decode prog_14_method_96_code 42 = .ok (.if_icmp .ne 24, 3) := by decide +kernel
theorem dX12_gain_45 : decode prog_14_method_96_code 45 = .ok (.aload_n 0, 1) := by decide +kernel
theorem dX12_gain_46 : decode prog_14_method_96_code 46 = .ok (.getfield 7, 3) := by decide +kernel
theorem dX12_gain_49 : decode prog_14_method_96_code 49 = .ok (.sipush 185, 3) := by decide +kernel
theorem dX12_gain_52 : decode prog_14_method_96_code 52 = .ok (.iload 4, 2) := by decide +kernel
theorem dX12_gain_54 : decode prog_14_method_96_code 54 = .ok (.iadd, 1) := by decide +kernel
theorem dX12_gain_55 : decode prog_14_method_96_code 55 = .ok (.iaload, 1) := by decide +kernel
theorem dX12_gain_56 : decode prog_14_method_96_code 56 = .ok (.iload_n 2, 1) := by decide +kernel
theorem dX12_gain_57 : decode prog_14_method_96_code 57 = .ok (.iconst (-1), 1) := by decide +kernel
theorem dX12_gain_58 : decode prog_14_method_96_code 58 = .ok (.ixor, 1) := by decide +kernel
theorem dX12_gain_59 : decode prog_14_method_96_code 59 = .ok (.iand, 1) := by decide +kernel
theorem dX12_gain_60 : decode prog_14_method_96_code 60 = .ok (.invokestatic 319, 3) := by decide +kernel
theorem dX12_gain_63 : decode prog_14_method_96_code 63 = .ok (.goto 4, 3) := by decide +kernel
theorem dX12_gain_66 : decode prog_14_method_96_code 66 = .ok (.iconst 0, 1) := by decide +kernel
theorem dX12_gain_67 : decode prog_14_method_96_code 67 = .ok (.iadd, 1) := by decide +kernel
theorem dX12_gain_68 : decode prog_14_method_96_code 68 = .ok (.istore_n 3, 1) := by decide +kernel
theorem dX12_gain_69 : decode prog_14_method_96_code 69 = .ok (.iinc 4 1, 3) := by decide +kernel
theorem dX12_gain_72 : decode prog_14_method_96_code 72 = .ok (.goto (-50), 3) := by decide +kernel
theorem dX12_gain_75 : decode prog_14_method_96_code 75 = .ok (.iload_n 3, 1) := by decide +kernel
theorem dX12_gain_76 : decode prog_14_method_96_code 76 = .ok (.ireturn, 1) := by decide +kernel
theorem dX12_tires_0 : decode prog_14_method_97_code 0 = .ok (.aload_n 0, 1) := by decide +kernel
theorem dX12_tires_1 : decode prog_14_method_97_code 1 = .ok (.iload_n 1, 1) := by decide +kernel
theorem dX12_tires_2 : decode prog_14_method_97_code 2 = .ok (.invokevirtual 72, 3) := by decide +kernel
theorem dX12_tires_5 : decode prog_14_method_97_code 5 = .ok (.ifCond .ne 5, 3) := by decide +kernel
theorem dX12_tires_8 : decode prog_14_method_97_code 8 = .ok (.iconst (-1), 1) := by decide +kernel
theorem dX12_tires_9 : decode prog_14_method_97_code 9 = .ok (.ireturn, 1) := by decide +kernel
theorem dX12_tires_10 : decode prog_14_method_97_code 10 = .ok (.aload_n 0, 1) := by decide +kernel
theorem dX12_tires_11 : decode prog_14_method_97_code 11 = .ok (.invokevirtual 377, 3) := by decide +kernel
theorem dX12_tires_14 : decode prog_14_method_97_code 14 = .ok (.iconst 0, 1) := by decide +kernel
theorem dX12_tires_15 : decode prog_14_method_97_code 15 = .ok (.istore_n 2, 1) := by decide +kernel
theorem dX12_tires_16 : decode prog_14_method_97_code 16 = .ok (.iload_n 2, 1) := by decide +kernel
theorem dX12_tires_17 : decode prog_14_method_97_code 17 = .ok (.bipush 99, 2) := by decide +kernel
theorem dX12_tires_19 : decode prog_14_method_97_code 19 = .ok (.if_icmp .gt 28, 3) := by decide +kernel
theorem dX12_tires_22 : decode prog_14_method_97_code 22 = .ok (.aload_n 0, 1) := by decide +kernel
theorem dX12_tires_23 : decode prog_14_method_97_code 23 = .ok (.getfield 7, 3) := by decide +kernel
theorem dX12_tires_26 : decode prog_14_method_97_code 26 = .ok (.bipush 21, 2) := by decide +kernel
theorem dX12_tires_28 : decode prog_14_method_97_code 28 = .ok (.iload_n 1, 1) := by decide +kernel
theorem dX12_tires_29 : decode prog_14_method_97_code 29 = .ok (.iadd, 1) := by decide +kernel
theorem dX12_tires_30 : decode prog_14_method_97_code 30 = .ok (.iaload, 1) := by decide +kernel
theorem dX12_tires_31 : decode prog_14_method_97_code 31 = .ok (.bipush 99, 2) := by decide +kernel
theorem dX12_tires_33 : decode prog_14_method_97_code 33 = .ok (.if_icmp .ge 14, 3) := by decide +kernel
theorem dX12_tires_36 : decode prog_14_method_97_code 36 = .ok (.aload_n 0, 1) := by decide +kernel
theorem dX12_tires_37 : decode prog_14_method_97_code 37 = .ok (.iload_n 1, 1) := by decide +kernel
theorem dX12_tires_38 : decode prog_14_method_97_code 38 = .ok (.invokevirtual 361, 3) := by decide +kernel
theorem dX12_tires_41 : decode prog_14_method_97_code 41 = .ok (.iinc 2 1, 3) := by decide +kernel
theorem dX12_tires_44 : decode prog_14_method_97_code 44 = .ok (.goto (-28), 3) := by decide +kernel
theorem dX12_tires_47 : decode prog_14_method_97_code 47 = .ok (.aload_n 0, 1) := by decide +kernel
theorem dX12_tires_48 : decode prog_14_method_97_code 48 = .ok (.invokevirtual 380, 3) := by decide +kernel
theorem dX12_tires_51 : decode prog_14_method_97_code 51 = .ok (.iload_n 2, 1) := by decide +kernel
theorem dX12_tires_52 : decode prog_14_method_97_code 52 = .ok (.bipush 99, 2) := by decide +kernel
theorem dX12_tires_54 : decode prog_14_method_97_code 54 = .ok (.if_icmp .le 7, 3) := by decide +kernel
theorem dX12_tires_57 : decode prog_14_method_97_code 57 = .ok (.iconst (-1), 1) := by decide +kernel
theorem dX12_tires_58 : decode prog_14_method_97_code 58 = .ok (.goto 4, 3) := by decide +kernel
theorem dX12_tires_61 : decode prog_14_method_97_code 61 = .ok (.iload_n 2, 1) := by decide +kernel
theorem dX12_tires_62 : decode prog_14_method_97_code 62 = .ok (.ireturn, 1) := by decide +kernel
theorem dX12_longOf_0 : decode prog_14_method_98_code 0 = .ok (.iconst 0, 1) := by decide +kernel
theorem dX12_longOf_1 : decode prog_14_method_98_code 1 = .ok (.istore_n 2, 1) := by decide +kernel
theorem dX12_longOf_2 : decode prog_14_method_98_code 2 = .ok (.iconst 0, 1) := by decide +kernel
theorem dX12_longOf_3 : decode prog_14_method_98_code 3 = .ok (.istore_n 3, 1) := by decide +kernel
theorem dX12_longOf_4 : decode prog_14_method_98_code 4 = .ok (.iload_n 3, 1) := by decide +kernel
theorem dX12_longOf_5 : decode prog_14_method_98_code 5 = .ok (.aload_n 0, 1) := by decide +kernel
theorem dX12_longOf_6 : decode prog_14_method_98_code 6 = .ok (.getfield 7, 3) := by decide +kernel
theorem dX12_longOf_9 : decode prog_14_method_98_code 9 = .ok (.bipush 38, 2) := by decide +kernel
theorem dX12_longOf_11 : decode prog_14_method_98_code 11 = .ok (.iaload, 1) := by decide +kernel
theorem dX12_longOf_12 : decode prog_14_method_98_code 12 = .ok (.if_icmp .ge 34, 3) := by decide +kernel
theorem dX12_longOf_15 : decode prog_14_method_98_code 15 = .ok (.iload_n 2, 1) := by decide +kernel
theorem dX12_longOf_16 : decode prog_14_method_98_code 16 = .ok (.iload_n 1, 1) := by decide +kernel
theorem dX12_longOf_17 : decode prog_14_method_98_code 17 = .ok (.iload_n 3, 1) := by decide +kernel
theorem dX12_longOf_18 : decode prog_14_method_98_code 18 = .ok (.ishr, 1) := by decide +kernel
theorem dX12_longOf_19 : decode prog_14_method_98_code 19 = .ok (.iconst 1, 1) := by decide +kernel
theorem dX12_longOf_20 : decode prog_14_method_98_code 20 = .ok (.iand, 1) := by decide +kernel
theorem dX12_longOf_21 : decode prog_14_method_98_code 21 = .ok (.iconst 1, 1) := by decide +kernel
theorem dX12_longOf_22 : decode prog_14_method_98_code 22 = .ok (.if_icmp .ne 15, 3) := by decide +kernel
theorem dX12_longOf_25 : decode prog_14_method_98_code 25 = .ok (.aload_n 0, 1) := by decide +kernel
theorem dX12_longOf_26 : decode prog_14_method_98_code 26 = .ok (.getfield 7, 3) := by decide +kernel
theorem dX12_longOf_29 : decode prog_14_method_98_code 29 = .ok (.bipush 89, 2) := by decide +kernel
theorem dX12_longOf_31 : decode prog_14_method_98_code 31 = .ok (.iload_n 3, 1) := by decide +kernel
theorem dX12_longOf_32 : decode prog_14_method_98_code 32 = .ok (.iadd, 1) := by decide +kernel
theorem dX12_longOf_33 : decode prog_14_method_98_code 33 = .ok (.iaload, 1) := by decide +kernel
theorem dX12_longOf_34 : decode prog_14_method_98_code 34 = .ok (.goto 4, 3) := by decide +kernel
theorem dX12_longOf_37 : decode prog_14_method_98_code 37 = .ok (.iconst 0, 1) := by decide +kernel
theorem dX12_longOf_38 : decode prog_14_method_98_code 38 = .ok (.iadd, 1) := by decide +kernel
theorem dX12_longOf_39 : decode prog_14_method_98_code 39 = .ok (.istore_n 2, 1) := by decide +kernel
theorem dX12_longOf_40 : decode prog_14_method_98_code 40 = .ok (.iinc 3 1, 3) := by decide +kernel
theorem dX12_longOf_43 : decode prog_14_method_98_code 43 = .ok (.goto (-39), 3) := by decide +kernel
theorem dX12_longOf_46 : decode prog_14_method_98_code 46 = .ok (.iload_n 2, 1) := by decide +kernel
theorem dX12_longOf_47 : decode prog_14_method_98_code 47 = .ok (.ireturn, 1) := by decide +kernel
theorem dX12_worthOf_0 : decode prog_14_method_99_code 0 = .ok (.iconst 0, 1) := by decide +kernel
theorem dX12_worthOf_1 : decode prog_14_method_99_code 1 = .ok (.istore_n 2, 1) := by decide +kernel
theorem dX12_worthOf_2 : decode prog_14_method_99_code 2 = .ok (.iconst 0, 1) := by decide +kernel
theorem dX12_worthOf_3 : decode prog_14_method_99_code 3 = .ok (.istore_n 3, 1) := by decide +kernel
theorem dX12_worthOf_4 : decode prog_14_method_99_code 4 = .ok (.iload_n 3, 1) := by decide +kernel
theorem dX12_worthOf_5 : decode prog_14_method_99_code 5 = .ok (.aload_n 0, 1) := by decide +kernel
theorem dX12_worthOf_6 : decode prog_14_method_99_code 6 = .ok (.getfield 7, 3) := by decide +kernel
theorem dX12_worthOf_9 : decode prog_14_method_99_code 9 = .ok (.bipush 38, 2) := by decide +kernel
theorem dX12_worthOf_11 : decode prog_14_method_99_code 11 = .ok (.iaload, 1) := by decide +kernel
theorem dX12_worthOf_12 : decode prog_14_method_99_code 12 = .ok (.if_icmp .ge 34, 3) := by decide +kernel
theorem dX12_worthOf_15 : decode prog_14_method_99_code 15 = .ok (.iload_n 2, 1) := by decide +kernel
theorem dX12_worthOf_16 : decode prog_14_method_99_code 16 = .ok (.iload_n 1, 1) := by decide +kernel
theorem dX12_worthOf_17 : decode prog_14_method_99_code 17 = .ok (.iload_n 3, 1) := by decide +kernel
theorem dX12_worthOf_18 : decode prog_14_method_99_code 18 = .ok (.ishr, 1) := by decide +kernel
theorem dX12_worthOf_19 : decode prog_14_method_99_code 19 = .ok (.iconst 1, 1) := by decide +kernel
theorem dX12_worthOf_20 : decode prog_14_method_99_code 20 = .ok (.iand, 1) := by decide +kernel
theorem dX12_worthOf_21 : decode prog_14_method_99_code 21 = .ok (.iconst 1, 1) := by decide +kernel
theorem dX12_worthOf_22 : decode prog_14_method_99_code 22 = .ok (.if_icmp .ne 15, 3) := by decide +kernel
theorem dX12_worthOf_25 : decode prog_14_method_99_code 25 = .ok (.aload_n 0, 1) := by decide +kernel
theorem dX12_worthOf_26 : decode prog_14_method_99_code 26 = .ok (.getfield 7, 3) := by decide +kernel
theorem dX12_worthOf_29 : decode prog_14_method_99_code 29 = .ok (.bipush 81, 2) := by decide +kernel
theorem dX12_worthOf_31 : decode prog_14_method_99_code 31 = .ok (.iload_n 3, 1) := by decide +kernel
theorem dX12_worthOf_32 : decode prog_14_method_99_code 32 = .ok (.iadd, 1) := by decide +kernel
theorem dX12_worthOf_33 : decode prog_14_method_99_code 33 = .ok (.iaload, 1) := by decide +kernel
theorem dX12_worthOf_34 : decode prog_14_method_99_code 34 = .ok (.goto 4, 3) := by decide +kernel
theorem dX12_worthOf_37 : decode prog_14_method_99_code 37 = .ok (.iconst 0, 1) := by decide +kernel
theorem dX12_worthOf_38 : decode prog_14_method_99_code 38 = .ok (.iadd, 1) := by decide +kernel
theorem dX12_worthOf_39 : decode prog_14_method_99_code 39 = .ok (.istore_n 2, 1) := by decide +kernel
theorem dX12_worthOf_40 : decode prog_14_method_99_code 40 = .ok (.iinc 3 1, 3) := by decide +kernel
theorem dX12_worthOf_43 : decode prog_14_method_99_code 43 = .ok (.goto (-39), 3) := by decide +kernel
theorem dX12_worthOf_46 : decode prog_14_method_99_code 46 = .ok (.iload_n 2, 1) := by decide +kernel
theorem dX12_worthOf_47 : decode prog_14_method_99_code 47 = .ok (.ireturn, 1) := by decide +kernel
theorem dX12_fills_0 : decode prog_14_method_100_code 0 = .ok (.iload_n 1, 1) := by decide +kernel
theorem dX12_fills_1 : decode prog_14_method_100_code 1 = .ok (.iconst 1, 1) := by decide +kernel
theorem dX12_fills_2 : decode prog_14_method_100_code 2 = .ok (.sipush 999, 3) := by decide +kernel
theorem dX12_fills_5 : decode prog_14_method_100_code 5 = .ok (.invokestatic 56, 3) := by decide +kernel
theorem dX12_fills_8 : decode prog_14_method_100_code 8 = .ok (.ifCond .eq 12, 3) := by decide +kernel
theorem dX12_fills_11 : decode prog_14_method_100_code 11 = .ok (.iload_n 2, 1) := by decide +kernel
theorem dX12_fills_12 : decode prog_14_method_100_code 12 = .ok (.iconst 0, 1) := by decide +kernel
theorem dX12_fills_13 : decode prog_14_method_100_code 13 = .ok (.iconst 1, 1) := by decide +kernel
theorem dX12_fills_14 : decode prog_14_method_100_code 14 = .ok (.invokestatic 56, 3) := by decide +kernel
theorem dX12_fills_17 : decode prog_14_method_100_code 17 = .ok (.ifCond .ne 5, 3) := by decide +kernel
theorem dX12_fills_20 : decode prog_14_method_100_code 20 = .ok (.iconst (-1), 1) := by decide +kernel
theorem dX12_fills_21 : decode prog_14_method_100_code 21 = .ok (.ireturn, 1) := by decide +kernel
theorem dX12_fills_22 : decode prog_14_method_100_code 22 = .ok (.iconst 0, 1) := by decide +kernel
theorem dX12_fills_23 : decode prog_14_method_100_code 23 = .ok (.istore_n 3, 1) := by decide +kernel
theorem dX12_fills_24 : decode prog_14_method_100_code 24 = .ok (.iconst 1, 1) := by decide +kernel
theorem dX12_fills_25 : decode prog_14_method_100_code 25 = .ok (.istore 4, 2) := by decide +kernel
theorem dX12_fills_27 : decode prog_14_method_100_code 27 = .ok (.iload 4, 2) := by decide +kernel
theorem dX12_fills_29 : decode prog_14_method_100_code 29 = .ok (.iconst 1, 1) := by decide +kernel
theorem dX12_fills_30 : decode prog_14_method_100_code 30 = .ok (.aload_n 0, 1) := by decide +kernel
theorem dX12_fills_31 : decode prog_14_method_100_code 31 = .ok (.getfield 7, 3) := by decide +kernel
theorem dX12_fills_34 : decode prog_14_method_100_code 34 = .ok (.bipush 38, 2) := by decide +kernel
theorem dX12_fills_36 : decode prog_14_method_100_code 36 = .ok (.iaload, 1) := by decide +kernel
theorem dX12_fills_37 : decode prog_14_method_100_code 37 = .ok (.ishl, 1) := by decide +kernel
theorem dX12_fills_38 : decode prog_14_method_100_code 38 = .ok (.if_icmp .ge 36, 3) := by decide +kernel
theorem dX12_fills_41 : decode prog_14_method_100_code 41 = .ok (.aload_n 0, 1) := by decide +kernel
theorem dX12_fills_42 : decode prog_14_method_100_code 42 = .ok (.iload 4, 2) := by decide +kernel
theorem dX12_fills_44 : decode prog_14_method_100_code 44 = .ok (.invokevirtual 392, 3) := by decide +kernel
theorem dX12_fills_47 : decode prog_14_method_100_code 47 = .ok (.iload_n 1, 1) := by decide +kernel
theorem dX12_fills_48 : decode prog_14_method_100_code 48 = .ok (.if_icmp .gt 20, 3) := by decide +kernel
theorem dX12_fills_51 : decode prog_14_method_100_code 51 = .ok (.aload_n 0, 1) := by decide +kernel
theorem dX12_fills_52 : decode prog_14_method_100_code 52 = .ok (.iload 4, 2) := by decide +kernel
theorem dX12_fills_54 : decode prog_14_method_100_code 54 = .ok (.invokevirtual 395, 3) := by decide +kernel
theorem dX12_fills_57 : decode prog_14_method_100_code 57 = .ok (.aload_n 0, 1) := by decide +kernel
theorem dX12_fills_58 : decode prog_14_method_100_code 58 = .ok (.iload_n 3, 1) := by decide +kernel
theorem dX12_fills_59 : decode prog_14_method_100_code 59 = .ok (.invokevirtual 395, 3) := by decide +kernel
theorem dX12_fills_62 : decode prog_14_method_100_code 62 = .ok (.if_icmp .le 6, 3) := by decide +kernel
theorem dX12_fills_65 : decode prog_14_method_100_code 65 = .ok (.iload 4, 2) := by decide +kernel
theorem dX12_fills_67 : decode prog_14_method_100_code 67 = .ok (.istore_n 3, 1) := by decide +kernel
theorem dX12_fills_68 : decode prog_14_method_100_code 68 = .ok (.iinc 4 1, 3) := by decide +kernel
theorem dX12_fills_71 : decode prog_14_method_100_code 71 = .ok (.goto (-44), 3) := by decide +kernel
theorem dX12_fills_74 : decode prog_14_method_100_code 74 = .ok (.iload_n 2, 1) := by decide +kernel
theorem dX12_fills_75 : decode prog_14_method_100_code 75 = .ok (.ifCond .ne 11, 3) := by decide +kernel
theorem dX12_fills_78 : decode prog_14_method_100_code 78 = .ok (.aload_n 0, 1) := by decide +kernel
theorem dX12_fills_79 : decode prog_14_method_100_code 79 = .ok (.iload_n 3, 1) := by decide +kernel
theorem dX12_fills_80 : decode prog_14_method_100_code 80 = .ok (.invokevirtual 395, 3) := by decide +kernel
theorem dX12_fills_83 : decode prog_14_method_100_code 83 = .ok (.goto 4, 3) := by decide +kernel
theorem dX12_fills_86 : decode prog_14_method_100_code 86 = .ok (.iload_n 3, 1) := by decide +kernel
theorem dX12_fills_87 : decode prog_14_method_100_code 87 = .ok (.ireturn, 1) := by decide +kernel
theorem dX12_bargain_0 : decode prog_14_method_101_code 0 = .ok (.iload_n 1, 1) := by decide +kernel
theorem dX12_bargain_1 : decode prog_14_method_101_code 1 = .ok (.iconst 0, 1) := by decide +kernel
theorem dX12_bargain_2 : decode prog_14_method_101_code 2 = .ok (.iconst 1, 1) := by decide +kernel
theorem dX12_bargain_3 : decode prog_14_method_101_code 3 = .ok (.invokestatic 56, 3) := by decide +kernel
theorem dX12_bargain_6 : decode prog_14_method_101_code 6 = .ok (.ifCond .eq 13, 3) := by decide +kernel
theorem dX12_bargain_9 : decode prog_14_method_101_code 9 = .ok (.aload_n 0, 1) := by decide +kernel
theorem dX12_bargain_10 : decode prog_14_method_101_code 10 = .ok (.getfield 7, 3) := by decide +kernel
theorem dX12_bargain_13 : decode prog_14_method_101_code 13 = .ok (.bipush 38, 2) := by decide +kernel
theorem dX12_bargain_15 : decode prog_14_method_101_code 15 = .ok (.iaload, 1) := by decide +kernel
theorem dX12_bargain_16 : decode prog_14_method_101_code 16 = .ok (.ifCond .ne 5, 3) := by decide +kernel
theorem dX12_bargain_19 : decode prog_14_method_101_code 19 = .ok (.iconst (-1), 1) := by decide +kernel
theorem dX12_bargain_20 : decode prog_14_method_101_code 20 = .ok (.ireturn, 1) := by decide +kernel
theorem dX12_bargain_21 : decode prog_14_method_101_code 21 = .ok (.iconst 0, 1) := by decide +kernel
theorem dX12_bargain_22 : decode prog_14_method_101_code 22 = .ok (.istore_n 2, 1) := by decide +kernel
theorem dX12_bargain_23 : decode prog_14_method_101_code 23 = .ok (.iconst 1, 1) := by decide +kernel
theorem dX12_bargain_24 : decode prog_14_method_101_code 24 = .ok (.istore_n 3, 1) := by decide +kernel
theorem dX12_bargain_25 : decode prog_14_method_101_code 25 = .ok (.iload_n 3, 1) := by decide +kernel
theorem dX12_bargain_26 : decode prog_14_method_101_code 26 = .ok (.aload_n 0, 1) := by decide +kernel
theorem dX12_bargain_27 : decode prog_14_method_101_code 27 = .ok (.getfield 7, 3) := by decide +kernel
theorem dX12_bargain_30 : decode prog_14_method_101_code 30 = .ok (.bipush 38, 2) := by decide +kernel
theorem dX12_bargain_32 : decode prog_14_method_101_code 32 = .ok (.iaload, 1) := by decide +kernel
theorem dX12_bargain_33 : decode prog_14_method_101_code 33 = .ok (.if_icmp .ge 52, 3) := by decide +kernel
theorem dX12_bargain_36 : decode prog_14_method_101_code 36 = .ok (.aload_n 0, 1) := by decide +kernel
theorem dX12_bargain_37 : decode prog_14_method_101_code 37 = .ok (.getfield 7, 3) := by decide +kernel
theorem dX12_bargain_40 : decode prog_14_method_101_code 40 = .ok (.bipush 81, 2) := by decide +kernel
theorem dX12_bargain_42 : decode prog_14_method_101_code 42 = .ok (.iload_n 3, 1) := by decide +kernel
theorem dX12_bargain_43 : decode prog_14_method_101_code 43 = .ok (.iadd, 1) := by decide +kernel
theorem dX12_bargain_44 : decode prog_14_method_101_code 44 = .ok (.iaload, 1) := by decide +kernel
theorem dX12_bargain_45 : decode prog_14_method_101_code 45 = .ok (.aload_n 0, 1) := by decide +kernel
theorem dX12_bargain_46 : decode prog_14_method_101_code 46 = .ok (.getfield 7, 3) := by decide +kernel
theorem dX12_bargain_49 : decode prog_14_method_101_code 49 = .ok (.bipush 89, 2) := by decide +kernel
theorem dX12_bargain_51 : decode prog_14_method_101_code 51 = .ok (.iload_n 2, 1) := by decide +kernel
theorem dX12_bargain_52 : decode prog_14_method_101_code 52 = .ok (.iadd, 1) := by decide +kernel
theorem dX12_bargain_53 : decode prog_14_method_101_code 53 = .ok (.iaload, 1) := by decide +kernel
theorem dX12_bargain_54 : decode prog_14_method_101_code 54 = .ok (.imul, 1) := by decide +kernel
theorem dX12_bargain_55 : decode prog_14_method_101_code 55 = .ok (.aload_n 0, 1) := by decide +kernel
theorem dX12_bargain_56 : decode prog_14_method_101_code 56 = .ok (.getfield 7, 3) := by decide +kernel
theorem dX12_bargain_59 : decode prog_14_method_101_code 59 = .ok (.bipush 81, 2) := by decide +kernel
theorem dX12_bargain_61 : decode prog_14_method_101_code 61 = .ok (.iload_n 2, 1) := by decide +kernel
theorem dX12_bargain_62 : decode prog_14_method_101_code 62 = .ok (.iadd, 1) := by decide +kernel
theorem dX12_bargain_63 : decode prog_14_method_101_code 63 = .ok (.iaload, 1) := by decide +kernel
theorem dX12_bargain_64 : decode prog_14_method_101_code 64 = .ok (.aload_n 0, 1) := by decide +kernel
theorem dX12_bargain_65 : decode prog_14_method_101_code 65 = .ok (.getfield 7, 3) := by decide +kernel
theorem dX12_bargain_68 : decode prog_14_method_101_code 68 = .ok (.bipush 89, 2) := by decide +kernel
theorem dX12_bargain_70 : decode prog_14_method_101_code 70 = .ok (.iload_n 3, 1) := by decide +kernel
theorem dX12_bargain_71 : decode prog_14_method_101_code 71 = .ok (.iadd, 1) := by decide +kernel
theorem dX12_bargain_72 : decode prog_14_method_101_code 72 = .ok (.iaload, 1) := by decide +kernel
theorem dX12_bargain_73 : decode prog_14_method_101_code 73 = .ok (.imul, 1) := by decide +kernel
theorem dX12_bargain_74 : decode prog_14_method_101_code 74 = .ok (.if_icmp .le 5, 3) := by decide +kernel
theorem dX12_bargain_77 : decode prog_14_method_101_code 77 = .ok (.iload_n 3, 1) := by decide +kernel
theorem dX12_bargain_78 : decode prog_14_method_101_code 78 = .ok (.istore_n 2, 1) := by decide +kernel
theorem dX12_bargain_79 : decode prog_14_method_101_code 79 = .ok (.iinc 3 1, 3) := by decide +kernel
theorem dX12_bargain_82 : decode prog_14_method_101_code 82 = .ok (.goto (-57), 3) := by decide +kernel
theorem dX12_bargain_85 : decode prog_14_method_101_code 85 = .ok (.iload_n 1, 1) := by decide +kernel
theorem dX12_bargain_86 : decode prog_14_method_101_code 86 = .ok (.ifCond .ne 7, 3) := by decide +kernel
theorem dX12_bargain_89 : decode prog_14_method_101_code 89 = .ok (.iload_n 2, 1) := by decide +kernel
theorem dX12_bargain_90 : decode prog_14_method_101_code 90 = .ok (.goto 25, 3) := by decide +kernel
theorem dX12_bargain_93 : decode prog_14_method_101_code 93 = .ok (.aload_n 0, 1) := by decide +kernel
theorem dX12_bargain_94 : decode prog_14_method_101_code 94 = .ok (.getfield 7, 3) := by decide +kernel
theorem dX12_bargain_97 : decode prog_14_method_101_code 97 = .ok (.bipush 81, 2) := by decide +kernel
theorem dX12_bargain_99 : decode prog_14_method_101_code 99 = .ok (.iload_n 2, 1) := by decide +kernel
theorem dX12_bargain_100 : decode prog_14_method_101_code 100 = .ok (.iadd, 1) := by decide +kernel
theorem dX12_bargain_101 : decode prog_14_method_101_code 101 = .ok (.iaload, 1) := by decide +kernel
theorem dX12_bargain_102 : decode prog_14_method_101_code 102 = .ok (.bipush 60, 2) := by decide +kernel
theorem dX12_bargain_104 : decode prog_14_method_101_code 104 = .ok (.imul, 1) := by decide +kernel
theorem dX12_bargain_105 : decode prog_14_method_101_code 105 = .ok (.aload_n 0, 1) := by decide +kernel
theorem dX12_bargain_106 : decode prog_14_method_101_code 106 = .ok (.getfield 7, 3) := by decide +kernel
theorem dX12_bargain_109 : decode prog_14_method_101_code 109 = .ok (.bipush 89, 2) := by decide +kernel
theorem dX12_bargain_111 : decode prog_14_method_101_code 111 = .ok (.iload_n 2, 1) := by decide +kernel
theorem dX12_bargain_112 : decode prog_14_method_101_code 112 = .ok (.iadd, 1) := by decide +kernel
theorem dX12_bargain_113 : decode prog_14_method_101_code 113 = .ok (.iaload, 1) := by decide +kernel
theorem dX12_bargain_114 : decode prog_14_method_101_code 114 = .ok (.idiv, 1) := by decide +kernel
theorem dX12_bargain_115 : decode prog_14_method_101_code 115 = .ok (.ireturn, 1) := by decide +kernel
theorem dX12_calm_0 : decode prog_14_method_102_code 0 = .ok (.aload_n 0, 1) := by decide +kernel
theorem dX12_calm_1 : decode prog_14_method_102_code 1 = .ok (.iload_n 1, 1) := by decide +kernel
theorem dX12_calm_2 : decode prog_14_method_102_code 2 = .ok (.bipush 10, 2) := by decide +kernel
theorem dX12_calm_4 : decode prog_14_method_102_code 4 = .ok (.isub, 1) := by decide +kernel
theorem dX12_calm_5 : decode prog_14_method_102_code 5 = .ok (.invokevirtual 72, 3) := by decide +kernel
theorem dX12_calm_8 : decode prog_14_method_102_code 8 = .ok (.ifCond .eq 26, 3) := by decide +kernel
theorem dX12_calm_11 : decode prog_14_method_102_code 11 = .ok (.aload_n 0, 1) := by decide +kernel
theorem dX12_calm_12 : decode prog_14_method_102_code 12 = .ok (.getfield 7, 3) := by decide +kernel
theorem dX12_calm_15 : decode prog_14_method_102_code 15 = .ok (.bipush 7, 2) := by decide +kernel
theorem dX12_calm_17 : decode prog_14_method_102_code 17 = .ok (.iaload, 1) := by decide +kernel
theorem dX12_calm_18 : decode prog_14_method_102_code 18 = .ok (.aload_n 0, 1) := by decide +kernel
theorem dX12_calm_19 : decode prog_14_method_102_code 19 = .ok (.iload_n 1, 1) := by decide +kernel
theorem dX12_calm_20 : decode prog_14_method_102_code 20 = .ok (.bipush 10, 2) := by decide +kernel
theorem dX12_calm_22 : decode prog_14_method_102_code 22 = .ok (.isub, 1) := by decide +kernel
theorem dX12_calm_23 : decode prog_14_method_102_code 23 = .ok (.iconst 0, 1) := by decide +kernel
theorem dX12_calm_24 : decode prog_14_method_102_code 24 = .ok (.invokevirtual 389, 3) := by decide +kernel
theorem dX12_calm_27 : decode prog_14_method_102_code 27 = .ok (.iconst (-1), 1) := by decide +kernel
theorem dX12_calm_28 : decode prog_14_method_102_code 28 = .ok (.ixor, 1) := by decide +kernel
theorem dX12_calm_29 : decode prog_14_method_102_code 29 = .ok (.iand, 1) := by decide +kernel
theorem dX12_calm_30 : decode prog_14_method_102_code 30 = .ok (.invokestatic 319, 3) := by decide +kernel
theorem dX12_calm_33 : decode prog_14_method_102_code 33 = .ok (.ireturn, 1) := by decide +kernel
theorem dX12_calm_34 : decode prog_14_method_102_code 34 = .ok (.iload_n 1, 1) := by decide +kernel
theorem dX12_calm_35 : decode prog_14_method_102_code 35 = .ok (.iconst 0, 1) := by decide +kernel
theorem dX12_calm_36 : decode prog_14_method_102_code 36 = .ok (.iconst 1, 1) := by decide +kernel
theorem dX12_calm_37 : decode prog_14_method_102_code 37 = .ok (.invokestatic 56, 3) := by decide +kernel
theorem dX12_calm_40 : decode prog_14_method_102_code 40 = .ok (.ifCond .ne 5, 3) := by decide +kernel
theorem dX12_calm_43 : decode prog_14_method_102_code 43 = .ok (.iconst (-1), 1) := by decide +kernel
theorem dX12_calm_44 : decode prog_14_method_102_code 44 = .ok (.ireturn, 1) := by decide +kernel
theorem dX12_calm_45 : decode prog_14_method_102_code 45 = .ok (.iconst (-1), 1) := by decide +kernel
theorem dX12_calm_46 : decode prog_14_method_102_code 46 = .ok (.istore_n 2, 1) := by decide +kernel
theorem dX12_calm_47 : decode prog_14_method_102_code 47 = .ok (.iconst 0, 1) := by decide +kernel
theorem dX12_calm_48 : decode prog_14_method_102_code 48 = .ok (.istore_n 3, 1) := by decide +kernel
theorem dX12_calm_49 : decode prog_14_method_102_code 49 = .ok (.iconst 0, 1) := by decide +kernel
theorem dX12_calm_50 : decode prog_14_method_102_code 50 = .ok (.istore 4, 2) := by decide +kernel
theorem dX12_calm_52 : decode prog_14_method_102_code 52 = .ok (.iload 4, 2) := by decide +kernel
theorem dX12_calm_54 : decode prog_14_method_102_code 54 = .ok (.aload_n 0, 1) := by decide +kernel
theorem dX12_calm_55 : decode prog_14_method_102_code 55 = .ok (.getfield 7, 3) := by decide +kernel
theorem dX12_calm_58 : decode prog_14_method_102_code 58 = .ok (.bipush 37, 2) := by decide +kernel
theorem dX12_calm_60 : decode prog_14_method_102_code 60 = .ok (.iaload, 1) := by decide +kernel
theorem dX12_calm_61 : decode prog_14_method_102_code 61 = .ok (.if_icmp .ge 68, 3) := by decide +kernel
theorem dX12_calm_64 : decode prog_14_method_102_code 64 = .ok (.aload_n 0, 1) := by decide +kernel
theorem dX12_calm_65 : decode prog_14_method_102_code 65 = .ok (.iload 4, 2) := by decide +kernel
theorem dX12_calm_67 : decode prog_14_method_102_code 67 = .ok (.invokevirtual 310, 3) := by decide +kernel
theorem dX12_calm_70 : decode prog_14_method_102_code 70 = .ok (.ifCond .ne 6, 3) := by decide +kernel
theorem dX12_calm_73 : decode prog_14_method_102_code 73 = .ok (.goto 50, 3) := by decide +kernel
theorem dX12_calm_76 : decode prog_14_method_102_code 76 = .ok (.iload_n 3, 1) := by decide +kernel
theorem dX12_calm_77 : decode prog_14_method_102_code 77 = .ok (.aload_n 0, 1) := by decide +kernel
theorem dX12_calm_78 : decode prog_14_method_102_code 78 = .ok (.getfield 7, 3) := by decide +kernel
theorem dX12_calm_81 : decode prog_14_method_102_code 81 = .ok (.bipush 69, 2) := by decide +kernel
theorem dX12_calm_83 : decode prog_14_method_102_code 83 = .ok (.iload 4, 2) := by decide +kernel
theorem dX12_calm_85 : decode prog_14_method_102_code 85 = .ok (.iadd, 1) := by decide +kernel
theorem dX12_calm_86 : decode prog_14_method_102_code 86 = .ok (.iaload, 1) := by decide +kernel
theorem dX12_calm_87 : decode prog_14_method_102_code 87 = .ok (.iadd, 1) := by decide +kernel
theorem dX12_calm_88 : decode prog_14_method_102_code 88 = .ok (.istore_n 3, 1) := by decide +kernel
theorem dX12_calm_89 : decode prog_14_method_102_code 89 = .ok (.iload_n 2, 1) := by decide +kernel
theorem dX12_calm_90 : decode prog_14_method_102_code 90 = .ok (.iconst (-1), 1) := by decide +kernel
theorem dX12_calm_91 : decode prog_14_method_102_code 91 = .ok (.if_icmp .eq 25, 3) := by decide +kernel
theorem dX12_calm_94 : decode prog_14_method_102_code 94 = .ok (.aload_n 0, 1) := by decide +kernel
theorem dX12_calm_95 : decode prog_14_method_102_code 95 = .ok (.getfield 7, 3) := by decide +kernel
theorem dX12_calm_98 : decode prog_14_method_102_code 98 = .ok (.bipush 69, 2) := by decide +kernel
theorem dX12_calm_100 : decode prog_14_method_102_code 100 = .ok (.iload 4, 2) := by decide +kernel
theorem dX12_calm_102 : decode prog_14_method_102_code 102 = .ok (.iadd, 1) := by decide +kernel
theorem dX12_calm_103 : decode prog_14_method_102_code 103 = .ok (.iaload, 1) := by decide +kernel
theorem dX12_calm_104 : decode prog_14_method_102_code 104 = .ok (.aload_n 0, 1) := by decide +kernel
theorem dX12_calm_105 : decode prog_14_method_102_code 105 = .ok (.getfield 7, 3) := by decide +kernel
theorem dX12_calm_108 : decode prog_14_method_102_code 108 = .ok (.bipush 69, 2) := by decide +kernel
theorem dX12_calm_110 : decode prog_14_method_102_code 110 = .ok (.iload_n 2, 1) := by decide +kernel
theorem dX12_calm_111 : decode prog_14_method_102_code 111 = .ok (.iadd, 1) := by decide +kernel
theorem dX12_calm_112 : decode prog_14_method_102_code 112 = .ok (.iaload, 1) := by decide +kernel
theorem dX12_calm_113 : decode prog_14_method_102_code 113 = .ok (.if_icmp .le 8, 3) := by decide +kernel
theorem dX12_calm_116 : decode prog_14_method_102_code 116 = .ok (.iload 4, 2) := by decide +kernel
theorem dX12_calm_118 : decode prog_14_method_102_code 118 = .ok (.goto 4, 3) := by decide +kernel
theorem dX12_calm_121 : decode prog_14_method_102_code 121 = .ok (.iload_n 2, 1) := by decide +kernel
theorem dX12_calm_122 : decode prog_14_method_102_code 122 = .ok (.istore_n 2, 1) := by decide +kernel
theorem dX12_calm_123 : decode prog_14_method_102_code 123 = .ok (.iinc 4 1, 3) := by decide +kernel
theorem dX12_calm_126 : decode prog_14_method_102_code 126 = .ok (.goto (-74), 3) := by decide +kernel
theorem dX12_calm_129 : decode prog_14_method_102_code 129 = .ok (.iload_n 1, 1) := by decide +kernel
theorem dX12_calm_130 : decode prog_14_method_102_code 130 = .ok (.ifCond .ne 7, 3) := by decide +kernel
theorem dX12_calm_133 : decode prog_14_method_102_code 133 = .ok (.iload_n 2, 1) := by decide +kernel
theorem dX12_calm_134 : decode prog_14_method_102_code 134 = .ok (.goto 4, 3) := by decide +kernel
theorem dX12_calm_137 : decode prog_14_method_102_code 137 = .ok (.iload_n 3, 1) := by decide +kernel
theorem dX12_calm_138 : decode prog_14_method_102_code 138 = .ok (.ireturn, 1) := by decide +kernel
theorem dX12_laysLines_0 : decode prog_14_method_103_code 0 = .ok (.iconst 0, 1) := by decide +kernel
theorem dX12_laysLines_1 : decode prog_14_method_103_code 1 = .ok (.istore_n 1, 1) := by decide +kernel
theorem dX12_laysLines_2 : decode prog_14_method_103_code 2 = .ok (.iload_n 1, 1) := by decide +kernel
theorem dX12_laysLines_3 : decode prog_14_method_103_code 3 = .ok (.iconst 1, 1) := by decide +kernel
theorem dX12_laysLines_4 : decode prog_14_method_103_code 4 = .ok (.aload_n 0, 1) := by decide +kernel
theorem dX12_laysLines_5 : decode prog_14_method_103_code 5 = .ok (.getfield 7, 3) := by decide +kernel
theorem dX12_laysLines_8 : decode prog_14_method_103_code 8 = .ok (.bipush 38, 2) := by decide +kernel
theorem dX12_laysLines_10 : decode prog_14_method_103_code 10 = .ok (.iaload, 1) := by decide +kernel
theorem dX12_laysLines_11 : decode prog_14_method_103_code 11 = .ok (.ishl, 1) := by decide +kernel
theorem dX12_laysLines_12 : decode prog_14_method_103_code 12 = .ok (.if_icmp .ge 97, 3) := by decide +kernel
theorem dX12_laysLines_15 : decode prog_14_method_103_code 15 = .ok (.aload_n 0, 1) := by decide +kernel
theorem dX12_laysLines_16 : decode prog_14_method_103_code 16 = .ok (.getfield 47, 3) := by decide +kernel
theorem dX12_laysLines_19 : decode prog_14_method_103_code 19 = .ok (.iload_n 1, 1) := by decide +kernel
theorem dX12_laysLines_20 : decode prog_14_method_103_code 20 = .ok (.iload_n 1, 1) := by decide +kernel
theorem dX12_laysLines_21 : decode prog_14_method_103_code 21 = .ok (.ifCond .ne 7, 3) := by decide +kernel
theorem dX12_laysLines_24 : decode prog_14_method_103_code 24 = .ok (.iconst 0, 1) := by decide +kernel
theorem dX12_laysLines_25 : decode prog_14_method_103_code 25 = .ok (.goto 6, 3) := by decide +kernel
theorem dX12_laysLines_28 : decode prog_14_method_103_code 28 = .ok (.ldc_w 398, 3) := by decide +kernel
theorem dX12_laysLines_31 : decode prog_14_method_103_code 31 = .ok (.iastore, 1) := by decide +kernel
theorem dX12_laysLines_32 : decode prog_14_method_103_code 32 = .ok (.iconst 0, 1) := by decide +kernel
theorem dX12_laysLines_33 : decode prog_14_method_103_code 33 = .ok (.istore_n 2, 1) := by decide +kernel
theorem dX12_laysLines_34 : decode prog_14_method_103_code 34 = .ok (.iload_n 2, 1) := by decide +kernel
theorem dX12_laysLines_35 : decode prog_14_method_103_code 35 = .ok (.aload_n 0, 1) := by decide +kernel
theorem dX12_laysLines_36 : decode prog_14_method_103_code 36 = .ok (.getfield 7, 3) := by decide +kernel
theorem dX12_laysLines_39 : decode prog_14_method_103_code 39 = .ok (.bipush 38, 2) := by decide +kernel
theorem dX12_laysLines_41 : decode prog_14_method_103_code 41 = .ok (.iaload, 1) := by decide +kernel
theorem dX12_laysLines_42 : decode prog_14_method_103_code 42 = .ok (.if_icmp .ge 61, 3) := by decide +kernel
theorem dX12_laysLines_45 : decode prog_14_method_103_code 45 = .ok (.iload_n 1, 1) := by decide +kernel
theorem dX12_laysLines_46 : decode prog_14_method_103_code 46 = .ok (.iload_n 2, 1) := by decide +kernel
theorem dX12_laysLines_47 : decode prog_14_method_103_code 47 = .ok (.ishr, 1) := by decide +kernel
theorem dX12_laysLines_48 : decode prog_14_method_103_code 48 = .ok (.iconst 1, 1) := by decide +kernel
theorem dX12_laysLines_49 : decode prog_14_method_103_code 49 = .ok (.iand, 1) := by decide +kernel
theorem dX12_laysLines_50 : decode prog_14_method_103_code 50 = .ok (.iconst 1, 1) := by decide +kernel
theorem dX12_laysLines_51 : decode prog_14_method_103_code 51 = .ok (.if_icmp .ne 46, 3) := by decide +kernel
theorem dX12_laysLines_54 : decode prog_14_method_103_code 54 = .ok (.aload_n 0, 1) := by decide +kernel
theorem dX12_laysLines_55 : decode prog_14_method_103_code 55 = .ok (.getfield 47, 3) := by decide +kernel
theorem dX12_laysLines_58 : decode prog_14_method_103_code 58 = .ok (.iload_n 1, 1) := by decide +kernel
theorem dX12_laysLines_59 : decode prog_14_method_103_code 59 = .ok (.aload_n 0, 1) := by decide +kernel
theorem dX12_laysLines_60 : decode prog_14_method_103_code 60 = .ok (.getfield 47, 3) := by decide +kernel
theorem dX12_laysLines_63 : decode prog_14_method_103_code 63 = .ok (.iload_n 1, 1) := by decide +kernel
theorem dX12_laysLines_64 : decode prog_14_method_103_code 64 = .ok (.iaload, 1) := by decide +kernel
theorem dX12_laysLines_65 : decode prog_14_method_103_code 65 = .ok (.aload_n 0, 1) := by decide +kernel
theorem dX12_laysLines_66 : decode prog_14_method_103_code 66 = .ok (.getfield 47, 3) := by decide +kernel
theorem dX12_laysLines_69 : decode prog_14_method_103_code 69 = .ok (.iload_n 1, 1) := by decide +kernel
theorem dX12_laysLines_70 : decode prog_14_method_103_code 70 = .ok (.iconst 1, 1) := by decide +kernel
theorem dX12_laysLines_71 : decode prog_14_method_103_code 71 = .ok (.iload_n 2, 1) := by decide +kernel
theorem dX12_laysLines_72 : decode prog_14_method_103_code 72 = .ok (.ishl, 1) := by decide +kernel
theorem dX12_laysLines_73 : decode prog_14_method_103_code 73 = .ok (.iconst (-1), 1) := by decide +kernel
theorem dX12_laysLines_74 : decode prog_14_method_103_code 74 = .ok (.ixor, 1) := by decide +kernel
theorem dX12_laysLines_75 : decode prog_14_method_103_code 75 = .ok (.iand, 1) := by decide +kernel
theorem dX12_laysLines_76 : decode prog_14_method_103_code 76 = .ok (.iaload, 1) := by decide +kernel
theorem dX12_laysLines_77 : decode prog_14_method_103_code 77 = .ok (.aload_n 0, 1) := by decide +kernel
theorem dX12_laysLines_78 : decode prog_14_method_103_code 78 = .ok (.getfield 7, 3) := by decide +kernel
theorem dX12_laysLines_81 : decode prog_14_method_103_code 81 = .ok (.bipush 81, 2) := by decide +kernel
theorem dX12_laysLines_83 : decode prog_14_method_103_code 83 = .ok (.iload_n 2, 1) := by decide +kernel
theorem dX12_laysLines_84 : decode prog_14_method_103_code 84 = .ok (.iadd, 1) := by decide +kernel
theorem dX12_laysLines_85 : decode prog_14_method_103_code 85 = .ok (.iaload, 1) := by decide +kernel
theorem dX12_laysLines_86 : decode prog_14_method_103_code 86 = .ok (.aload_n 0, 1) := by decide +kernel
theorem dX12_laysLines_87 : decode prog_14_method_103_code 87 = .ok (.iload_n 1, 1) := by decide +kernel
theorem dX12_laysLines_88 : decode prog_14_method_103_code 88 = .ok (.invokevirtual 392, 3) := by decide +kernel
theorem dX12_laysLines_91 : decode prog_14_method_103_code 91 = .ok (.imul, 1) := by decide +kernel
theorem dX12_laysLines_92 : decode prog_14_method_103_code 92 = .ok (.iadd, 1) := by decide +kernel
theorem dX12_laysLines_93 : decode prog_14_method_103_code 93 = .ok (.invokestatic 286, 3) := by decide +kernel
theorem dX12_laysLines_96 : decode prog_14_method_103_code 96 = .ok (.iastore, 1) := by decide +kernel
theorem dX12_laysLines_97 : decode prog_14_method_103_code 97 = .ok (.iinc 2 1, 3) := by decide +kernel
theorem dX12_laysLines_100 : decode prog_14_method_103_code 100 = .ok (.goto (-66), 3) := by decide +kernel
theorem dX12_laysLines_103 : decode prog_14_method_103_code 103 = .ok (.iinc 1 1, 3) := by decide +kernel
theorem dX12_laysLines_106 : decode prog_14_method_103_code 106 = .ok (.goto (-104), 3) := by decide +kernel
theorem dX12_laysLines_109 : decode prog_14_method_103_code 109 = .ok (.return_, 1) := by decide +kernel
theorem dX12_leastWith_0 : decode prog_14_method_104_code 0 = .ok (.aload_n 0, 1) := by decide +kernel
theorem dX12_leastWith_1 : decode prog_14_method_104_code 1 = .ok (.getfield 7, 3) := by decide +kernel
theorem dX12_leastWith_4 : decode prog_14_method_104_code 4 = .ok (.bipush 89, 2) := by decide +kernel
theorem dX12_leastWith_6 : decode prog_14_method_104_code 6 = .ok (.iload_n 1, 1) := by decide +kernel
theorem dX12_leastWith_7 : decode prog_14_method_104_code 7 = .ok (.iadd, 1) := by decide +kernel
theorem dX12_leastWith_8 : decode prog_14_method_104_code 8 = .ok (.iaload, 1) := by decide +kernel
theorem dX12_leastWith_9 : decode prog_14_method_104_code 9 = .ok (.aload_n 0, 1) := by decide +kernel
theorem dX12_leastWith_10 : decode prog_14_method_104_code 10 = .ok (.iload_n 2, 1) := by decide +kernel
theorem dX12_leastWith_11 : decode prog_14_method_104_code 11 = .ok (.invokevirtual 395, 3) := by decide +kernel
theorem dX12_leastWith_14 : decode prog_14_method_104_code 14 = .ok (.imul, 1) := by decide +kernel
theorem dX12_leastWith_15 : decode prog_14_method_104_code 15 = .ok (.aload_n 0, 1) := by decide +kernel
theorem dX12_leastWith_16 : decode prog_14_method_104_code 16 = .ok (.getfield 47, 3) := by decide +kernel
theorem dX12_leastWith_19 : decode prog_14_method_104_code 19 = .ok (.iload_n 2, 1) := by decide +kernel
theorem dX12_leastWith_20 : decode prog_14_method_104_code 20 = .ok (.iconst 1, 1) := by decide +kernel
theorem dX12_leastWith_21 : decode prog_14_method_104_code 21 = .ok (.iload_n 1, 1) := by decide +kernel
theorem dX12_leastWith_22 : decode prog_14_method_104_code 22 = .ok (.ishl, 1) := by decide +kernel
theorem dX12_leastWith_23 : decode prog_14_method_104_code 23 = .ok (.iconst (-1), 1) := by decide +kernel
theorem dX12_leastWith_24 : decode prog_14_method_104_code 24 = .ok (.ixor, 1) := by decide +kernel
theorem dX12_leastWith_25 : decode prog_14_method_104_code 25 = .ok (.iand, 1) := by decide +kernel
theorem dX12_leastWith_26 : decode prog_14_method_104_code 26 = .ok (.iaload, 1) := by decide +kernel
theorem dX12_leastWith_27 : decode prog_14_method_104_code 27 = .ok (.iadd, 1) := by decide +kernel
theorem dX12_leastWith_28 : decode prog_14_method_104_code 28 = .ok (.ireturn, 1) := by decide +kernel
theorem dX12_lines_0 : decode prog_14_method_105_code 0 = .ok (.iload_n 1, 1) := by decide +kernel
theorem dX12_lines_1 : decode prog_14_method_105_code 1 = .ok (.iconst 0, 1) := by decide +kernel
theorem dX12_lines_2 : decode prog_14_method_105_code 2 = .ok (.iconst 1, 1) := by decide +kernel
theorem dX12_lines_3 : decode prog_14_method_105_code 3 = .ok (.aload_n 0, 1) := by decide +kernel
theorem dX12_lines_4 : decode prog_14_method_105_code 4 = .ok (.getfield 7, 3) := by decide +kernel
theorem dX12_lines_7 : decode prog_14_method_105_code 7 = .ok (.bipush 38, 2) := by decide +kernel
theorem dX12_lines_9 : decode prog_14_method_105_code 9 = .ok (.iaload, 1) := by decide +kernel
theorem dX12_lines_10 : decode prog_14_method_105_code 10 = .ok (.ishl, 1) := by decide +kernel
theorem dX12_lines_11 : decode prog_14_method_105_code 11 = .ok (.iconst 1, 1) := by decide +kernel
theorem dX12_lines_12 : decode prog_14_method_105_code 12 = .ok (.isub, 1) := by decide +kernel
theorem dX12_lines_13 : decode prog_14_method_105_code 13 = .ok (.invokestatic 56, 3) := by decide +kernel
theorem dX12_lines_16 : decode prog_14_method_105_code 16 = .ok (.ifCond .eq 12, 3) := by decide +kernel
theorem dX12_lines_19 : decode prog_14_method_105_code 19 = .ok (.iload_n 2, 1) := by decide +kernel
theorem dX12_lines_20 : decode prog_14_method_105_code 20 = .ok (.iconst 0, 1) := by decide +kernel
theorem dX12_lines_21 : decode prog_14_method_105_code 21 = .ok (.iconst 1, 1) := by decide +kernel
theorem dX12_lines_22 : decode prog_14_method_105_code 22 = .ok (.invokestatic 56, 3) := by decide +kernel
theorem dX12_lines_25 : decode prog_14_method_105_code 25 = .ok (.ifCond .ne 5, 3) := by decide +kernel
theorem dX12_lines_28 : decode prog_14_method_105_code 28 = .ok (.iconst (-1), 1) := by decide +kernel
theorem dX12_lines_29 : decode prog_14_method_105_code 29 = .ok (.ireturn, 1) := by decide +kernel
theorem dX12_lines_30 : decode prog_14_method_105_code 30 = .ok (.aload_n 0, 1) := by decide +kernel
theorem dX12_lines_31 : decode prog_14_method_105_code 31 = .ok (.invokevirtual 399, 3) := by decide +kernel
theorem dX12_lines_34 : decode prog_14_method_105_code 34 = .ok (.iload_n 2, 1) := by decide +kernel
theorem dX12_lines_35 : decode prog_14_method_105_code 35 = .ok (.ifCond .ne 10, 3) := by decide +kernel
theorem dX12_lines_38 : decode prog_14_method_105_code 38 = .ok (.aload_n 0, 1) := by decide +kernel
theorem dX12_lines_39 : decode prog_14_method_105_code 39 = .ok (.getfield 47, 3) := by decide +kernel
theorem dX12_lines_42 : decode prog_14_method_105_code 42 = .ok (.iload_n 1, 1) := by decide +kernel
theorem dX12_lines_43 : decode prog_14_method_105_code 43 = .ok (.iaload, 1) := by decide +kernel
theorem dX12_lines_44 : decode prog_14_method_105_code 44 = .ok (.ireturn, 1) := by decide +kernel
theorem dX12_lines_45 : decode prog_14_method_105_code 45 = .ok (.iconst 0, 1) := by decide +kernel
theorem dX12_lines_46 : decode prog_14_method_105_code 46 = .ok (.istore_n 3, 1) := by decide +kernel
theorem dX12_lines_47 : decode prog_14_method_105_code 47 = .ok (.iload_n 3, 1) := by decide +kernel
theorem dX12_lines_48 : decode prog_14_method_105_code 48 = .ok (.aload_n 0, 1) := by decide +kernel
theorem dX12_lines_49 : decode prog_14_method_105_code 49 = .ok (.getfield 7, 3) := by decide +kernel
theorem dX12_lines_52 : decode prog_14_method_105_code 52 = .ok (.bipush 38, 2) := by decide +kernel
theorem dX12_lines_54 : decode prog_14_method_105_code 54 = .ok (.iaload, 1) := by decide +kernel
theorem dX12_lines_55 : decode prog_14_method_105_code 55 = .ok (.if_icmp .ge 35, 3) := by decide +kernel
theorem dX12_lines_58 : decode prog_14_method_105_code 58 = .ok (.iload_n 1, 1) := by decide +kernel
theorem dX12_lines_59 : decode prog_14_method_105_code 59 = .ok (.iload_n 3, 1) := by decide +kernel
theorem dX12_lines_60 : decode prog_14_method_105_code 60 = .ok (.ishr, 1) := by decide +kernel
theorem dX12_lines_61 : decode prog_14_method_105_code 61 = .ok (.iconst 1, 1) := by decide +kernel
theorem dX12_lines_62 : decode prog_14_method_105_code 62 = .ok (.iand, 1) := by decide +kernel
theorem dX12_lines_63 : decode prog_14_method_105_code 63 = .ok (.iconst 1, 1) := by decide +kernel
theorem dX12_lines_64 : decode prog_14_method_105_code 64 = .ok (.if_icmp .ne 20, 3) := by decide +kernel
theorem dX12_lines_67 : decode prog_14_method_105_code 67 = .ok (.aload_n 0, 1) := by decide +kernel
theorem dX12_lines_68 : decode prog_14_method_105_code 68 = .ok (.iload_n 3, 1) := by decide +kernel
theorem dX12_lines_69 : decode prog_14_method_105_code 69 = .ok (.iload_n 1, 1) := by decide +kernel
theorem dX12_lines_70 : decode prog_14_method_105_code 70 = .ok (.invokevirtual 402, 3) := by decide +kernel
theorem dX12_lines_73 : decode prog_14_method_105_code 73 = .ok (.aload_n 0, 1) := by decide +kernel
theorem dX12_lines_74 : decode prog_14_method_105_code 74 = .ok (.getfield 47, 3) := by decide +kernel
theorem dX12_lines_77 : decode prog_14_method_105_code 77 = .ok (.iload_n 1, 1) := by decide +kernel
theorem dX12_lines_78 : decode prog_14_method_105_code 78 = .ok (.iaload, 1) := by decide +kernel
theorem dX12_lines_79 : decode prog_14_method_105_code 79 = .ok (.if_icmp .ne 5, 3) := by decide +kernel
theorem dX12_lines_82 : decode prog_14_method_105_code 82 = .ok (.iload_n 3, 1) := by decide +kernel
theorem dX12_lines_83 : decode prog_14_method_105_code 83 = .ok (.ireturn, 1) := by decide +kernel
theorem dX12_lines_84 : decode prog_14_method_105_code 84 = .ok (.iinc 3 1, 3) := by decide +kernel
theorem dX12_lines_87 : decode prog_14_method_105_code 87 = .ok (.goto (-40), 3) := by decide +kernel
theorem dX12_lines_90 : decode prog_14_method_105_code 90 = .ok (.iconst (-1), 1) := by decide +kernel
theorem dX12_lines_91 : decode prog_14_method_105_code 91 = .ok (.ireturn, 1) := by decide +kernel
theorem dX12_claque_0 : decode prog_14_method_106_code 0 = .ok (.iload_n 1, 1) := by decide +kernel
theorem dX12_claque_1 : decode prog_14_method_106_code 1 = .ok (.iconst (-1), 1) := by decide +kernel
theorem dX12_claque_2 : decode prog_14_method_106_code 2 = .ok (.if_icmp .ne 13, 3) := by decide +kernel
theorem dX12_claque_5 : decode prog_14_method_106_code 5 = .ok (.aload_n 0, 1) := by decide +kernel
theorem dX12_claque_6 : decode prog_14_method_106_code 6 = .ok (.getfield 7, 3) := by decide +kernel
theorem dX12_claque_9 : decode prog_14_method_106_code 9 = .ok (.bipush 44, 2) := by decide +kernel
theorem dX12_claque_11 : decode prog_14_method_106_code 11 = .ok (.iconst 0, 1) := by decide +kernel
theorem dX12_claque_12 : decode prog_14_method_106_code 12 = .ok (.iastore, 1) := by decide +kernel
theorem dX12_claque_13 : decode prog_14_method_106_code 13 = .ok (.iconst 0, 1) := by decide +kernel
theorem dX12_claque_14 : decode prog_14_method_106_code 14 = .ok (.ireturn, 1) := by decide +kernel
theorem dX12_claque_15 : decode prog_14_method_106_code 15 = .ok (.iload_n 1, 1) := by decide +kernel
theorem dX12_claque_16 : decode prog_14_method_106_code 16 = .ok (.iconst 0, 1) := by decide +kernel
theorem dX12_claque_17 : decode prog_14_method_106_code 17 = .ok (.aload_n 0, 1) := by decide +kernel
theorem dX12_claque_18 : decode prog_14_method_106_code 18 = .ok (.invokevirtual 405, 3) := by decide +kernel
theorem dX12_claque_21 : decode prog_14_method_106_code 21 = .ok (.invokestatic 56, 3) := by decide +kernel
theorem dX12_claque_24 : decode prog_14_method_106_code 24 = .ok (.ifCond .eq 25, 3) := by decide +kernel
theorem dX12_claque_27 : decode prog_14_method_106_code 27 = .ok (.iload_n 2, 1) := by decide +kernel
theorem dX12_claque_28 : decode prog_14_method_106_code 28 = .ok (.iconst 0, 1) := by decide +kernel
theorem dX12_claque_29 : decode prog_14_method_106_code 29 = .ok (.bipush 12, 2) := by decide +kernel
theorem dX12_claque_31 : decode prog_14_method_106_code 31 = .ok (.invokestatic 56, 3) := by decide +kernel
theorem dX12_claque_34 : decode prog_14_method_106_code 34 = .ok (.ifCond .eq 15, 3) := by decide +kernel
theorem dX12_claque_37 : decode prog_14_method_106_code 37 = .ok (.aload_n 0, 1) := by decide +kernel
theorem dX12_claque_38 : decode prog_14_method_106_code 38 = .ok (.getfield 7, 3) := by decide +kernel
theorem dX12_claque_41 : decode prog_14_method_106_code 41 = .ok (.bipush 44, 2) := by decide +kernel
theorem dX12_claque_43 : decode prog_14_method_106_code 43 = .ok (.iaload, 1) := by decide +kernel
theorem dX12_claque_44 : decode prog_14_method_106_code 44 = .ok (.bipush 8, 2) := by decide +kernel
theorem dX12_claque_46 : decode prog_14_method_106_code 46 = .ok (.if_icmp .ne 5, 3) := by decide +kernel
theorem dX12_claque_49 : decode prog_14_method_106_code 49 = .ok (.iconst (-1), 1) := by decide +kernel
theorem dX12_claque_50 : decode prog_14_method_106_code 50 = .ok (.ireturn, 1) := by decide +kernel
theorem dX12_claque_51 : decode prog_14_method_106_code 51 = .ok (.aload_n 0, 1) := by decide +kernel
theorem dX12_claque_52 : decode prog_14_method_106_code 52 = .ok (.getfield 7, 3) := by decide +kernel
theorem dX12_claque_55 : decode prog_14_method_106_code 55 = .ok (.sipush 197, 3) := by decide +kernel
theorem dX12_claque_58 : decode prog_14_method_106_code 58 = .ok (.iconst 2, 1) := by decide +kernel
theorem dX12_claque_59 : decode prog_14_method_106_code 59 = .ok (.aload_n 0, 1) := by decide +kernel
theorem dX12_claque_60 : decode prog_14_method_106_code 60 = .ok (.getfield 7, 3) := by decide +kernel
theorem dX12_claque_63 : decode prog_14_method_106_code 63 = .ok (.bipush 44, 2) := by decide +kernel
theorem dX12_claque_65 : decode prog_14_method_106_code 65 = .ok (.iaload, 1) := by decide +kernel
theorem dX12_claque_66 : decode prog_14_method_106_code 66 = .ok (.imul, 1) := by decide +kernel
theorem dX12_claque_67 : decode prog_14_method_106_code 67 = .ok (.iadd, 1) := by decide +kernel
theorem dX12_claque_68 : decode prog_14_method_106_code 68 = .ok (.iload_n 1, 1) := by decide +kernel
theorem dX12_claque_69 : decode prog_14_method_106_code 69 = .ok (.iastore, 1) := by decide +kernel
theorem dX12_claque_70 : decode prog_14_method_106_code 70 = .ok (.aload_n 0, 1) := by decide +kernel
theorem dX12_claque_71 : decode prog_14_method_106_code 71 = .ok (.getfield 7, 3) := by decide +kernel
theorem dX12_claque_74 : decode prog_14_method_106_code 74 = .ok (.sipush 197, 3) := by decide +kernel
theorem dX12_claque_77 : decode prog_14_method_106_code 77 = .ok (.iconst 2, 1) := by decide +kernel
theorem dX12_claque_78 : decode prog_14_method_106_code 78 = .ok (.aload_n 0, 1) := by decide +kernel
theorem dX12_claque_79 : decode prog_14_method_106_code 79 = .ok (.getfield 7, 3) := by decide +kernel
theorem dX12_claque_82 : decode prog_14_method_106_code 82 = .ok (.bipush 44, 2) := by decide +kernel
theorem dX12_claque_84 : decode prog_14_method_106_code 84 = .ok (.iaload, 1) := by decide +kernel
theorem dX12_claque_85 : decode prog_14_method_106_code 85 = .ok (.imul, 1) := by decide +kernel
theorem dX12_claque_86 : decode prog_14_method_106_code 86 = .ok (.iadd, 1) := by decide +kernel
theorem dX12_claque_87 : decode prog_14_method_106_code 87 = .ok (.iconst 1, 1) := by decide +kernel
theorem dX12_claque_88 : decode prog_14_method_106_code 88 = .ok (.iadd, 1) := by decide +kernel
theorem dX12_claque_89 : decode prog_14_method_106_code 89 = .ok (.iload_n 2, 1) := by decide +kernel
theorem dX12_claque_90 : decode prog_14_method_106_code 90 = .ok (.iastore, 1) := by decide +kernel
theorem dX12_claque_91 : decode prog_14_method_106_code 91 = .ok (.aload_n 0, 1) := by decide +kernel
theorem dX12_claque_92 : decode prog_14_method_106_code 92 = .ok (.getfield 7, 3) := by decide +kernel
theorem dX12_claque_95 : decode prog_14_method_106_code 95 = .ok (.bipush 44, 2) := by decide +kernel
theorem dX12_claque_97 : decode prog_14_method_106_code 97 = .ok (.dup2, 1) := by decide +kernel
theorem dX12_claque_98 : decode prog_14_method_106_code 98 = .ok (.iaload, 1) := by decide +kernel
theorem dX12_claque_99 : decode prog_14_method_106_code 99 = .ok (.iconst 1, 1) := by decide +kernel
theorem dX12_claque_100 : decode prog_14_method_106_code 100 = .ok (.iadd, 1) := by decide +kernel
theorem dX12_claque_101 : decode prog_14_method_106_code 101 = .ok (.iastore, 1) := by decide +kernel
theorem dX12_claque_102 : decode prog_14_method_106_code 102 = .ok (.aload_n 0, 1) := by decide +kernel
theorem dX12_claque_103 : decode prog_14_method_106_code 103 = .ok (.getfield 7, 3) := by decide +kernel
theorem dX12_claque_106 : decode prog_14_method_106_code 106 = .ok (.bipush 44, 2) := by decide +kernel
theorem dX12_claque_108 : decode prog_14_method_106_code 108 = .ok (.iaload, 1) := by decide +kernel
theorem dX12_claque_109 : decode prog_14_method_106_code 109 = .ok (.ireturn, 1) := by decide +kernel
theorem dX12_couldBe_0 : decode prog_14_method_107_code 0 = .ok (.iconst 0, 1) := by decide +kernel
theorem dX12_couldBe_1 : decode prog_14_method_107_code 1 = .ok (.istore_n 2, 1) := by decide +kernel
theorem dX12_couldBe_2 : decode prog_14_method_107_code 2 = .ok (.iload_n 2, 1) := by decide +kernel
theorem dX12_couldBe_3 : decode prog_14_method_107_code 3 = .ok (.aload_n 0, 1) := by decide +kernel
theorem dX12_couldBe_4 : decode prog_14_method_107_code 4 = .ok (.getfield 7, 3) := by decide +kernel
theorem dX12_couldBe_7 : decode prog_14_method_107_code 7 = .ok (.bipush 44, 2) := by decide +kernel
theorem dX12_couldBe_9 : decode prog_14_method_107_code 9 = .ok (.iaload, 1) := by decide +kernel
theorem dX12_couldBe_10 : decode prog_14_method_107_code 10 = .ok (.if_icmp .ge 45, 3) := by decide +kernel
theorem dX12_couldBe_13 : decode prog_14_method_107_code 13 = .ok (.iload_n 1, 1) := by decide +kernel
theorem dX12_couldBe_14 : decode prog_14_method_107_code 14 = .ok (.aload_n 0, 1) := by decide +kernel
theorem dX12_couldBe_15 : decode prog_14_method_107_code 15 = .ok (.getfield 7, 3) := by decide +kernel
theorem dX12_couldBe_18 : decode prog_14_method_107_code 18 = .ok (.sipush 197, 3) := by decide +kernel
theorem dX12_couldBe_21 : decode prog_14_method_107_code 21 = .ok (.iconst 2, 1) := by decide +kernel
theorem dX12_couldBe_22 : decode prog_14_method_107_code 22 = .ok (.iload_n 2, 1) := by decide +kernel
theorem dX12_couldBe_23 : decode prog_14_method_107_code 23 = .ok (.imul, 1) := by decide +kernel
theorem dX12_couldBe_24 : decode prog_14_method_107_code 24 = .ok (.iadd, 1) := by decide +kernel
theorem dX12_couldBe_25 : decode prog_14_method_107_code 25 = .ok (.iaload, 1) := by decide +kernel
theorem dX12_couldBe_26 : decode prog_14_method_107_code 26 = .ok (.iand, 1) := by decide +kernel
theorem dX12_couldBe_27 : decode prog_14_method_107_code 27 = .ok (.invokestatic 319, 3) := by decide +kernel
theorem dX12_couldBe_30 : decode prog_14_method_107_code 30 = .ok (.aload_n 0, 1) := by decide +kernel
theorem dX12_couldBe_31 : decode prog_14_method_107_code 31 = .ok (.getfield 7, 3) := by decide +kernel
theorem dX12_couldBe_34 : decode prog_14_method_107_code 34 = .ok (.sipush 197, 3) := by decide +kernel
theorem dX12_couldBe_37 : decode prog_14_method_107_code 37 = .ok (.iconst 2, 1) := by decide +kernel
theorem dX12_couldBe_38 : decode prog_14_method_107_code 38 = .ok (.iload_n 2, 1) := by decide +kernel
theorem dX12_couldBe_39 : decode prog_14_method_107_code 39 = .ok (.imul, 1) := by decide +kernel
theorem dX12_couldBe_40 : decode prog_14_method_107_code 40 = .ok (.iadd, 1) := by decide +kernel
theorem dX12_couldBe_41 : decode prog_14_method_107_code 41 = .ok (.iconst 1, 1) := by decide +kernel
theorem dX12_couldBe_42 : decode prog_14_method_107_code 42 = .ok (.iadd, 1) := by decide +kernel
theorem dX12_couldBe_43 : decode prog_14_method_107_code 43 = .ok (.iaload, 1) := by decide +kernel
theorem dX12_couldBe_44 : decode prog_14_method_107_code 44 = .ok (.if_icmp .eq 5, 3) := by decide +kernel
theorem dX12_couldBe_47 : decode prog_14_method_107_code 47 = .ok (.iconst 0, 1) := by decide +kernel
theorem dX12_couldBe_48 : decode prog_14_method_107_code 48 = .ok (.ireturn, 1) := by decide +kernel
theorem dX12_couldBe_49 : decode prog_14_method_107_code 49 = .ok (.iinc 2 1, 3) := by decide +kernel
theorem dX12_couldBe_52 : decode prog_14_method_107_code 52 = .ok (.goto (-50), 3) := by decide +kernel
theorem dX12_couldBe_55 : decode prog_14_method_107_code 55 = .ok (.iconst 1, 1) := by decide +kernel
theorem dX12_couldBe_56 : decode prog_14_method_107_code 56 = .ok (.ireturn, 1) := by decide +kernel
theorem dX12_bestAsked_0 : decode prog_14_method_108_code 0 = .ok (.iconst (-1), 1) := by decide +kernel
theorem dX12_bestAsked_1 : decode prog_14_method_108_code 1 = .ok (.istore_n 2, 1) := by decide +kernel
theorem dX12_bestAsked_2 : decode prog_14_method_108_code 2 = .ok (.iconst 0, 1) := by decide +kernel
theorem dX12_bestAsked_3 : decode prog_14_method_108_code 3 = .ok (.istore_n 3, 1) := by decide +kernel
theorem dX12_bestAsked_4 : decode prog_14_method_108_code 4 = .ok (.iload_n 3, 1) := by decide +kernel
theorem dX12_bestAsked_5 : decode prog_14_method_108_code 5 = .ok (.aload_n 0, 1) := by decide +kernel
theorem dX12_bestAsked_6 : decode prog_14_method_108_code 6 = .ok (.getfield 7, 3) := by decide +kernel
theorem dX12_bestAsked_9 : decode prog_14_method_108_code 9 = .ok (.bipush 37, 2) := by decide +kernel
theorem dX12_bestAsked_11 : decode prog_14_method_108_code 11 = .ok (.iaload, 1) := by decide +kernel
theorem dX12_bestAsked_12 : decode prog_14_method_108_code 12 = .ok (.if_icmp .ge 53, 3) := by decide +kernel
theorem dX12_bestAsked_15 : decode prog_14_method_108_code 15 = .ok (.iload_n 2, 1) := by decide +kernel
theorem dX12_bestAsked_16 : decode prog_14_method_108_code 16 = .ok (.iconst (-1), 1) := by decide +kernel
theorem dX12_bestAsked_17 : decode prog_14_method_108_code 17 = .ok (.if_icmp .eq 40, 3) := by decide +kernel
theorem dX12_bestAsked_20 : decode prog_14_method_108_code 20 = .ok (.aload_n 0, 1) := by decide +kernel
theorem dX12_bestAsked_21 : decode prog_14_method_108_code 21 = .ok (.getfield 50, 3) := by decide +kernel
theorem dX12_bestAsked_24 : decode prog_14_method_108_code 24 = .ok (.iload_n 3, 1) := by decide +kernel
theorem dX12_bestAsked_25 : decode prog_14_method_108_code 25 = .ok (.iaload, 1) := by decide +kernel
theorem dX12_bestAsked_26 : decode prog_14_method_108_code 26 = .ok (.iload_n 1, 1) := by decide +kernel
theorem dX12_bestAsked_27 : decode prog_14_method_108_code 27 = .ok (.aload_n 0, 1) := by decide +kernel
theorem dX12_bestAsked_28 : decode prog_14_method_108_code 28 = .ok (.getfield 50, 3) := by decide +kernel
theorem dX12_bestAsked_31 : decode prog_14_method_108_code 31 = .ok (.iload_n 3, 1) := by decide +kernel
theorem dX12_bestAsked_32 : decode prog_14_method_108_code 32 = .ok (.iaload, 1) := by decide +kernel
theorem dX12_bestAsked_33 : decode prog_14_method_108_code 33 = .ok (.isub, 1) := by decide +kernel
theorem dX12_bestAsked_34 : decode prog_14_method_108_code 34 = .ok (.invokestatic 290, 3) := by decide +kernel
theorem dX12_bestAsked_37 : decode prog_14_method_108_code 37 = .ok (.aload_n 0, 1) := by decide +kernel
theorem dX12_bestAsked_38 : decode prog_14_method_108_code 38 = .ok (.getfield 50, 3) := by decide +kernel
theorem dX12_bestAsked_41 : decode prog_14_method_108_code 41 = .ok (.iload_n 2, 1) := by decide +kernel
theorem dX12_bestAsked_42 : decode prog_14_method_108_code 42 = .ok (.iaload, 1) := by decide +kernel
theorem dX12_bestAsked_43 : decode prog_14_method_108_code 43 = .ok (.iload_n 1, 1) := by decide +kernel
theorem dX12_bestAsked_44 : decode prog_14_method_108_code 44 = .ok (.aload_n 0, 1) := by decide +kernel
theorem dX12_bestAsked_45 : decode prog_14_method_108_code 45 = .ok (.getfield 50, 3) := by decide +kernel
theorem dX12_bestAsked_48 : decode prog_14_method_108_code 48 = .ok (.iload_n 2, 1) := by decide +kernel
theorem dX12_bestAsked_49 : decode prog_14_method_108_code 49 = .ok (.iaload, 1) := by decide +kernel
theorem dX12_bestAsked_50 : decode prog_14_method_108_code 50 = .ok (.isub, 1) := by decide +kernel
theorem dX12_bestAsked_51 : decode prog_14_method_108_code 51 = .ok (.invokestatic 290, 3) := by decide +kernel
theorem dX12_bestAsked_54 : decode prog_14_method_108_code 54 = .ok (.if_icmp .ge 5, 3) := by decide +kernel
theorem dX12_bestAsked_57 : decode prog_14_method_108_code 57 = .ok (.iload_n 3, 1) := by decide +kernel
theorem dX12_bestAsked_58 : decode prog_14_method_108_code 58 = .ok (.istore_n 2, 1) := by decide +kernel
theorem dX12_bestAsked_59 : decode prog_14_method_108_code 59 = .ok (.iinc 3 1, 3) := by decide +kernel
theorem dX12_bestAsked_62 : decode prog_14_method_108_code 62 = .ok (.goto (-58), 3) := by decide +kernel
theorem dX12_bestAsked_65 : decode prog_14_method_108_code 65 = .ok (.iload_n 2, 1) := by decide +kernel
theorem dX12_bestAsked_66 : decode prog_14_method_108_code 66 = .ok (.ireturn, 1) := by decide +kernel
theorem dX12_fits_0 : decode prog_14_method_109_code 0 = .ok (.iload_n 1, 1) := by decide +kernel
theorem dX12_fits_1 : decode prog_14_method_109_code 1 = .ok (.iconst 0, 1) := by decide +kernel
theorem dX12_fits_2 : decode prog_14_method_109_code 2 = .ok (.iconst 3, 1) := by decide +kernel
theorem dX12_fits_3 : decode prog_14_method_109_code 3 = .ok (.invokestatic 56, 3) := by decide +kernel
theorem dX12_fits_6 : decode prog_14_method_109_code 6 = .ok (.ifCond .ne 5, 3) := by decide +kernel
theorem dX12_fits_9 : decode prog_14_method_109_code 9 = .ok (.iconst (-1), 1) := by decide +kernel
theorem dX12_fits_10 : decode prog_14_method_109_code 10 = .ok (.ireturn, 1) := by decide +kernel
theorem dX12_fits_11 : decode prog_14_method_109_code 11 = .ok (.iconst 0, 1) := by decide +kernel
theorem dX12_fits_12 : decode prog_14_method_109_code 12 = .ok (.istore_n 2, 1) := by decide +kernel
theorem dX12_fits_13 : decode prog_14_method_109_code 13 = .ok (.iload_n 2, 1) := by decide +kernel
theorem dX12_fits_14 : decode prog_14_method_109_code 14 = .ok (.bipush 12, 2) := by decide +kernel
theorem dX12_fits_16 : decode prog_14_method_109_code 16 = .ok (.if_icmp .ge 16, 3) := by decide +kernel
theorem dX12_fits_19 : decode prog_14_method_109_code 19 = .ok (.aload_n 0, 1) := by decide +kernel
theorem dX12_fits_20 : decode prog_14_method_109_code 20 = .ok (.getfield 50, 3) := by decide +kernel
theorem dX12_fits_23 : decode prog_14_method_109_code 23 = .ok (.iload_n 2, 1) := by decide +kernel
theorem dX12_fits_24 : decode prog_14_method_109_code 24 = .ok (.iconst 0, 1) := by decide +kernel
theorem dX12_fits_25 : decode prog_14_method_109_code 25 = .ok (.iastore, 1) := by decide +kernel
theorem dX12_fits_26 : decode prog_14_method_109_code 26 = .ok (.iinc 2 1, 3) := by decide +kernel
theorem dX12_fits_29 : decode prog_14_method_109_code 29 = .ok (.goto (-16), 3) := by decide +kernel
theorem dX12_fits_32 : decode prog_14_method_109_code 32 = .ok (.iconst 0, 1) := by decide +kernel
theorem dX12_fits_33 : decode prog_14_method_109_code 33 = .ok (.istore_n 2, 1) := by decide +kernel
theorem dX12_fits_34 : decode prog_14_method_109_code 34 = .ok (.iconst (-1), 1) := by decide +kernel
theorem dX12_fits_35 : decode prog_14_method_109_code 35 = .ok (.istore_n 3, 1) := by decide +kernel
theorem dX12_fits_36 : decode prog_14_method_109_code 36 = .ok (.iconst (-1), 1) := by decide +kernel
theorem dX12_fits_37 : decode prog_14_method_109_code 37 = .ok (.istore 4, 2) := by decide +kernel
theorem dX12_fits_39 : decode prog_14_method_109_code 39 = .ok (.iconst 0, 1) := by decide +kernel
theorem dX12_fits_40 : decode prog_14_method_109_code 40 = .ok (.istore 5, 2) := by decide +kernel
theorem dX12_fits_42 : decode prog_14_method_109_code 42 = .ok (.iload 5, 2) := by decide +kernel
theorem dX12_fits_44 : decode prog_14_method_109_code 44 = .ok (.aload_n 0, 1) := by decide +kernel
theorem dX12_fits_45 : decode prog_14_method_109_code 45 = .ok (.invokevirtual 405, 3) := by decide +kernel
theorem dX12_fits_48 : decode prog_14_method_109_code 48 = .ok (.if_icmp .gt 78, 3) := by decide +kernel
theorem dX12_fits_51 : decode prog_14_method_109_code 51 = .ok (.aload_n 0, 1) := by decide +kernel
theorem dX12_fits_52 : decode prog_14_method_109_code 52 = .ok (.iload 5, 2) := by decide +kernel
theorem dX12_fits_54 : decode prog_14_method_109_code 54 = .ok (.invokevirtual 408, 3) := by decide +kernel
theorem dX12_fits_57 : decode prog_14_method_109_code 57 = .ok (.ifCond .ne 6, 3) := by decide +kernel
theorem dX12_fits_60 : decode prog_14_method_109_code 60 = .ok (.goto 60, 3) := by decide +kernel
theorem dX12_fits_63 : decode prog_14_method_109_code 63 = .ok (.iinc 2 1, 3) := by decide +kernel
theorem dX12_fits_66 : decode prog_14_method_109_code 66 = .ok (.iload_n 3, 1) := by decide +kernel
theorem dX12_fits_67 : decode prog_14_method_109_code 67 = .ok (.iconst (-1), 1) := by decide +kernel
theorem dX12_fits_68 : decode prog_14_method_109_code 68 = .ok (.if_icmp .ne 8, 3) := by decide +kernel
theorem dX12_fits_71 : decode prog_14_method_109_code 71 = .ok (.iload 5, 2) := by decide +kernel
theorem dX12_fits_73 : decode prog_14_method_109_code 73 = .ok (.goto 4, 3) := by decide +kernel
theorem dX12_fits_76 : decode prog_14_method_109_code 76 = .ok (.iload_n 3, 1) := by decide +kernel
theorem dX12_fits_77 : decode prog_14_method_109_code 77 = .ok (.istore_n 3, 1) := by decide +kernel
theorem dX12_fits_78 : decode prog_14_method_109_code 78 = .ok (.iload 5, 2) := by decide +kernel
theorem dX12_fits_80 : decode prog_14_method_109_code 80 = .ok (.istore 4, 2) := by decide +kernel
theorem dX12_fits_82 : decode prog_14_method_109_code 82 = .ok (.iconst 0, 1) := by decide +kernel
theorem dX12_fits_83 : decode prog_14_method_109_code 83 = .ok (.istore 6, 2) := by decide +kernel
theorem dX12_fits_85 : decode prog_14_method_109_code 85 = .ok (.iload 6, 2) := by decide +kernel
theorem dX12_fits_87 : decode prog_14_method_109_code 87 = .ok (.aload_n 0, 1) := by decide +kernel
theorem dX12_fits_88 : decode prog_14_method_109_code 88 = .ok (.getfield 7, 3) := by decide +kernel
theorem dX12_fits_91 : decode prog_14_method_109_code 91 = .ok (.bipush 37, 2) := by decide +kernel
theorem dX12_fits_93 : decode prog_14_method_109_code 93 = .ok (.iaload, 1) := by decide +kernel
theorem dX12_fits_94 : decode prog_14_method_109_code 94 = .ok (.if_icmp .ge 26, 3) := by decide +kernel
theorem dX12_fits_97 : decode prog_14_method_109_code 97 = .ok (.aload_n 0, 1) := by decide +kernel
theorem dX12_fits_98 : decode prog_14_method_109_code 98 = .ok (.getfield 50, 3) := by decide +kernel
theorem dX12_fits_101 : decode prog_14_method_109_code 101 = .ok (.iload 6, 2) := by decide +kernel
theorem dX12_fits_103 : decode prog_14_method_109_code 103 = .ok (.dup2, 1) := by decide +kernel
theorem dX12_fits_104 : decode prog_14_method_109_code 104 = .ok (.iaload, 1) := by decide +kernel
theorem dX12_fits_105 : decode prog_14_method_109_code 105 = .ok (.iload 5, 2) := by decide +kernel
theorem dX12_fits_107 : decode prog_14_method_109_code 107 = .ok (.iload 6, 2) := by decide +kernel
theorem dX12_fits_109 : decode prog_14_method_109_code 109 = .ok (.ishr, 1) := by decide +kernel
theorem dX12_fits_110 : decode prog_14_method_109_code 110 = .ok (.iconst 1, 1) := by decide +kernel
theorem dX12_fits_111 : decode prog_14_method_109_code 111 = .ok (.iand, 1) := by decide +kernel
theorem dX12_fits_112 : decode prog_14_method_109_code 112 = .ok (.iadd, 1) := by decide +kernel
theorem dX12_fits_113 : decode prog_14_method_109_code 113 = .ok (.iastore, 1) := by decide +kernel
theorem dX12_fits_114 : decode prog_14_method_109_code 114 = .ok (.iinc 6 1, 3) := by decide +kernel
theorem dX12_fits_117 : decode prog_14_method_109_code 117 = .ok (.goto (-32), 3) := by decide +kernel
theorem dX12_fits_120 : decode prog_14_method_109_code 120 = .ok (.iinc 5 1, 3) := by decide +kernel
theorem dX12_fits_123 : decode prog_14_method_109_code 123 = .ok (.goto (-81), 3) := by decide +kernel
theorem dX12_fits_126 : decode prog_14_method_109_code 126 = .ok (.iload_n 1, 1) := by decide +kernel
theorem dX12_fits_127 : decode prog_14_method_109_code 127 = .ok (.tableswitch 32 0 2 #[25, 27, 29], 25) := by decide +kernel
theorem dX12_fits_152 : decode prog_14_method_109_code 152 = .ok (.iload_n 2, 1) := by decide +kernel
theorem dX12_fits_153 : decode prog_14_method_109_code 153 = .ok (.ireturn, 1) := by decide +kernel
theorem dX12_fits_154 : decode prog_14_method_109_code 154 = .ok (.iload_n 3, 1) := by decide +kernel
theorem dX12_fits_155 : decode prog_14_method_109_code 155 = .ok (.ireturn, 1) := by decide +kernel
theorem dX12_fits_156 : decode prog_14_method_109_code 156 = .ok (.iload 4, 2) := by decide +kernel
theorem dX12_fits_158 : decode prog_14_method_109_code 158 = .ok (.ireturn, 1) := by decide +kernel
theorem dX12_fits_159 : decode prog_14_method_109_code 159 = .ok (.iload_n 2, 1) := by decide +kernel
theorem dX12_fits_160 : decode prog_14_method_109_code 160 = .ok (.iconst 2, 1) := by decide +kernel
theorem dX12_fits_161 : decode prog_14_method_109_code 161 = .ok (.if_icmp .ge 7, 3) := by decide +kernel
theorem dX12_fits_164 : decode prog_14_method_109_code 164 = .ok (.iconst (-1), 1) := by decide +kernel
theorem dX12_fits_165 : decode prog_14_method_109_code 165 = .ok (.goto 8, 3) := by decide +kernel
theorem dX12_fits_168 : decode prog_14_method_109_code 168 = .ok (.aload_n 0, 1) := by decide +kernel
theorem dX12_fits_169 : decode prog_14_method_109_code 169 = .ok (.iload_n 2, 1) := by decide +kernel
theorem dX12_fits_170 : decode prog_14_method_109_code 170 = .ok (.invokevirtual 411, 3) := by decide +kernel
theorem dX12_fits_173 : decode prog_14_method_109_code 173 = .ok (.ireturn, 1) := by decide +kernel
theorem dX12_nearTo_0 : decode prog_14_method_110_code 0 = .ok (.iload_n 1, 1) := by decide +kernel
theorem dX12_nearTo_1 : decode prog_14_method_110_code 1 = .ok (.istore 4, 2) := by decide +kernel
theorem dX12_nearTo_3 : decode prog_14_method_110_code 3 = .ok (.iconst 0, 1) := by decide +kernel
theorem dX12_nearTo_4 : decode prog_14_method_110_code 4 = .ok (.istore 5, 2) := by decide +kernel
theorem dX12_nearTo_6 : decode prog_14_method_110_code 6 = .ok (.iload 5, 2) := by decide +kernel
theorem dX12_nearTo_8 : decode prog_14_method_110_code 8 = .ok (.iload_n 2, 1) := by decide +kernel
theorem dX12_nearTo_9 : decode prog_14_method_110_code 9 = .ok (.if_icmp .ge 73, 3) := by decide +kernel
theorem dX12_nearTo_12 : decode prog_14_method_110_code 12 = .ok (.iload 4, 2) := by decide +kernel
theorem dX12_nearTo_14 : decode prog_14_method_110_code 14 = .ok (.istore 6, 2) := by decide +kernel
theorem dX12_nearTo_16 : decode prog_14_method_110_code 16 = .ok (.iconst 0, 1) := by decide +kernel
theorem dX12_nearTo_17 : decode prog_14_method_110_code 17 = .ok (.istore 7, 2) := by decide +kernel
theorem dX12_nearTo_19 : decode prog_14_method_110_code 19 = .ok (.iload 7, 2) := by decide +kernel
theorem dX12_nearTo_21 : decode prog_14_method_110_code 21 = .ok (.aload_n 0, 1) := by decide +kernel
theorem dX12_nearTo_22 : decode prog_14_method_110_code 22 = .ok (.getfield 7, 3) := by decide +kernel
theorem dX12_nearTo_25 : decode prog_14_method_110_code 25 = .ok (.bipush 37, 2) := by decide +kernel
theorem dX12_nearTo_27 : decode prog_14_method_110_code 27 = .ok (.iaload, 1) := by decide +kernel
theorem dX12_nearTo_28 : decode prog_14_method_110_code 28 = .ok (.if_icmp .ge 44, 3) := by decide +kernel
theorem dX12_nearTo_31 : decode prog_14_method_110_code 31 = .ok (.iload 6, 2) := by decide +kernel
theorem dX12_nearTo_33 : decode prog_14_method_110_code 33 = .ok (.iload 4, 2) := by decide +kernel
theorem dX12_nearTo_35 : decode prog_14_method_110_code 35 = .ok (.iload 7, 2) := by decide +kernel
theorem dX12_nearTo_37 : decode prog_14_method_110_code 37 = .ok (.ishr, 1) := by decide +kernel
theorem dX12_nearTo_38 : decode prog_14_method_110_code 38 = .ok (.iconst 1, 1) := by decide +kernel
theorem dX12_nearTo_39 : decode prog_14_method_110_code 39 = .ok (.iand, 1) := by decide +kernel
theorem dX12_nearTo_40 : decode prog_14_method_110_code 40 = .ok (.iconst 1, 1) := by decide +kernel
theorem dX12_nearTo_41 : decode prog_14_method_110_code 41 = .ok (.if_icmp .ne 21, 3) := by decide +kernel
theorem dX12_nearTo_44 : decode prog_14_method_110_code 44 = .ok (.aload_n 0, 1) := by decide +kernel
theorem dX12_nearTo_45 : decode prog_14_method_110_code 45 = .ok (.getfield 7, 3) := by decide +kernel
theorem dX12_nearTo_48 : decode prog_14_method_110_code 48 = .ok (.sipush 185, 3) := by decide +kernel
theorem dX12_nearTo_51 : decode prog_14_method_110_code 51 = .ok (.iload 7, 2) := by decide +kernel
theorem dX12_nearTo_53 : decode prog_14_method_110_code 53 = .ok (.iadd, 1) := by decide +kernel
theorem dX12_nearTo_54 : decode prog_14_method_110_code 54 = .ok (.iaload, 1) := by decide +kernel
theorem dX12_nearTo_55 : decode prog_14_method_110_code 55 = .ok (.iload_n 3, 1) := by decide +kernel
theorem dX12_nearTo_56 : decode prog_14_method_110_code 56 = .ok (.iconst (-1), 1) := by decide +kernel
theorem dX12_nearTo_57 : decode prog_14_method_110_code 57 = .ok (.ixor, 1) := by decide +kernel
theorem dX12_nearTo_58 : decode prog_14_method_110_code 58 = .ok (.iand, 1) := by decide +kernel
theorem dX12_nearTo_59 : decode prog_14_method_110_code 59 = .ok (.goto 4, 3) := by decide +kernel
theorem dX12_nearTo_62 : decode prog_14_method_110_code 62 = .ok (.iconst 0, 1) := by decide +kernel
theorem dX12_nearTo_63 : decode prog_14_method_110_code 63 = .ok (.ior, 1) := by decide +kernel
theorem dX12_nearTo_64 : decode prog_14_method_110_code 64 = .ok (.istore 6, 2) := by decide +kernel
theorem dX12_nearTo_66 : decode prog_14_method_110_code 66 = .ok (.iinc 7 1, 3) := by decide +kernel
theorem dX12_nearTo_69 : decode prog_14_method_110_code 69 = .ok (.goto (-50), 3) := by decide +kernel
theorem dX12_nearTo_72 : decode prog_14_method_110_code 72 = .ok (.iload 6, 2) := by decide +kernel
theorem dX12_nearTo_74 : decode prog_14_method_110_code 74 = .ok (.istore 4, 2) := by decide +kernel
theorem dX12_nearTo_76 : decode prog_14_method_110_code 76 = .ok (.iinc 5 1, 3) := by decide +kernel
theorem dX12_nearTo_79 : decode prog_14_method_110_code 79 = .ok (.goto (-73), 3) := by decide +kernel
theorem dX12_nearTo_82 : decode prog_14_method_110_code 82 = .ok (.iload 4, 2) := by decide +kernel
theorem dX12_nearTo_84 : decode prog_14_method_110_code 84 = .ok (.ireturn, 1) := by decide +kernel
theorem dX12_near_0 : decode prog_14_method_111_code 0 = .ok (.aload_n 0, 1) := by decide +kernel
theorem dX12_near_1 : decode prog_14_method_111_code 1 = .ok (.iload_n 1, 1) := by decide +kernel
theorem dX12_near_2 : decode prog_14_method_111_code 2 = .ok (.invokevirtual 68, 3) := by decide +kernel
theorem dX12_near_5 : decode prog_14_method_111_code 5 = .ok (.ifCond .eq 25, 3) := by decide +kernel
theorem dX12_near_8 : decode prog_14_method_111_code 8 = .ok (.iload_n 2, 1) := by decide +kernel
theorem dX12_near_9 : decode prog_14_method_111_code 9 = .ok (.iconst 0, 1) := by decide +kernel
theorem dX12_near_10 : decode prog_14_method_111_code 10 = .ok (.bipush 12, 2) := by decide +kernel
theorem dX12_near_12 : decode prog_14_method_111_code 12 = .ok (.invokestatic 56, 3) := by decide +kernel
theorem dX12_near_15 : decode prog_14_method_111_code 15 = .ok (.ifCond .eq 15, 3) := by decide +kernel
theorem dX12_near_18 : decode prog_14_method_111_code 18 = .ok (.aload_n 0, 1) := by decide +kernel
theorem dX12_near_19 : decode prog_14_method_111_code 19 = .ok (.iconst 1, 1) := by decide +kernel
theorem dX12_near_20 : decode prog_14_method_111_code 20 = .ok (.iload_n 1, 1) := by decide +kernel
theorem dX12_near_21 : decode prog_14_method_111_code 21 = .ok (.ishl, 1) := by decide +kernel
theorem dX12_near_22 : decode prog_14_method_111_code 22 = .ok (.iload_n 2, 1) := by decide +kernel
theorem dX12_near_23 : decode prog_14_method_111_code 23 = .ok (.iconst 0, 1) := by decide +kernel
theorem dX12_near_24 : decode prog_14_method_111_code 24 = .ok (.invokevirtual 414, 3) := by decide +kernel
theorem dX12_near_27 : decode prog_14_method_111_code 27 = .ok (.goto 4, 3) := by decide +kernel
theorem dX12_near_30 : decode prog_14_method_111_code 30 = .ok (.iconst (-1), 1) := by decide +kernel
theorem dX12_near_31 : decode prog_14_method_111_code 31 = .ok (.ireturn, 1) := by decide +kernel
theorem dX12_cuts_0 : decode prog_14_method_112_code 0 = .ok (.aload_n 0, 1) := by decide +kernel
theorem dX12_cuts_1 : decode prog_14_method_112_code 1 = .ok (.iload_n 1, 1) := by decide +kernel
theorem dX12_cuts_2 : decode prog_14_method_112_code 2 = .ok (.invokevirtual 68, 3) := by decide +kernel
theorem dX12_cuts_5 : decode prog_14_method_112_code 5 = .ok (.ifCond .eq 43, 3) := by decide +kernel
theorem dX12_cuts_8 : decode prog_14_method_112_code 8 = .ok (.aload_n 0, 1) := by decide +kernel
theorem dX12_cuts_9 : decode prog_14_method_112_code 9 = .ok (.iload_n 2, 1) := by decide +kernel
theorem dX12_cuts_10 : decode prog_14_method_112_code 10 = .ok (.invokevirtual 68, 3) := by decide +kernel
theorem dX12_cuts_13 : decode prog_14_method_112_code 13 = .ok (.ifCond .eq 35, 3) := by decide +kernel
theorem dX12_cuts_16 : decode prog_14_method_112_code 16 = .ok (.iload_n 1, 1) := by decide +kernel
theorem dX12_cuts_17 : decode prog_14_method_112_code 17 = .ok (.iload_n 2, 1) := by decide +kernel
theorem dX12_cuts_18 : decode prog_14_method_112_code 18 = .ok (.if_icmp .eq 30, 3) := by decide +kernel
theorem dX12_cuts_21 : decode prog_14_method_112_code 21 = .ok (.iload_n 3, 1) := by decide +kernel
theorem dX12_cuts_22 : decode prog_14_method_112_code 22 = .ok (.iconst 0, 1) := by decide +kernel
theorem dX12_cuts_23 : decode prog_14_method_112_code 23 = .ok (.iconst 1, 1) := by decide +kernel
theorem dX12_cuts_24 : decode prog_14_method_112_code 24 = .ok (.invokestatic 56, 3) := by decide +kernel
theorem dX12_cuts_27 : decode prog_14_method_112_code 27 = .ok (.ifCond .eq 21, 3) := by decide +kernel
theorem dX12_cuts_30 : decode prog_14_method_112_code 30 = .ok (.aload_n 0, 1) := by decide +kernel
theorem dX12_cuts_31 : decode prog_14_method_112_code 31 = .ok (.getfield 7, 3) := by decide +kernel
theorem dX12_cuts_34 : decode prog_14_method_112_code 34 = .ok (.sipush 185, 3) := by decide +kernel
theorem dX12_cuts_37 : decode prog_14_method_112_code 37 = .ok (.iload_n 1, 1) := by decide +kernel
theorem dX12_cuts_38 : decode prog_14_method_112_code 38 = .ok (.iadd, 1) := by decide +kernel
theorem dX12_cuts_39 : decode prog_14_method_112_code 39 = .ok (.iaload, 1) := by decide +kernel
theorem dX12_cuts_40 : decode prog_14_method_112_code 40 = .ok (.iload_n 2, 1) := by decide +kernel
theorem dX12_cuts_41 : decode prog_14_method_112_code 41 = .ok (.ishr, 1) := by decide +kernel
theorem dX12_cuts_42 : decode prog_14_method_112_code 42 = .ok (.iconst 1, 1) := by decide +kernel
theorem dX12_cuts_43 : decode prog_14_method_112_code 43 = .ok (.iand, 1) := by decide +kernel
theorem dX12_cuts_44 : decode prog_14_method_112_code 44 = .ok (.iconst 1, 1) := by decide +kernel
theorem dX12_cuts_45 : decode prog_14_method_112_code 45 = .ok (.if_icmp .ne 5, 3) := by decide +kernel
theorem dX12_cuts_48 : decode prog_14_method_112_code 48 = .ok (.iconst (-1), 1) := by decide +kernel
theorem dX12_cuts_49 : decode prog_14_method_112_code 49 = .ok (.ireturn, 1) := by decide +kernel
theorem dX12_cuts_50 : decode prog_14_method_112_code 50 = .ok (.iconst 1, 1) := by decide +kernel
theorem dX12_cuts_51 : decode prog_14_method_112_code 51 = .ok (.iload_n 1, 1) := by decide +kernel
theorem dX12_cuts_52 : decode prog_14_method_112_code 52 = .ok (.ishl, 1) := by decide +kernel
theorem dX12_cuts_53 : decode prog_14_method_112_code 53 = .ok (.iconst 1, 1) := by decide +kernel
theorem dX12_cuts_54 : decode prog_14_method_112_code 54 = .ok (.iload_n 2, 1) := by decide +kernel
theorem dX12_cuts_55 : decode prog_14_method_112_code 55 = .ok (.ishl, 1) := by decide +kernel
theorem dX12_cuts_56 : decode prog_14_method_112_code 56 = .ok (.ior, 1) := by decide +kernel
theorem dX12_cuts_57 : decode prog_14_method_112_code 57 = .ok (.istore 4, 2) := by decide +kernel
theorem dX12_cuts_59 : decode prog_14_method_112_code 59 = .ok (.iconst (-1), 1) := by decide +kernel
theorem dX12_cuts_60 : decode prog_14_method_112_code 60 = .ok (.istore 5, 2) := by decide +kernel
theorem dX12_cuts_62 : decode prog_14_method_112_code 62 = .ok (.iconst 0, 1) := by decide +kernel
theorem dX12_cuts_63 : decode prog_14_method_112_code 63 = .ok (.istore 6, 2) := by decide +kernel
theorem dX12_cuts_65 : decode prog_14_method_112_code 65 = .ok (.iload 6, 2) := by decide +kernel
theorem dX12_cuts_67 : decode prog_14_method_112_code 67 = .ok (.aload_n 0, 1) := by decide +kernel
theorem dX12_cuts_68 : decode prog_14_method_112_code 68 = .ok (.invokevirtual 405, 3) := by decide +kernel
theorem dX12_cuts_71 : decode prog_14_method_112_code 71 = .ok (.if_icmp .gt 82, 3) := by decide +kernel
theorem dX12_cuts_74 : decode prog_14_method_112_code 74 = .ok (.iload 6, 2) := by decide +kernel
theorem dX12_cuts_76 : decode prog_14_method_112_code 76 = .ok (.iload 4, 2) := by decide +kernel
theorem dX12_cuts_78 : decode prog_14_method_112_code 78 = .ok (.aload_n 0, 1) := by decide +kernel
theorem dX12_cuts_79 : decode prog_14_method_112_code 79 = .ok (.getfield 7, 3) := by decide +kernel
theorem dX12_cuts_82 : decode prog_14_method_112_code 82 = .ok (.bipush 8, 2) := by decide +kernel
theorem dX12_cuts_84 : decode prog_14_method_112_code 84 = .ok (.iaload, 1) := by decide +kernel
theorem dX12_cuts_85 : decode prog_14_method_112_code 85 = .ok (.ior, 1) := by decide +kernel
theorem dX12_cuts_86 : decode prog_14_method_112_code 86 = .ok (.iand, 1) := by decide +kernel
theorem dX12_cuts_87 : decode prog_14_method_112_code 87 = .ok (.ifCond .ne 60, 3) := by decide +kernel
theorem dX12_cuts_90 : decode prog_14_method_112_code 90 = .ok (.iload 5, 2) := by decide +kernel
theorem dX12_cuts_92 : decode prog_14_method_112_code 92 = .ok (.iconst (-1), 1) := by decide +kernel
theorem dX12_cuts_93 : decode prog_14_method_112_code 93 = .ok (.if_icmp .eq 19, 3) := by decide +kernel
theorem dX12_cuts_96 : decode prog_14_method_112_code 96 = .ok (.iload 6, 2) := by decide +kernel
theorem dX12_cuts_98 : decode prog_14_method_112_code 98 = .ok (.invokestatic 319, 3) := by decide +kernel
theorem dX12_cuts_101 : decode prog_14_method_112_code 101 = .ok (.iload 5, 2) := by decide +kernel
theorem dX12_cuts_103 : decode prog_14_method_112_code 103 = .ok (.invokestatic 319, 3) := by decide +kernel
theorem dX12_cuts_106 : decode prog_14_method_112_code 106 = .ok (.if_icmp .lt 6, 3) := by decide +kernel
theorem dX12_cuts_109 : decode prog_14_method_112_code 109 = .ok (.goto 38, 3) := by decide +kernel
theorem dX12_cuts_112 : decode prog_14_method_112_code 112 = .ok (.aload_n 0, 1) := by decide +kernel
theorem dX12_cuts_113 : decode prog_14_method_112_code 113 = .ok (.iconst 1, 1) := by decide +kernel
theorem dX12_cuts_114 : decode prog_14_method_112_code 114 = .ok (.iload_n 1, 1) := by decide +kernel
theorem dX12_cuts_115 : decode prog_14_method_112_code 115 = .ok (.ishl, 1) := by decide +kernel
theorem dX12_cuts_116 : decode prog_14_method_112_code 116 = .ok (.bipush 12, 2) := by decide +kernel
theorem dX12_cuts_118 : decode prog_14_method_112_code 118 = .ok (.iload 6, 2) := by decide +kernel
theorem dX12_cuts_120 : decode prog_14_method_112_code 120 = .ok (.aload_n 0, 1) := by decide +kernel
theorem dX12_cuts_121 : decode prog_14_method_112_code 121 = .ok (.getfield 7, 3) := by decide +kernel
theorem dX12_cuts_124 : decode prog_14_method_112_code 124 = .ok (.bipush 8, 2) := by decide +kernel
theorem dX12_cuts_126 : decode prog_14_method_112_code 126 = .ok (.iaload, 1) := by decide +kernel
theorem dX12_cuts_127 : decode prog_14_method_112_code 127 = .ok (.ior, 1) := by decide +kernel
theorem dX12_cuts_128 : decode prog_14_method_112_code 128 = .ok (.iload 4, 2) := by decide +kernel
theorem dX12_cuts_130 : decode prog_14_method_112_code 130 = .ok (.iconst (-1), 1) := by decide +kernel
theorem dX12_cuts_131 : decode prog_14_method_112_code 131 = .ok (.ixor, 1) := by decide +kernel
theorem dX12_cuts_132 : decode prog_14_method_112_code 132 = .ok (.iand, 1) := by decide +kernel
theorem dX12_cuts_133 : decode prog_14_method_112_code 133 = .ok (.invokevirtual 414, 3) := by decide +kernel
theorem dX12_cuts_136 : decode prog_14_method_112_code 136 = .ok (.iload_n 2, 1) := by decide +kernel
theorem dX12_cuts_137 : decode prog_14_method_112_code 137 = .ok (.ishr, 1) := by decide +kernel
theorem dX12_cuts_138 : decode prog_14_method_112_code 138 = .ok (.iconst 1, 1) := by decide +kernel
theorem dX12_cuts_139 : decode prog_14_method_112_code 139 = .ok (.iand, 1) := by decide +kernel
theorem dX12_cuts_140 : decode prog_14_method_112_code 140 = .ok (.ifCond .ne 7, 3) := by decide +kernel
theorem dX12_cuts_143 : decode prog_14_method_112_code 143 = .ok (.iload 6, 2) := by decide +kernel
theorem dX12_cuts_145 : decode prog_14_method_112_code 145 = .ok (.istore 5, 2) := by decide +kernel
theorem dX12_cuts_147 : decode prog_14_method_112_code 147 = .ok (.iinc 6 1, 3) := by decide +kernel
theorem dX12_cuts_150 : decode prog_14_method_112_code 150 = .ok (.goto (-85), 3) := by decide +kernel
theorem dX12_cuts_153 : decode prog_14_method_112_code 153 = .ok (.iload_n 3, 1) := by decide +kernel
theorem dX12_cuts_154 : decode prog_14_method_112_code 154 = .ok (.ifCond .ne 11, 3) := by decide +kernel
theorem dX12_cuts_157 : decode prog_14_method_112_code 157 = .ok (.iload 5, 2) := by decide +kernel
theorem dX12_cuts_159 : decode prog_14_method_112_code 159 = .ok (.invokestatic 319, 3) := by decide +kernel
theorem dX12_cuts_162 : decode prog_14_method_112_code 162 = .ok (.goto 5, 3) := by decide +kernel
theorem dX12_cuts_165 : decode prog_14_method_112_code 165 = .ok (.iload 5, 2) := by decide +kernel
theorem dX12_cuts_167 : decode prog_14_method_112_code 167 = .ok (.ireturn, 1) := by decide +kernel
theorem dX12_groups_0 : decode prog_14_method_113_code 0 = .ok (.iload_n 1, 1) := by decide +kernel
theorem dX12_groups_1 : decode prog_14_method_113_code 1 = .ok (.iconst 0, 1) := by decide +kernel
theorem dX12_groups_2 : decode prog_14_method_113_code 2 = .ok (.iconst 1, 1) := by decide +kernel
theorem dX12_groups_3 : decode prog_14_method_113_code 3 = .ok (.invokestatic 56, 3) := by decide +kernel
theorem dX12_groups_6 : decode prog_14_method_113_code 6 = .ok (.ifCond .ne 5, 3) := by decide +kernel
theorem dX12_groups_9 : decode prog_14_method_113_code 9 = .ok (.iconst (-1), 1) := by decide +kernel
theorem dX12_groups_10 : decode prog_14_method_113_code 10 = .ok (.ireturn, 1) := by decide +kernel
theorem dX12_groups_11 : decode prog_14_method_113_code 11 = .ok (.aload_n 0, 1) := by decide +kernel
theorem dX12_groups_12 : decode prog_14_method_113_code 12 = .ok (.invokevirtual 405, 3) := by decide +kernel
theorem dX12_groups_15 : decode prog_14_method_113_code 15 = .ok (.istore_n 2, 1) := by decide +kernel
theorem dX12_groups_16 : decode prog_14_method_113_code 16 = .ok (.iconst 0, 1) := by decide +kernel
theorem dX12_groups_17 : decode prog_14_method_113_code 17 = .ok (.istore_n 3, 1) := by decide +kernel
theorem dX12_groups_18 : decode prog_14_method_113_code 18 = .ok (.iconst 0, 1) := by decide +kernel
theorem dX12_groups_19 : decode prog_14_method_113_code 19 = .ok (.istore 4, 2) := by decide +kernel
theorem dX12_groups_21 : decode prog_14_method_113_code 21 = .ok (.iconst 0, 1) := by decide +kernel
theorem dX12_groups_22 : decode prog_14_method_113_code 22 = .ok (.istore 5, 2) := by decide +kernel
theorem dX12_groups_24 : decode prog_14_method_113_code 24 = .ok (.iload 5, 2) := by decide +kernel
theorem dX12_groups_26 : decode prog_14_method_113_code 26 = .ok (.aload_n 0, 1) := by decide +kernel
theorem dX12_groups_27 : decode prog_14_method_113_code 27 = .ok (.getfield 7, 3) := by decide +kernel
theorem dX12_groups_30 : decode prog_14_method_113_code 30 = .ok (.bipush 37, 2) := by decide +kernel
theorem dX12_groups_32 : decode prog_14_method_113_code 32 = .ok (.iaload, 1) := by decide +kernel
theorem dX12_groups_33 : decode prog_14_method_113_code 33 = .ok (.if_icmp .ge 66, 3) := by decide +kernel
theorem dX12_groups_36 : decode prog_14_method_113_code 36 = .ok (.iload_n 2, 1) := by decide +kernel
theorem dX12_groups_37 : decode prog_14_method_113_code 37 = .ok (.iload 5, 2) := by decide +kernel
theorem dX12_groups_39 : decode prog_14_method_113_code 39 = .ok (.ishr, 1) := by decide +kernel
theorem dX12_groups_40 : decode prog_14_method_113_code 40 = .ok (.iconst 1, 1) := by decide +kernel
theorem dX12_groups_41 : decode prog_14_method_113_code 41 = .ok (.iand, 1) := by decide +kernel
theorem dX12_groups_42 : decode prog_14_method_113_code 42 = .ok (.ifCond .ne 6, 3) := by decide +kernel
theorem dX12_groups_45 : decode prog_14_method_113_code 45 = .ok (.goto 48, 3) := by decide +kernel
theorem dX12_groups_48 : decode prog_14_method_113_code 48 = .ok (.aload_n 0, 1) := by decide +kernel
theorem dX12_groups_49 : decode prog_14_method_113_code 49 = .ok (.iconst 1, 1) := by decide +kernel
theorem dX12_groups_50 : decode prog_14_method_113_code 50 = .ok (.iload 5, 2) := by decide +kernel
theorem dX12_groups_52 : decode prog_14_method_113_code 52 = .ok (.ishl, 1) := by decide +kernel
theorem dX12_groups_53 : decode prog_14_method_113_code 53 = .ok (.bipush 12, 2) := by decide +kernel
theorem dX12_groups_55 : decode prog_14_method_113_code 55 = .ok (.iconst 0, 1) := by decide +kernel
theorem dX12_groups_56 : decode prog_14_method_113_code 56 = .ok (.invokevirtual 414, 3) := by decide +kernel
theorem dX12_groups_59 : decode prog_14_method_113_code 59 = .ok (.istore 6, 2) := by decide +kernel
theorem dX12_groups_61 : decode prog_14_method_113_code 61 = .ok (.iload_n 2, 1) := by decide +kernel
theorem dX12_groups_62 : decode prog_14_method_113_code 62 = .ok (.iload 6, 2) := by decide +kernel
theorem dX12_groups_64 : decode prog_14_method_113_code 64 = .ok (.iconst (-1), 1) := by decide +kernel
theorem dX12_groups_65 : decode prog_14_method_113_code 65 = .ok (.ixor, 1) := by decide +kernel
theorem dX12_groups_66 : decode prog_14_method_113_code 66 = .ok (.iand, 1) := by decide +kernel
theorem dX12_groups_67 : decode prog_14_method_113_code 67 = .ok (.istore_n 2, 1) := by decide +kernel
theorem dX12_groups_68 : decode prog_14_method_113_code 68 = .ok (.iinc 3 1, 3) := by decide +kernel
theorem dX12_groups_71 : decode prog_14_method_113_code 71 = .ok (.iload 6, 2) := by decide +kernel
theorem dX12_groups_73 : decode prog_14_method_113_code 73 = .ok (.invokestatic 319, 3) := by decide +kernel
theorem dX12_groups_76 : decode prog_14_method_113_code 76 = .ok (.iload 4, 2) := by decide +kernel
theorem dX12_groups_78 : decode prog_14_method_113_code 78 = .ok (.invokestatic 319, 3) := by decide +kernel
theorem dX12_groups_81 : decode prog_14_method_113_code 81 = .ok (.if_icmp .le 8, 3) := by decide +kernel
theorem dX12_groups_84 : decode prog_14_method_113_code 84 = .ok (.iload 6, 2) := by decide +kernel
theorem dX12_groups_86 : decode prog_14_method_113_code 86 = .ok (.goto 5, 3) := by decide +kernel
theorem dX12_groups_89 : decode prog_14_method_113_code 89 = .ok (.iload 4, 2) := by decide +kernel
theorem dX12_groups_91 : decode prog_14_method_113_code 91 = .ok (.istore 4, 2) := by decide +kernel
theorem dX12_groups_93 : decode prog_14_method_113_code 93 = .ok (.iinc 5 1, 3) := by decide +kernel
theorem dX12_groups_96 : decode prog_14_method_113_code 96 = .ok (.goto (-72), 3) := by decide +kernel
theorem dX12_groups_99 : decode prog_14_method_113_code 99 = .ok (.iload_n 1, 1) := by decide +kernel
theorem dX12_groups_100 : decode prog_14_method_113_code 100 = .ok (.ifCond .ne 7, 3) := by decide +kernel
theorem dX12_groups_103 : decode prog_14_method_113_code 103 = .ok (.iload_n 3, 1) := by decide +kernel
theorem dX12_groups_104 : decode prog_14_method_113_code 104 = .ok (.goto 5, 3) := by decide +kernel
theorem dX12_groups_107 : decode prog_14_method_113_code 107 = .ok (.iload 4, 2) := by decide +kernel
theorem dX12_groups_109 : decode prog_14_method_113_code 109 = .ok (.ireturn, 1) := by decide +kernel
theorem dX12_means_0 : decode prog_14_method_114_code 0 = .ok (.iload_n 1, 1) := by decide +kernel
theorem dX12_means_1 : decode prog_14_method_114_code 1 = .ok (.iconst 0, 1) := by decide +kernel
theorem dX12_means_2 : decode prog_14_method_114_code 2 = .ok (.bipush 9, 2) := by decide +kernel
theorem dX12_means_4 : decode prog_14_method_114_code 4 = .ok (.invokestatic 56, 3) := by decide +kernel
theorem dX12_means_7 : decode prog_14_method_114_code 7 = .ok (.ifCond .eq 13, 3) := by decide +kernel
theorem dX12_means_10 : decode prog_14_method_114_code 10 = .ok (.iload_n 2, 1) := by decide +kernel
theorem dX12_means_11 : decode prog_14_method_114_code 11 = .ok (.iconst 0, 1) := by decide +kernel
theorem dX12_means_12 : decode prog_14_method_114_code 12 = .ok (.bipush 9, 2) := by decide +kernel
theorem dX12_means_14 : decode prog_14_method_114_code 14 = .ok (.invokestatic 56, 3) := by decide +kernel
theorem dX12_means_17 : decode prog_14_method_114_code 17 = .ok (.ifCond .ne 5, 3) := by decide +kernel
theorem dX12_means_20 : decode prog_14_method_114_code 20 = .ok (.iconst 0, 1) := by decide +kernel
theorem dX12_means_21 : decode prog_14_method_114_code 21 = .ok (.ireturn, 1) := by decide +kernel
theorem dX12_means_22 : decode prog_14_method_114_code 22 = .ok (.aload_n 0, 1) := by decide +kernel
theorem dX12_means_23 : decode prog_14_method_114_code 23 = .ok (.getfield 7, 3) := by decide +kernel
theorem dX12_means_26 : decode prog_14_method_114_code 26 = .ok (.sipush 213, 3) := by decide +kernel
theorem dX12_means_29 : decode prog_14_method_114_code 29 = .ok (.iload_n 1, 1) := by decide +kernel
theorem dX12_means_30 : decode prog_14_method_114_code 30 = .ok (.iadd, 1) := by decide +kernel
theorem dX12_means_31 : decode prog_14_method_114_code 31 = .ok (.iload_n 2, 1) := by decide +kernel
theorem dX12_means_32 : decode prog_14_method_114_code 32 = .ok (.iastore, 1) := by decide +kernel
theorem dX12_means_33 : decode prog_14_method_114_code 33 = .ok (.iconst 1, 1) := by decide +kernel
theorem dX12_means_34 : decode prog_14_method_114_code 34 = .ok (.ireturn, 1) := by decide +kernel
theorem dX12_passedBy_0 : decode prog_14_method_115_code 0 = .ok (.iload_n 1, 1) := by decide +kernel
theorem dX12_passedBy_1 : decode prog_14_method_115_code 1 = .ok (.istore_n 3, 1) := by decide +kernel
theorem dX12_passedBy_2 : decode prog_14_method_115_code 2 = .ok (.iconst 0, 1) := by decide +kernel
theorem dX12_passedBy_3 : decode prog_14_method_115_code 3 = .ok (.istore 4, 2) := by decide +kernel
theorem dX12_passedBy_5 : decode prog_14_method_115_code 5 = .ok (.iload 4, 2) := by decide +kernel
theorem dX12_passedBy_7 : decode prog_14_method_115_code 7 = .ok (.iload_n 2, 1) := by decide +kernel
theorem dX12_passedBy_8 : decode prog_14_method_115_code 8 = .ok (.if_icmp .ge 20, 3) := by decide +kernel
theorem dX12_passedBy_11 : decode prog_14_method_115_code 11 = .ok (.aload_n 0, 1) := by decide +kernel
theorem dX12_passedBy_12 : decode prog_14_method_115_code 12 = .ok (.getfield 7, 3) := by decide +kernel
theorem dX12_passedBy_15 : decode prog_14_method_115_code 15 = .ok (.sipush 213, 3) := by decide +kernel
theorem dX12_passedBy_18 : decode prog_14_method_115_code 18 = .ok (.iload_n 3, 1) := by decide +kernel
theorem dX12_passedBy_19 : decode prog_14_method_115_code 19 = .ok (.iadd, 1) := by decide +kernel
theorem dX12_passedBy_20 : decode prog_14_method_115_code 20 = .ok (.iaload, 1) := by decide +kernel
theorem dX12_passedBy_21 : decode prog_14_method_115_code 21 = .ok (.istore_n 3, 1) := by decide +kernel
theorem dX12_passedBy_22 : decode prog_14_method_115_code 22 = .ok (.iinc 4 1, 3) := by decide +kernel
theorem dX12_passedBy_25 : decode prog_14_method_115_code 25 = .ok (.goto (-20), 3) := by decide +kernel
theorem dX12_passedBy_28 : decode prog_14_method_115_code 28 = .ok (.iload_n 3, 1) := by decide +kernel
theorem dX12_passedBy_29 : decode prog_14_method_115_code 29 = .ok (.ireturn, 1) := by decide +kernel
theorem dX12_wasThere_0 : decode prog_14_method_116_code 0 = .ok (.iconst 0, 1) := by decide +kernel
theorem dX12_wasThere_1 : decode prog_14_method_116_code 1 = .ok (.istore_n 3, 1) := by decide +kernel
theorem dX12_wasThere_2 : decode prog_14_method_116_code 2 = .ok (.iload_n 3, 1) := by decide +kernel
theorem dX12_wasThere_3 : decode prog_14_method_116_code 3 = .ok (.iload_n 2, 1) := by decide +kernel
theorem dX12_wasThere_4 : decode prog_14_method_116_code 4 = .ok (.if_icmp .ge 26, 3) := by decide +kernel
theorem dX12_wasThere_7 : decode prog_14_method_116_code 7 = .ok (.aload_n 0, 1) := by decide +kernel
theorem dX12_wasThere_8 : decode prog_14_method_116_code 8 = .ok (.iload_n 1, 1) := by decide +kernel
theorem dX12_wasThere_9 : decode prog_14_method_116_code 9 = .ok (.iload_n 3, 1) := by decide +kernel
theorem dX12_wasThere_10 : decode prog_14_method_116_code 10 = .ok (.invokevirtual 417, 3) := by decide +kernel
theorem dX12_wasThere_13 : decode prog_14_method_116_code 13 = .ok (.aload_n 0, 1) := by decide +kernel
theorem dX12_wasThere_14 : decode prog_14_method_116_code 14 = .ok (.iload_n 1, 1) := by decide +kernel
theorem dX12_wasThere_15 : decode prog_14_method_116_code 15 = .ok (.iload_n 2, 1) := by decide +kernel
theorem dX12_wasThere_16 : decode prog_14_method_116_code 16 = .ok (.invokevirtual 417, 3) := by decide +kernel
theorem dX12_wasThere_19 : decode prog_14_method_116_code 19 = .ok (.if_icmp .ne 5, 3) := by decide +kernel
theorem dX12_wasThere_22 : decode prog_14_method_116_code 22 = .ok (.iload_n 3, 1) := by decide +kernel
theorem dX12_wasThere_23 : decode prog_14_method_116_code 23 = .ok (.ireturn, 1) := by decide +kernel
theorem dX12_wasThere_24 : decode prog_14_method_116_code 24 = .ok (.iinc 3 1, 3) := by decide +kernel
theorem dX12_wasThere_27 : decode prog_14_method_116_code 27 = .ok (.goto (-25), 3) := by decide +kernel
theorem dX12_wasThere_30 : decode prog_14_method_116_code 30 = .ok (.iconst (-1), 1) := by decide +kernel
theorem dX12_wasThere_31 : decode prog_14_method_116_code 31 = .ok (.ireturn, 1) := by decide +kernel
theorem dX12_passed_0 : decode prog_14_method_117_code 0 = .ok (.iload_n 1, 1) := by decide +kernel
theorem dX12_passed_1 : decode prog_14_method_117_code 1 = .ok (.iconst 0, 1) := by decide +kernel
theorem dX12_passed_2 : decode prog_14_method_117_code 2 = .ok (.bipush 9, 2) := by decide +kernel
theorem dX12_passed_4 : decode prog_14_method_117_code 4 = .ok (.invokestatic 56, 3) := by decide +kernel
theorem dX12_passed_7 : decode prog_14_method_117_code 7 = .ok (.ifCond .eq 27, 3) := by decide +kernel
theorem dX12_passed_10 : decode prog_14_method_117_code 10 = .ok (.iload_n 3, 1) := by decide +kernel
theorem dX12_passed_11 : decode prog_14_method_117_code 11 = .ok (.iconst 0, 1) := by decide +kernel
theorem dX12_passed_12 : decode prog_14_method_117_code 12 = .ok (.iconst 2, 1) := by decide +kernel
theorem dX12_passed_13 : decode prog_14_method_117_code 13 = .ok (.invokestatic 56, 3) := by decide +kernel
theorem dX12_passed_16 : decode prog_14_method_117_code 16 = .ok (.ifCond .eq 18, 3) := by decide +kernel
theorem dX12_passed_19 : decode prog_14_method_117_code 19 = .ok (.iload_n 3, 1) := by decide +kernel
theorem dX12_passed_20 : decode prog_14_method_117_code 20 = .ok (.ifCond .ne 16, 3) := by decide +kernel
theorem dX12_passed_23 : decode prog_14_method_117_code 23 = .ok (.iload_n 2, 1) := by decide +kernel
theorem dX12_passed_24 : decode prog_14_method_117_code 24 = .ok (.iconst 0, 1) := by decide +kernel
theorem dX12_passed_25 : decode prog_14_method_117_code 25 = .ok (.sipush 9999, 3) := by decide +kernel
theorem dX12_passed_28 : decode prog_14_method_117_code 28 = .ok (.invokestatic 56, 3) := by decide +kernel
theorem dX12_passed_31 : decode prog_14_method_117_code 31 = .ok (.ifCond .ne 5, 3) := by decide +kernel
theorem dX12_passed_34 : decode prog_14_method_117_code 34 = .ok (.iconst (-1), 1) := by decide +kernel
theorem dX12_passed_35 : decode prog_14_method_117_code 35 = .ok (.ireturn, 1) := by decide +kernel
theorem dX12_passed_36 : decode prog_14_method_117_code 36 = .ok (.iload_n 3, 1) := by decide +kernel
theorem dX12_passed_37 : decode prog_14_method_117_code 37 = .ok (.ifCond .ne 10, 3) := by decide +kernel
theorem dX12_passed_40 : decode prog_14_method_117_code 40 = .ok (.aload_n 0, 1) := by decide +kernel
theorem dX12_passed_41 : decode prog_14_method_117_code 41 = .ok (.iload_n 1, 1) := by decide +kernel
theorem dX12_passed_42 : decode prog_14_method_117_code 42 = .ok (.iload_n 2, 1) := by decide +kernel
theorem dX12_passed_43 : decode prog_14_method_117_code 43 = .ok (.invokevirtual 417, 3) := by decide +kernel
theorem dX12_passed_46 : decode prog_14_method_117_code 46 = .ok (.ireturn, 1) := by decide +kernel
theorem dX12_passed_47 : decode prog_14_method_117_code 47 = .ok (.iconst 1, 1) := by decide +kernel
theorem dX12_passed_48 : decode prog_14_method_117_code 48 = .ok (.istore 4, 2) := by decide +kernel
theorem dX12_passed_50 : decode prog_14_method_117_code 50 = .ok (.aload_n 0, 1) := by decide +kernel
theorem dX12_passed_51 : decode prog_14_method_117_code 51 = .ok (.iload_n 1, 1) := by decide +kernel
theorem dX12_passed_52 : decode prog_14_method_117_code 52 = .ok (.iload 4, 2) := by decide +kernel
theorem dX12_passed_54 : decode prog_14_method_117_code 54 = .ok (.invokevirtual 420, 3) := by decide +kernel
theorem dX12_passed_57 : decode prog_14_method_117_code 57 = .ok (.iconst (-1), 1) := by decide +kernel
theorem dX12_passed_58 : decode prog_14_method_117_code 58 = .ok (.if_icmp .ne 9, 3) := by decide +kernel
theorem dX12_passed_61 : decode prog_14_method_117_code 61 = .ok (.iinc 4 1, 3) := by decide +kernel
theorem dX12_passed_64 : decode prog_14_method_117_code 64 = .ok (.goto (-14), 3) := by decide +kernel
theorem dX12_passed_67 : decode prog_14_method_117_code 67 = .ok (.iload_n 3, 1) := by decide +kernel
theorem dX12_passed_68 : decode prog_14_method_117_code 68 = .ok (.iconst 1, 1) := by decide +kernel
theorem dX12_passed_69 : decode prog_14_method_117_code 69 = .ok (.if_icmp .ne 8, 3) := by decide +kernel
theorem dX12_passed_72 : decode prog_14_method_117_code 72 = .ok (.iload 4, 2) := by decide +kernel
theorem dX12_passed_74 : decode prog_14_method_117_code 74 = .ok (.goto 13, 3) := by decide +kernel
theorem dX12_passed_77 : decode prog_14_method_117_code 77 = .ok (.iload 4, 2) := by decide +kernel
theorem dX12_passed_79 : decode prog_14_method_117_code 79 = .ok (.aload_n 0, 1) := by decide +kernel
theorem dX12_passed_80 : decode prog_14_method_117_code 80 = .ok (.iload_n 1, 1) := by decide +kernel
theorem dX12_passed_81 : decode prog_14_method_117_code 81 = .ok (.iload 4, 2) := by decide +kernel
theorem dX12_passed_83 : decode prog_14_method_117_code 83 = .ok (.invokevirtual 420, 3) := by decide +kernel
theorem dX12_passed_86 : decode prog_14_method_117_code 86 = .ok (.isub, 1) := by decide +kernel
theorem dX12_passed_87 : decode prog_14_method_117_code 87 = .ok (.ireturn, 1) := by decide +kernel
theorem dX12_weightOf_0 : decode prog_14_method_118_code 0 = .ok (.aload_n 0, 1) := by decide +kernel
theorem dX12_weightOf_1 : decode prog_14_method_118_code 1 = .ok (.iload_n 1, 1) := by decide +kernel
theorem dX12_weightOf_2 : decode prog_14_method_118_code 2 = .ok (.invokevirtual 310, 3) := by decide +kernel
theorem dX12_weightOf_5 : decode prog_14_method_118_code 5 = .ok (.ifCond .eq 17, 3) := by decide +kernel
theorem dX12_weightOf_8 : decode prog_14_method_118_code 8 = .ok (.aload_n 0, 1) := by decide +kernel
theorem dX12_weightOf_9 : decode prog_14_method_118_code 9 = .ok (.getfield 7, 3) := by decide +kernel
theorem dX12_weightOf_12 : decode prog_14_method_118_code 12 = .ok (.bipush 57, 2) := by decide +kernel
theorem dX12_weightOf_14 : decode prog_14_method_118_code 14 = .ok (.iload_n 1, 1) := by decide +kernel
theorem dX12_weightOf_15 : decode prog_14_method_118_code 15 = .ok (.iadd, 1) := by decide +kernel
theorem dX12_weightOf_16 : decode prog_14_method_118_code 16 = .ok (.iaload, 1) := by decide +kernel
theorem dX12_weightOf_17 : decode prog_14_method_118_code 17 = .ok (.iconst 1, 1) := by decide +kernel
theorem dX12_weightOf_18 : decode prog_14_method_118_code 18 = .ok (.iadd, 1) := by decide +kernel
theorem dX12_weightOf_19 : decode prog_14_method_118_code 19 = .ok (.goto 4, 3) := by decide +kernel
theorem dX12_weightOf_22 : decode prog_14_method_118_code 22 = .ok (.iconst 0, 1) := by decide +kernel
theorem dX12_weightOf_23 : decode prog_14_method_118_code 23 = .ok (.ireturn, 1) := by decide +kernel
theorem dX12_allWeights_0 : decode prog_14_method_119_code 0 = .ok (.iconst 0, 1) := by decide +kernel
theorem dX12_allWeights_1 : decode prog_14_method_119_code 1 = .ok (.istore_n 1, 1) := by decide +kernel
theorem dX12_allWeights_2 : decode prog_14_method_119_code 2 = .ok (.iconst 0, 1) := by decide +kernel
theorem dX12_allWeights_3 : decode prog_14_method_119_code 3 = .ok (.istore_n 2, 1) := by decide +kernel
theorem dX12_allWeights_4 : decode prog_14_method_119_code 4 = .ok (.iload_n 2, 1) := by decide +kernel
theorem dX12_allWeights_5 : decode prog_14_method_119_code 5 = .ok (.aload_n 0, 1) := by decide +kernel
theorem dX12_allWeights_6 : decode prog_14_method_119_code 6 = .ok (.getfield 7, 3) := by decide +kernel
theorem dX12_allWeights_9 : decode prog_14_method_119_code 9 = .ok (.bipush 37, 2) := by decide +kernel
theorem dX12_allWeights_11 : decode prog_14_method_119_code 11 = .ok (.iaload, 1) := by decide +kernel
theorem dX12_allWeights_12 : decode prog_14_method_119_code 12 = .ok (.if_icmp .ge 17, 3) := by decide +kernel
theorem dX12_allWeights_15 : decode prog_14_method_119_code 15 = .ok (.iload_n 1, 1) := by decide +kernel
theorem dX12_allWeights_16 : decode prog_14_method_119_code 16 = .ok (.aload_n 0, 1) := by decide +kernel
theorem dX12_allWeights_17 : decode prog_14_method_119_code 17 = .ok (.iload_n 2, 1) := by decide +kernel
theorem dX12_allWeights_18 : decode prog_14_method_119_code 18 = .ok (.invokevirtual 423, 3) := by decide +kernel
theorem dX12_allWeights_21 : decode prog_14_method_119_code 21 = .ok (.iadd, 1) := by decide +kernel
theorem dX12_allWeights_22 : decode prog_14_method_119_code 22 = .ok (.istore_n 1, 1) := by decide +kernel
theorem dX12_allWeights_23 : decode prog_14_method_119_code 23 = .ok (.iinc 2 1, 3) := by decide +kernel
theorem dX12_allWeights_26 : decode prog_14_method_119_code 26 = .ok (.goto (-22), 3) := by decide +kernel
theorem dX12_allWeights_29 : decode prog_14_method_119_code 29 = .ok (.iload_n 1, 1) := by decide +kernel
theorem dX12_allWeights_30 : decode prog_14_method_119_code 30 = .ok (.ireturn, 1) := by decide +kernel
theorem dX12_share_0 : decode prog_14_method_120_code 0 = .ok (.iload_n 1, 1) := by decide +kernel
theorem dX12_share_1 : decode prog_14_method_120_code 1 = .ok (.iconst 0, 1) := by decide +kernel
theorem dX12_share_2 : decode prog_14_method_120_code 2 = .ok (.sipush 9999, 3) := by decide +kernel
theorem dX12_share_5 : decode prog_14_method_120_code 5 = .ok (.invokestatic 56, 3) := by decide +kernel
theorem dX12_share_8 : decode prog_14_method_120_code 8 = .ok (.ifCond .eq 21, 3) := by decide +kernel
theorem dX12_share_11 : decode prog_14_method_120_code 11 = .ok (.aload_n 0, 1) := by decide +kernel
theorem dX12_share_12 : decode prog_14_method_120_code 12 = .ok (.iload_n 2, 1) := by decide +kernel
theorem dX12_share_13 : decode prog_14_method_120_code 13 = .ok (.invokevirtual 68, 3) := by decide +kernel
theorem dX12_share_16 : decode prog_14_method_120_code 16 = .ok (.ifCond .eq 13, 3) := by decide +kernel
theorem dX12_share_19 : decode prog_14_method_120_code 19 = .ok (.aload_n 0, 1) := by decide +kernel
theorem dX12_share_20 : decode prog_14_method_120_code 20 = .ok (.getfield 7, 3) := by decide +kernel
theorem dX12_share_23 : decode prog_14_method_120_code 23 = .ok (.bipush 7, 2) := by decide +kernel
theorem dX12_share_25 : decode prog_14_method_120_code 25 = .ok (.iaload, 1) := by decide +kernel
theorem dX12_share_26 : decode prog_14_method_120_code 26 = .ok (.ifCond .ne 5, 3) := by decide +kernel
theorem dX12_share_29 : decode prog_14_method_120_code 29 = .ok (.iconst (-1), 1) := by decide +kernel
theorem dX12_share_30 : decode prog_14_method_120_code 30 = .ok (.ireturn, 1) := by decide +kernel
theorem dX12_share_31 : decode prog_14_method_120_code 31 = .ok (.aload_n 0, 1) := by decide +kernel
theorem dX12_share_32 : decode prog_14_method_120_code 32 = .ok (.iload_n 2, 1) := by decide +kernel
theorem dX12_share_33 : decode prog_14_method_120_code 33 = .ok (.invokevirtual 310, 3) := by decide +kernel
theorem dX12_share_36 : decode prog_14_method_120_code 36 = .ok (.ifCond .ne 5, 3) := by decide +kernel
theorem dX12_share_39 : decode prog_14_method_120_code 39 = .ok (.iconst 0, 1) := by decide +kernel
theorem dX12_share_40 : decode prog_14_method_120_code 40 = .ok (.ireturn, 1) := by decide +kernel
theorem dX12_share_41 : decode prog_14_method_120_code 41 = .ok (.aload_n 0, 1) := by decide +kernel
theorem dX12_share_42 : decode prog_14_method_120_code 42 = .ok (.invokevirtual 426, 3) := by decide +kernel
theorem dX12_share_45 : decode prog_14_method_120_code 45 = .ok (.istore_n 3, 1) := by decide +kernel
theorem dX12_share_46 : decode prog_14_method_120_code 46 = .ok (.iload_n 1, 1) := by decide +kernel
theorem dX12_share_47 : decode prog_14_method_120_code 47 = .ok (.istore 4, 2) := by decide +kernel
theorem dX12_share_49 : decode prog_14_method_120_code 49 = .ok (.iconst 0, 1) := by decide +kernel
theorem dX12_share_50 : decode prog_14_method_120_code 50 = .ok (.istore 5, 2) := by decide +kernel
theorem dX12_share_52 : decode prog_14_method_120_code 52 = .ok (.iconst 0, 1) := by decide +kernel
theorem dX12_share_53 : decode prog_14_method_120_code 53 = .ok (.istore 6, 2) := by decide +kernel
theorem dX12_share_55 : decode prog_14_method_120_code 55 = .ok (.iload 6, 2) := by decide +kernel
theorem dX12_share_57 : decode prog_14_method_120_code 57 = .ok (.aload_n 0, 1) := by decide +kernel
theorem dX12_share_58 : decode prog_14_method_120_code 58 = .ok (.getfield 7, 3) := by decide +kernel
theorem dX12_share_61 : decode prog_14_method_120_code 61 = .ok (.bipush 37, 2) := by decide +kernel
theorem dX12_share_63 : decode prog_14_method_120_code 63 = .ok (.iaload, 1) := by decide +kernel
theorem dX12_share_64 : decode prog_14_method_120_code 64 = .ok (.if_icmp .ge 72, 3) := by decide +kernel
theorem dX12_share_67 : decode prog_14_method_120_code 67 = .ok (.iload 4, 2) := by decide +kernel
theorem dX12_share_69 : decode prog_14_method_120_code 69 = .ok (.iload_n 1, 1) := by decide +kernel
theorem dX12_share_70 : decode prog_14_method_120_code 70 = .ok (.aload_n 0, 1) := by decide +kernel
theorem dX12_share_71 : decode prog_14_method_120_code 71 = .ok (.iload 6, 2) := by decide +kernel
theorem dX12_share_73 : decode prog_14_method_120_code 73 = .ok (.invokevirtual 423, 3) := by decide +kernel
theorem dX12_share_76 : decode prog_14_method_120_code 76 = .ok (.imul, 1) := by decide +kernel
theorem dX12_share_77 : decode prog_14_method_120_code 77 = .ok (.iload_n 3, 1) := by decide +kernel
theorem dX12_share_78 : decode prog_14_method_120_code 78 = .ok (.idiv, 1) := by decide +kernel
theorem dX12_share_79 : decode prog_14_method_120_code 79 = .ok (.isub, 1) := by decide +kernel
theorem dX12_share_80 : decode prog_14_method_120_code 80 = .ok (.istore 4, 2) := by decide +kernel
theorem dX12_share_82 : decode prog_14_method_120_code 82 = .ok (.iload_n 1, 1) := by decide +kernel
theorem dX12_share_83 : decode prog_14_method_120_code 83 = .ok (.aload_n 0, 1) := by decide +kernel
theorem dX12_share_84 : decode prog_14_method_120_code 84 = .ok (.iload 6, 2) := by decide +kernel
theorem dX12_share_86 : decode prog_14_method_120_code 86 = .ok (.invokevirtual 423, 3) := by decide +kernel
theorem dX12_share_89 : decode prog_14_method_120_code 89 = .ok (.imul, 1) := by decide +kernel
theorem dX12_share_90 : decode prog_14_method_120_code 90 = .ok (.iload_n 3, 1) := by decide +kernel
theorem dX12_share_91 : decode prog_14_method_120_code 91 = .ok (.irem, 1) := by decide +kernel
theorem dX12_share_92 : decode prog_14_method_120_code 92 = .ok (.iload_n 1, 1) := by decide +kernel
theorem dX12_share_93 : decode prog_14_method_120_code 93 = .ok (.aload_n 0, 1) := by decide +kernel
theorem dX12_share_94 : decode prog_14_method_120_code 94 = .ok (.iload_n 2, 1) := by decide +kernel
theorem dX12_share_95 : decode prog_14_method_120_code 95 = .ok (.invokevirtual 423, 3) := by decide +kernel
theorem dX12_share_98 : decode prog_14_method_120_code 98 = .ok (.imul, 1) := by decide +kernel
theorem dX12_share_99 : decode prog_14_method_120_code 99 = .ok (.iload_n 3, 1) := by decide +kernel
theorem dX12_share_100 : decode prog_14_method_120_code 100 = .ok (.irem, 1) := by decide +kernel
theorem dX12_share_101 : decode prog_14_method_120_code 101 = .ok (.isub, 1) := by decide +kernel
theorem dX12_share_102 : decode prog_14_method_120_code 102 = .ok (.istore 7, 2) := by decide +kernel
theorem dX12_share_104 : decode prog_14_method_120_code 104 = .ok (.iload 5, 2) := by decide +kernel
theorem dX12_share_106 : decode prog_14_method_120_code 106 = .ok (.iload 7, 2) := by decide +kernel
theorem dX12_share_108 : decode prog_14_method_120_code 108 = .ok (.ifCond .gt 14, 3) := by decide +kernel
theorem dX12_share_111 : decode prog_14_method_120_code 111 = .ok (.iload 7, 2) := by decide +kernel
theorem dX12_share_113 : decode prog_14_method_120_code 113 = .ok (.ifCond .ne 13, 3) := by decide +kernel
theorem dX12_share_116 : decode prog_14_method_120_code 116 = .ok (.iload 6, 2) := by decide +kernel
theorem dX12_share_118 : decode prog_14_method_120_code 118 = .ok (.iload_n 2, 1) := by decide +kernel
theorem dX12_share_119 : decode prog_14_method_120_code 119 = .ok (.if_icmp .ge 7, 3) := by decide +kernel
theorem dX12_share_122 : decode prog_14_method_120_code 122 = .ok (.iconst 1, 1) := by decide +kernel
theorem dX12_share_123 : decode prog_14_method_120_code 123 = .ok (.goto 4, 3) := by decide +kernel
theorem dX12_share_126 : decode prog_14_method_120_code 126 = .ok (.iconst 0, 1) := by decide +kernel
theorem dX12_share_127 : decode prog_14_method_120_code 127 = .ok (.iadd, 1) := by decide +kernel
theorem dX12_share_128 : decode prog_14_method_120_code 128 = .ok (.istore 5, 2) := by decide +kernel
theorem dX12_share_130 : decode prog_14_method_120_code 130 = .ok (.iinc 6 1, 3) := by decide +kernel
theorem dX12_share_133 : decode prog_14_method_120_code 133 = .ok (.goto (-78), 3) := by decide +kernel
theorem dX12_share_136 : decode prog_14_method_120_code 136 = .ok (.iload_n 1, 1) := by decide +kernel
theorem dX12_share_137 : decode prog_14_method_120_code 137 = .ok (.aload_n 0, 1) := by decide +kernel
theorem dX12_share_138 : decode prog_14_method_120_code 138 = .ok (.iload_n 2, 1) := by decide +kernel
theorem dX12_share_139 : decode prog_14_method_120_code 139 = .ok (.invokevirtual 423, 3) := by decide +kernel
theorem dX12_share_142 : decode prog_14_method_120_code 142 = .ok (.imul, 1) := by decide +kernel
theorem dX12_share_143 : decode prog_14_method_120_code 143 = .ok (.iload_n 3, 1) := by decide +kernel
theorem dX12_share_144 : decode prog_14_method_120_code 144 = .ok (.idiv, 1) := by decide +kernel
theorem dX12_share_145 : decode prog_14_method_120_code 145 = .ok (.iload 5, 2) := by decide +kernel
theorem dX12_share_147 : decode prog_14_method_120_code 147 = .ok (.iload 4, 2) := by decide +kernel
theorem dX12_share_149 : decode prog_14_method_120_code 149 = .ok (.if_icmp .ge 7, 3) := by decide +kernel
theorem dX12_share_152 : decode prog_14_method_120_code 152 = .ok (.iconst 1, 1) := by decide +kernel
theorem dX12_share_153 : decode prog_14_method_120_code 153 = .ok (.goto 4, 3) := by decide +kernel
theorem dX12_share_156 : decode prog_14_method_120_code 156 = .ok (.iconst 0, 1) := by decide +kernel
theorem dX12_share_157 : decode prog_14_method_120_code 157 = .ok (.iadd, 1) := by decide +kernel
theorem dX12_share_158 : decode prog_14_method_120_code 158 = .ok (.ireturn, 1) := by decide +kernel
theorem dX12_paidOnes_0 : decode prog_14_method_121_code 0 = .ok (.iconst 0, 1) := by decide +kernel
theorem dX12_paidOnes_1 : decode prog_14_method_121_code 1 = .ok (.istore_n 1, 1) := by decide +kernel
theorem dX12_paidOnes_2 : decode prog_14_method_121_code 2 = .ok (.iconst 0, 1) := by decide +kernel
theorem dX12_paidOnes_3 : decode prog_14_method_121_code 3 = .ok (.istore_n 2, 1) := by decide +kernel
theorem dX12_paidOnes_4 : decode prog_14_method_121_code 4 = .ok (.iload_n 2, 1) := by decide +kernel
theorem dX12_paidOnes_5 : decode prog_14_method_121_code 5 = .ok (.aload_n 0, 1) := by decide +kernel
theorem dX12_paidOnes_6 : decode prog_14_method_121_code 6 = .ok (.getfield 7, 3) := by decide +kernel
theorem dX12_paidOnes_9 : decode prog_14_method_121_code 9 = .ok (.bipush 37, 2) := by decide +kernel
theorem dX12_paidOnes_11 : decode prog_14_method_121_code 11 = .ok (.iaload, 1) := by decide +kernel
theorem dX12_paidOnes_12 : decode prog_14_method_121_code 12 = .ok (.if_icmp .ge 37, 3) := by decide +kernel
theorem dX12_paidOnes_15 : decode prog_14_method_121_code 15 = .ok (.iload_n 1, 1) := by decide +kernel
theorem dX12_paidOnes_16 : decode prog_14_method_121_code 16 = .ok (.aload_n 0, 1) := by decide +kernel
theorem dX12_paidOnes_17 : decode prog_14_method_121_code 17 = .ok (.iload_n 2, 1) := by decide +kernel
theorem dX12_paidOnes_18 : decode prog_14_method_121_code 18 = .ok (.invokevirtual 310, 3) := by decide +kernel
theorem dX12_paidOnes_21 : decode prog_14_method_121_code 21 = .ok (.ifCond .eq 19, 3) := by decide +kernel
theorem dX12_paidOnes_24 : decode prog_14_method_121_code 24 = .ok (.aload_n 0, 1) := by decide +kernel
theorem dX12_paidOnes_25 : decode prog_14_method_121_code 25 = .ok (.getfield 7, 3) := by decide +kernel
theorem dX12_paidOnes_28 : decode prog_14_method_121_code 28 = .ok (.bipush 9, 2) := by decide +kernel
theorem dX12_paidOnes_30 : decode prog_14_method_121_code 30 = .ok (.iload_n 2, 1) := by decide +kernel
theorem dX12_paidOnes_31 : decode prog_14_method_121_code 31 = .ok (.iadd, 1) := by decide +kernel
theorem dX12_paidOnes_32 : decode prog_14_method_121_code 32 = .ok (.iaload, 1) := by decide +kernel
theorem dX12_paidOnes_33 : decode prog_14_method_121_code 33 = .ok (.ifCond .le 7, 3) := by decide +kernel
theorem dX12_paidOnes_36 : decode prog_14_method_121_code 36 = .ok (.iconst 1, 1) := by decide +kernel
theorem dX12_paidOnes_37 : decode prog_14_method_121_code 37 = .ok (.goto 4, 3) := by decide +kernel
theorem dX12_paidOnes_40 : decode prog_14_method_121_code 40 = .ok (.iconst 0, 1) := by decide +kernel
theorem dX12_paidOnes_41 : decode prog_14_method_121_code 41 = .ok (.iadd, 1) := by decide +kernel
theorem dX12_paidOnes_42 : decode prog_14_method_121_code 42 = .ok (.istore_n 1, 1) := by decide +kernel
theorem dX12_paidOnes_43 : decode prog_14_method_121_code 43 = .ok (.iinc 2 1, 3) := by decide +kernel
theorem dX12_paidOnes_46 : decode prog_14_method_121_code 46 = .ok (.goto (-42), 3) := by decide +kernel
theorem dX12_paidOnes_49 : decode prog_14_method_121_code 49 = .ok (.iload_n 1, 1) := by decide +kernel
theorem dX12_paidOnes_50 : decode prog_14_method_121_code 50 = .ok (.ireturn, 1) := by decide +kernel
theorem dX12_brides_0 : decode prog_14_method_122_code 0 = .ok (.aload_n 0, 1) := by decide +kernel
theorem dX12_brides_1 : decode prog_14_method_122_code 1 = .ok (.invokevirtual 429, 3) := by decide +kernel
theorem dX12_brides_4 : decode prog_14_method_122_code 4 = .ok (.istore_n 1, 1) := by decide +kernel
theorem dX12_brides_5 : decode prog_14_method_122_code 5 = .ok (.aload_n 0, 1) := by decide +kernel
theorem dX12_brides_6 : decode prog_14_method_122_code 6 = .ok (.getfield 7, 3) := by decide +kernel
theorem dX12_brides_9 : decode prog_14_method_122_code 9 = .ok (.bipush 7, 2) := by decide +kernel
theorem dX12_brides_11 : decode prog_14_method_122_code 11 = .ok (.iaload, 1) := by decide +kernel
theorem dX12_brides_12 : decode prog_14_method_122_code 12 = .ok (.invokestatic 319, 3) := by decide +kernel
theorem dX12_brides_15 : decode prog_14_method_122_code 15 = .ok (.iload_n 1, 1) := by decide +kernel
theorem dX12_brides_16 : decode prog_14_method_122_code 16 = .ok (.isub, 1) := by decide +kernel
theorem dX12_brides_17 : decode prog_14_method_122_code 17 = .ok (.istore_n 2, 1) := by decide +kernel
theorem dX12_brides_18 : decode prog_14_method_122_code 18 = .ok (.lconst 1, 1) := by decide +kernel
theorem dX12_brides_19 : decode prog_14_method_122_code 19 = .ok (.lstore_n 3, 1) := by decide +kernel
theorem dX12_brides_20 : decode prog_14_method_122_code 20 = .ok (.iconst 0, 1) := by decide +kernel
theorem dX12_brides_21 : decode prog_14_method_122_code 21 = .ok (.istore 5, 2) := by decide +kernel
theorem dX12_brides_23 : decode prog_14_method_122_code 23 = .ok (.iload 5, 2) := by decide +kernel
theorem dX12_brides_25 : decode prog_14_method_122_code 25 = .ok (.iload_n 1, 1) := by decide +kernel
theorem dX12_brides_26 : decode prog_14_method_122_code 26 = .ok (.iload_n 2, 1) := by decide +kernel
theorem dX12_brides_27 : decode prog_14_method_122_code 27 = .ok (.invokestatic 286, 3) := by decide +kernel
theorem dX12_brides_30 : decode prog_14_method_122_code 30 = .ok (.if_icmp .ge 25, 3) := by decide +kernel
theorem dX12_brides_33 : decode prog_14_method_122_code 33 = .ok (.lload_n 3, 1) := by decide +kernel
theorem dX12_brides_34 : decode prog_14_method_122_code 34 = .ok (.iload_n 1, 1) := by decide +kernel
theorem dX12_brides_35 : decode prog_14_method_122_code 35 = .ok (.iload_n 2, 1) := by decide +kernel
theorem dX12_brides_36 : decode prog_14_method_122_code 36 = .ok (.invokestatic 290, 3) := by decide +kernel
theorem dX12_brides_39 : decode prog_14_method_122_code 39 = .ok (.iload 5, 2) := by decide +kernel
theorem dX12_brides_41 : decode prog_14_method_122_code 41 = .ok (.isub, 1) := by decide +kernel
theorem dX12_brides_42 : decode prog_14_method_122_code 42 = .ok (.i2l, 1) := by decide +kernel
theorem dX12_brides_43 : decode prog_14_method_122_code 43 = .ok (.lmul, 1) := by decide +kernel
theorem dX12_brides_44 : decode prog_14_method_122_code 44 = .ok (.ldc2_w 432, 3) := by decide +kernel
theorem dX12_brides_47 : decode prog_14_method_122_code 47 = .ok (.lrem, 1) := by decide +kernel
theorem dX12_brides_48 : decode prog_14_method_122_code 48 = .ok (.lstore_n 3, 1) := by decide +kernel
theorem dX12_brides_49 : decode prog_14_method_122_code 49 = .ok (.iinc 5 1, 3) := by decide +kernel
theorem dX12_brides_52 : decode prog_14_method_122_code 52 = .ok (.goto (-29), 3) := by decide +kernel
theorem dX12_brides_55 : decode prog_14_method_122_code 55 = .ok (.lload_n 3, 1) := by decide +kernel
theorem dX12_brides_56 : decode prog_14_method_122_code 56 = .ok (.l2i, 1) := by decide +kernel
theorem dX12_brides_57 : decode prog_14_method_122_code 57 = .ok (.ireturn, 1) := by decide +kernel
theorem dX12_laysNims_0 : decode prog_14_method_123_code 0 = .ok (.iconst 0, 1) := by decide +kernel
theorem dX12_laysNims_1 : decode prog_14_method_123_code 1 = .ok (.istore_n 1, 1) := by decide +kernel
theorem dX12_laysNims_2 : decode prog_14_method_123_code 2 = .ok (.iload_n 1, 1) := by decide +kernel
theorem dX12_laysNims_3 : decode prog_14_method_123_code 3 = .ok (.bipush 60, 2) := by decide +kernel
theorem dX12_laysNims_5 : decode prog_14_method_123_code 5 = .ok (.if_icmp .gt 106, 3) := by decide +kernel
theorem dX12_laysNims_8 : decode prog_14_method_123_code 8 = .ok (.iload_n 1, 1) := by decide +kernel
theorem dX12_laysNims_9 : decode prog_14_method_123_code 9 = .ok (.ifCond .le 16, 3) := by decide +kernel
theorem dX12_laysNims_12 : decode prog_14_method_123_code 12 = .ok (.iconst 1, 1) := by decide +kernel
theorem dX12_laysNims_13 : decode prog_14_method_123_code 13 = .ok (.aload_n 0, 1) := by decide +kernel
theorem dX12_laysNims_14 : decode prog_14_method_123_code 14 = .ok (.getfield 53, 3) := by decide +kernel
theorem dX12_laysNims_17 : decode prog_14_method_123_code 17 = .ok (.iload_n 1, 1) := by decide +kernel
theorem dX12_laysNims_18 : decode prog_14_method_123_code 18 = .ok (.iconst 1, 1) := by decide +kernel
theorem dX12_laysNims_19 : decode prog_14_method_123_code 19 = .ok (.isub, 1) := by decide +kernel
theorem dX12_laysNims_20 : decode prog_14_method_123_code 20 = .ok (.iaload, 1) := by decide +kernel
theorem dX12_laysNims_21 : decode prog_14_method_123_code 21 = .ok (.ishl, 1) := by decide +kernel
theorem dX12_laysNims_22 : decode prog_14_method_123_code 22 = .ok (.goto 4, 3) := by decide +kernel
theorem dX12_laysNims_25 : decode prog_14_method_123_code 25 = .ok (.iconst 0, 1) := by decide +kernel
theorem dX12_laysNims_26 : decode prog_14_method_123_code 26 = .ok (.istore_n 2, 1) := by decide +kernel
theorem dX12_laysNims_27 : decode prog_14_method_123_code 27 = .ok (.iload_n 2, 1) := by decide +kernel
theorem dX12_laysNims_28 : decode prog_14_method_123_code 28 = .ok (.iload_n 1, 1) := by decide +kernel
theorem dX12_laysNims_29 : decode prog_14_method_123_code 29 = .ok (.iconst 2, 1) := by decide +kernel
theorem dX12_laysNims_30 : decode prog_14_method_123_code 30 = .ok (.if_icmp .le 16, 3) := by decide +kernel
theorem dX12_laysNims_33 : decode prog_14_method_123_code 33 = .ok (.iconst 1, 1) := by decide +kernel
theorem dX12_laysNims_34 : decode prog_14_method_123_code 34 = .ok (.aload_n 0, 1) := by decide +kernel
theorem dX12_laysNims_35 : decode prog_14_method_123_code 35 = .ok (.getfield 53, 3) := by decide +kernel
theorem dX12_laysNims_38 : decode prog_14_method_123_code 38 = .ok (.iload_n 1, 1) := by decide +kernel
theorem dX12_laysNims_39 : decode prog_14_method_123_code 39 = .ok (.iconst 3, 1) := by decide +kernel
theorem dX12_laysNims_40 : decode prog_14_method_123_code 40 = .ok (.isub, 1) := by decide +kernel
theorem dX12_laysNims_41 : decode prog_14_method_123_code 41 = .ok (.iaload, 1) := by decide +kernel
theorem dX12_laysNims_42 : decode prog_14_method_123_code 42 = .ok (.ishl, 1) := by decide +kernel
theorem dX12_laysNims_43 : decode prog_14_method_123_code 43 = .ok (.goto 4, 3) := by decide +kernel
theorem dX12_laysNims_46 : decode prog_14_method_123_code 46 = .ok (.iconst 0, 1) := by decide +kernel
theorem dX12_laysNims_47 : decode prog_14_method_123_code 47 = .ok (.ior, 1) := by decide +kernel
theorem dX12_laysNims_48 : decode prog_14_method_123_code 48 = .ok (.istore_n 2, 1) := by decide +kernel
theorem dX12_laysNims_49 : decode prog_14_method_123_code 49 = .ok (.iload_n 2, 1) := by decide +kernel
theorem dX12_laysNims_50 : decode prog_14_method_123_code 50 = .ok (.iload_n 1, 1) := by decide +kernel
theorem dX12_laysNims_51 : decode prog_14_method_123_code 51 = .ok (.iconst 3, 1) := by decide +kernel
theorem dX12_laysNims_52 : decode prog_14_method_123_code 52 = .ok (.if_icmp .le 16, 3) := by decide +kernel
theorem dX12_laysNims_55 : decode prog_14_method_123_code 55 = .ok (.iconst 1, 1) := by decide +kernel
theorem dX12_laysNims_56 : decode prog_14_method_123_code 56 = .ok (.aload_n 0, 1) := by decide +kernel
theorem dX12_laysNims_57 : decode prog_14_method_123_code 57 = .ok (.getfield 53, 3) := by decide +kernel
theorem dX12_laysNims_60 : decode prog_14_method_123_code 60 = .ok (.iload_n 1, 1) := by decide +kernel
theorem dX12_laysNims_61 : decode prog_14_method_123_code 61 = .ok (.iconst 4, 1) := by decide +kernel
theorem dX12_laysNims_62 : decode prog_14_method_123_code 62 = .ok (.isub, 1) := by decide +kernel
theorem dX12_laysNims_63 : decode prog_14_method_123_code 63 = .ok (.iaload, 1) := by decide +kernel
theorem dX12_laysNims_64 : decode prog_14_method_123_code 64 = .ok (.ishl, 1) := by decide +kernel
theorem dX12_laysNims_65 : decode prog_14_method_123_code 65 = .ok (.goto 4, 3) := by decide +kernel
theorem dX12_laysNims_68 : decode prog_14_method_123_code 68 = .ok (.iconst 0, 1) := by decide +kernel
theorem dX12_laysNims_69 : decode prog_14_method_123_code 69 = .ok (.ior, 1) := by decide +kernel
theorem dX12_laysNims_70 : decode prog_14_method_123_code 70 = .ok (.istore_n 2, 1) := by decide +kernel
theorem dX12_laysNims_71 : decode prog_14_method_123_code 71 = .ok (.aload_n 0, 1) := by decide +kernel
theorem dX12_laysNims_72 : decode prog_14_method_123_code 72 = .ok (.getfield 53, 3) := by decide +kernel
theorem dX12_laysNims_75 : decode prog_14_method_123_code 75 = .ok (.iload_n 1, 1) := by decide +kernel
theorem dX12_laysNims_76 : decode prog_14_method_123_code 76 = .ok (.iconst 0, 1) := by decide +kernel
theorem dX12_laysNims_77 : decode prog_14_method_123_code 77 = .ok (.iastore, 1) := by decide +kernel
theorem dX12_laysNims_78 : decode prog_14_method_123_code 78 = .ok (.iload_n 2, 1) := by decide +kernel
theorem dX12_laysNims_79 : decode prog_14_method_123_code 79 = .ok (.aload_n 0, 1) := by decide +kernel
theorem dX12_laysNims_80 : decode prog_14_method_123_code 80 = .ok (.getfield 53, 3) := by decide +kernel
theorem dX12_laysNims_83 : decode prog_14_method_123_code 83 = .ok (.iload_n 1, 1) := by decide +kernel
theorem dX12_laysNims_84 : decode prog_14_method_123_code 84 = .ok (.iaload, 1) := by decide +kernel
theorem dX12_laysNims_85 : decode prog_14_method_123_code 85 = .ok (.ishr, 1) := by decide +kernel
theorem dX12_laysNims_86 : decode prog_14_method_123_code 86 = .ok (.iconst 1, 1) := by decide +kernel
theorem dX12_laysNims_87 : decode prog_14_method_123_code 87 = .ok (.iand, 1) := by decide +kernel
theorem dX12_laysNims_88 : decode prog_14_method_123_code 88 = .ok (.iconst 1, 1) := by decide +kernel
theorem dX12_laysNims_89 : decode prog_14_method_123_code 89 = .ok (.if_icmp .ne 16, 3) := by decide +kernel
theorem dX12_laysNims_92 : decode prog_14_method_123_code 92 = .ok (.aload_n 0, 1) := by decide +kernel
theorem dX12_laysNims_93 : decode prog_14_method_123_code 93 = .ok (.getfield 53, 3) := by decide +kernel
theorem dX12_laysNims_96 : decode prog_14_method_123_code 96 = .ok (.iload_n 1, 1) := by decide +kernel
theorem dX12_laysNims_97 : decode prog_14_method_123_code 97 = .ok (.dup2, 1) := by decide +kernel
theorem dX12_laysNims_98 : decode prog_14_method_123_code 98 = .ok (.iaload, 1) := by decide +kernel
theorem dX12_laysNims_99 : decode prog_14_method_123_code 99 = .ok (.iconst 1, 1) := by decide +kernel
theorem dX12_laysNims_100 : decode prog_14_method_123_code 100 = .ok (.iadd, 1) := by decide +kernel
theorem dX12_laysNims_101 : decode prog_14_method_123_code 101 = .ok (.iastore, 1) := by decide +kernel
theorem dX12_laysNims_102 : decode prog_14_method_123_code 102 = .ok (.goto (-24), 3) := by decide +kernel
theorem dX12_laysNims_105 : decode prog_14_method_123_code 105 = .ok (.iinc 1 1, 3) := by decide +kernel
theorem dX12_laysNims_108 : decode prog_14_method_123_code 108 = .ok (.goto (-106), 3) := by decide +kernel
theorem dX12_laysNims_111 : decode prog_14_method_123_code 111 = .ok (.return_, 1) := by decide +kernel
theorem dX12_game_0 : decode prog_14_method_124_code 0 = .ok (.iload_n 1, 1) := by decide +kernel
theorem dX12_game_1 : decode prog_14_method_124_code 1 = .ok (.iconst 0, 1) := by decide +kernel
theorem dX12_game_2 : decode prog_14_method_124_code 2 = .ok (.iconst 1, 1) := by decide +kernel
theorem dX12_game_3 : decode prog_14_method_124_code 3 = .ok (.invokestatic 56, 3) := by decide +kernel
theorem dX12_game_6 : decode prog_14_method_124_code 6 = .ok (.ifCond .ne 5, 3) := by decide +kernel
theorem dX12_game_9 : decode prog_14_method_124_code 9 = .ok (.iconst (-1), 1) := by decide +kernel
theorem dX12_game_10 : decode prog_14_method_124_code 10 = .ok (.ireturn, 1) := by decide +kernel
theorem dX12_game_11 : decode prog_14_method_124_code 11 = .ok (.aload_n 0, 1) := by decide +kernel
theorem dX12_game_12 : decode prog_14_method_124_code 12 = .ok (.invokevirtual 434, 3) := by decide +kernel
theorem dX12_game_15 : decode prog_14_method_124_code 15 = .ok (.iconst 0, 1) := by decide +kernel
theorem dX12_game_16 : decode prog_14_method_124_code 16 = .ok (.istore_n 2, 1) := by decide +kernel
theorem dX12_game_17 : decode prog_14_method_124_code 17 = .ok (.iconst 0, 1) := by decide +kernel
theorem dX12_game_18 : decode prog_14_method_124_code 18 = .ok (.istore_n 3, 1) := by decide +kernel
theorem dX12_game_19 : decode prog_14_method_124_code 19 = .ok (.iload_n 3, 1) := by decide +kernel
theorem dX12_game_20 : decode prog_14_method_124_code 20 = .ok (.aload_n 0, 1) := by decide +kernel
theorem dX12_game_21 : decode prog_14_method_124_code 21 = .ok (.getfield 7, 3) := by decide +kernel
theorem dX12_game_24 : decode prog_14_method_124_code 24 = .ok (.bipush 38, 2) := by decide +kernel
theorem dX12_game_26 : decode prog_14_method_124_code 26 = .ok (.iaload, 1) := by decide +kernel
theorem dX12_game_27 : decode prog_14_method_124_code 27 = .ok (.if_icmp .ge 26, 3) := by decide +kernel
theorem dX12_game_30 : decode prog_14_method_124_code 30 = .ok (.iload_n 2, 1) := by decide +kernel
theorem dX12_game_31 : decode prog_14_method_124_code 31 = .ok (.aload_n 0, 1) := by decide +kernel
theorem dX12_game_32 : decode prog_14_method_124_code 32 = .ok (.getfield 53, 3) := by decide +kernel
theorem dX12_game_35 : decode prog_14_method_124_code 35 = .ok (.aload_n 0, 1) := by decide +kernel
theorem dX12_game_36 : decode prog_14_method_124_code 36 = .ok (.getfield 7, 3) := by decide +kernel
theorem dX12_game_39 : decode prog_14_method_124_code 39 = .ok (.bipush 89, 2) := by decide +kernel
theorem dX12_game_41 : decode prog_14_method_124_code 41 = .ok (.iload_n 3, 1) := by decide +kernel
theorem dX12_game_42 : decode prog_14_method_124_code 42 = .ok (.iadd, 1) := by decide +kernel
theorem dX12_game_43 : decode prog_14_method_124_code 43 = .ok (.iaload, 1) := by decide +kernel
theorem dX12_game_44 : decode prog_14_method_124_code 44 = .ok (.iaload, 1) := by decide +kernel
theorem dX12_game_45 : decode prog_14_method_124_code 45 = .ok (.ixor, 1) := by decide +kernel
theorem dX12_game_46 : decode prog_14_method_124_code 46 = .ok (.istore_n 2, 1) := by decide +kernel
theorem dX12_game_47 : decode prog_14_method_124_code 47 = .ok (.iinc 3 1, 3) := by decide +kernel
theorem dX12_game_50 : decode prog_14_method_124_code 50 = .ok (.goto (-31), 3) := by decide +kernel
theorem dX12_game_53 : decode prog_14_method_124_code 53 = .ok (.iconst 0, 1) := by decide +kernel
theorem dX12_game_54 : decode prog_14_method_124_code 54 = .ok (.istore_n 3, 1) := by decide +kernel
theorem dX12_game_55 : decode prog_14_method_124_code 55 = .ok (.iload_n 3, 1) := by decide +kernel
theorem dX12_game_56 : decode prog_14_method_124_code 56 = .ok (.aload_n 0, 1) := by decide +kernel
theorem dX12_game_57 : decode prog_14_method_124_code 57 = .ok (.getfield 7, 3) := by decide +kernel
theorem dX12_game_60 : decode prog_14_method_124_code 60 = .ok (.bipush 38, 2) := by decide +kernel
theorem dX12_game_62 : decode prog_14_method_124_code 62 = .ok (.iaload, 1) := by decide +kernel
theorem dX12_game_63 : decode prog_14_method_124_code 63 = .ok (.if_icmp .ge 79, 3) := by decide +kernel
theorem dX12_game_66 : decode prog_14_method_124_code 66 = .ok (.aload_n 0, 1) := by decide +kernel
theorem dX12_game_67 : decode prog_14_method_124_code 67 = .ok (.getfield 7, 3) := by decide +kernel
theorem dX12_game_70 : decode prog_14_method_124_code 70 = .ok (.bipush 89, 2) := by decide +kernel
theorem dX12_game_72 : decode prog_14_method_124_code 72 = .ok (.iload_n 3, 1) := by decide +kernel
theorem dX12_game_73 : decode prog_14_method_124_code 73 = .ok (.iadd, 1) := by decide +kernel
theorem dX12_game_74 : decode prog_14_method_124_code 74 = .ok (.iaload, 1) := by decide +kernel
theorem dX12_game_75 : decode prog_14_method_124_code 75 = .ok (.istore 4, 2) := by decide +kernel
theorem dX12_game_77 : decode prog_14_method_124_code 77 = .ok (.iconst 1, 1) := by decide +kernel
theorem dX12_game_78 : decode prog_14_method_124_code 78 = .ok (.istore 5, 2) := by decide +kernel
theorem dX12_game_80 : decode prog_14_method_124_code 80 = .ok (.iload 5, 2) := by decide +kernel
theorem dX12_game_82 : decode prog_14_method_124_code 82 = .ok (.iconst 4, 1) := by decide +kernel
theorem dX12_game_83 : decode prog_14_method_124_code 83 = .ok (.iload 4, 2) := by decide +kernel
theorem dX12_game_85 : decode prog_14_method_124_code 85 = .ok (.invokestatic 286, 3) := by decide +kernel
theorem dX12_game_88 : decode prog_14_method_124_code 88 = .ok (.if_icmp .gt 48, 3) := by decide +kernel
theorem dX12_game_91 : decode prog_14_method_124_code 91 = .ok (.iload 5, 2) := by decide +kernel
theorem dX12_game_93 : decode prog_14_method_124_code 93 = .ok (.iconst 2, 1) := by decide +kernel
theorem dX12_game_94 : decode prog_14_method_124_code 94 = .ok (.if_icmp .eq 36, 3) := by decide +kernel
theorem dX12_game_97 : decode prog_14_method_124_code 97 = .ok (.iload_n 2, 1) := by decide +kernel
theorem dX12_game_98 : decode prog_14_method_124_code 98 = .ok (.aload_n 0, 1) := by decide +kernel
theorem dX12_game_99 : decode prog_14_method_124_code 99 = .ok (.getfield 53, 3) := by decide +kernel
theorem dX12_game_102 : decode prog_14_method_124_code 102 = .ok (.iload 4, 2) := by decide +kernel
theorem dX12_game_104 : decode prog_14_method_124_code 104 = .ok (.iaload, 1) := by decide +kernel
theorem dX12_game_105 : decode prog_14_method_124_code 105 = .ok (.ixor, 1) := by decide +kernel
theorem dX12_game_106 : decode prog_14_method_124_code 106 = .ok (.aload_n 0, 1) := by decide +kernel
theorem dX12_game_107 : decode prog_14_method_124_code 107 = .ok (.getfield 53, 3) := by decide +kernel
theorem dX12_game_110 : decode prog_14_method_124_code 110 = .ok (.iload 4, 2) := by decide +kernel
theorem dX12_game_112 : decode prog_14_method_124_code 112 = .ok (.iload 5, 2) := by decide +kernel
theorem dX12_game_114 : decode prog_14_method_124_code 114 = .ok (.isub, 1) := by decide +kernel
theorem dX12_game_115 : decode prog_14_method_124_code 115 = .ok (.iaload, 1) := by decide +kernel
theorem dX12_game_116 : decode prog_14_method_124_code 116 = .ok (.if_icmp .ne 14, 3) := by decide +kernel
theorem dX12_game_119 : decode prog_14_method_124_code 119 = .ok (.iload_n 1, 1) := by decide +kernel
theorem dX12_game_120 : decode prog_14_method_124_code 120 = .ok (.ifCond .ne 7, 3) := by decide +kernel
theorem dX12_game_123 : decode prog_14_method_124_code 123 = .ok (.iload_n 3, 1) := by decide +kernel
theorem dX12_game_124 : decode prog_14_method_124_code 124 = .ok (.goto 5, 3) := by decide +kernel
theorem dX12_game_127 : decode prog_14_method_124_code 127 = .ok (.iload 5, 2) := by decide +kernel
theorem dX12_game_129 : decode prog_14_method_124_code 129 = .ok (.ireturn, 1) := by decide +kernel
theorem dX12_game_130 : decode prog_14_method_124_code 130 = .ok (.iinc 5 1, 3) := by decide +kernel
theorem dX12_game_133 : decode prog_14_method_124_code 133 = .ok (.goto (-53), 3) := by decide +kernel
theorem dX12_game_136 : decode prog_14_method_124_code 136 = .ok (.iinc 3 1, 3) := by decide +kernel
theorem dX12_game_139 : decode prog_14_method_124_code 139 = .ok (.goto (-84), 3) := by decide +kernel
theorem dX12_game_142 : decode prog_14_method_124_code 142 = .ok (.iconst (-1), 1) := by decide +kernel
theorem dX12_game_143 : decode prog_14_method_124_code 143 = .ok (.ireturn, 1) := by decide +kernel
theorem dX12_image_0 : decode prog_14_method_125_code 0 = .ok (.iload_n 1, 1) := by decide +kernel
theorem dX12_image_1 : decode prog_14_method_125_code 1 = .ok (.ifCond .ne 12, 3) := by decide +kernel
theorem dX12_image_4 : decode prog_14_method_125_code 4 = .ok (.aload_n 0, 1) := by decide +kernel
theorem dX12_image_5 : decode prog_14_method_125_code 5 = .ok (.getfield 437, 3) := by decide +kernel
theorem dX12_image_8 : decode prog_14_method_125_code 8 = .ok (.ifCond .ne 5, 3) := by decide +kernel
theorem dX12_image_11 : decode prog_14_method_125_code 11 = .ok (.iconst 0, 1) := by decide +kernel
theorem dX12_image_12 : decode prog_14_method_125_code 12 = .ok (.ireturn, 1) := by decide +kernel
theorem dX12_image_13 : decode prog_14_method_125_code 13 = .ok (.iconst 0, 1) := by decide +kernel
theorem dX12_image_14 : decode prog_14_method_125_code 14 = .ok (.istore_n 2, 1) := by decide +kernel
theorem dX12_image_15 : decode prog_14_method_125_code 15 = .ok (.iload_n 2, 1) := by decide +kernel
theorem dX12_image_16 : decode prog_14_method_125_code 16 = .ok (.sipush 1707, 3) := by decide +kernel
theorem dX12_image_19 : decode prog_14_method_125_code 19 = .ok (.if_icmp .ge 40, 3) := by decide +kernel
theorem dX12_image_22 : decode prog_14_method_125_code 22 = .ok (.iload_n 1, 1) := by decide +kernel
theorem dX12_image_23 : decode prog_14_method_125_code 23 = .ok (.ifCond .eq 18, 3) := by decide +kernel
theorem dX12_image_26 : decode prog_14_method_125_code 26 = .ok (.aload_n 0, 1) := by decide +kernel
theorem dX12_image_27 : decode prog_14_method_125_code 27 = .ok (.getfield 13, 3) := by decide +kernel
theorem dX12_image_30 : decode prog_14_method_125_code 30 = .ok (.iload_n 2, 1) := by decide +kernel
theorem dX12_image_31 : decode prog_14_method_125_code 31 = .ok (.aload_n 0, 1) := by decide +kernel
theorem dX12_image_32 : decode prog_14_method_125_code 32 = .ok (.getfield 7, 3) := by decide +kernel
theorem dX12_image_35 : decode prog_14_method_125_code 35 = .ok (.iload_n 2, 1) := by decide +kernel
theorem dX12_image_36 : decode prog_14_method_125_code 36 = .ok (.iaload, 1) := by decide +kernel
theorem dX12_image_37 : decode prog_14_method_125_code 37 = .ok (.iastore, 1) := by decide +kernel
theorem dX12_image_38 : decode prog_14_method_125_code 38 = .ok (.goto 15, 3) := by decide +kernel
theorem dX12_image_41 : decode prog_14_method_125_code 41 = .ok (.aload_n 0, 1) := by decide +kernel
theorem dX12_image_42 : decode prog_14_method_125_code 42 = .ok (.getfield 7, 3) := by decide +kernel
theorem dX12_image_45 : decode prog_14_method_125_code 45 = .ok (.iload_n 2, 1) := by decide +kernel
theorem dX12_image_46 : decode prog_14_method_125_code 46 = .ok (.aload_n 0, 1) := by decide +kernel
theorem dX12_image_47 : decode prog_14_method_125_code 47 = .ok (.getfield 13, 3) := by decide +kernel
theorem dX12_image_50 : decode prog_14_method_125_code 50 = .ok (.iload_n 2, 1) := by decide +kernel
theorem dX12_image_51 : decode prog_14_method_125_code 51 = .ok (.iaload, 1) := by decide +kernel
theorem dX12_image_52 : decode prog_14_method_125_code 52 = .ok (.iastore, 1) := by decide +kernel
theorem dX12_image_53 : decode prog_14_method_125_code 53 = .ok (.iinc 2 1, 3) := by decide +kernel
theorem dX12_image_56 : decode prog_14_method_125_code 56 = .ok (.goto (-41), 3) := by decide +kernel
theorem dX12_image_59 : decode prog_14_method_125_code 59 = .ok (.iload_n 1, 1) := by decide +kernel
theorem dX12_image_60 : decode prog_14_method_125_code 60 = .ok (.ifCond .ne 7, 3) := by decide +kernel
theorem dX12_image_63 : decode prog_14_method_125_code 63 = .ok (.aload_n 0, 1) := by decide +kernel
theorem dX12_image_64 : decode prog_14_method_125_code 64 = .ok (.invokevirtual 63, 3) := by decide +kernel
theorem dX12_image_67 : decode prog_14_method_125_code 67 = .ok (.aload_n 0, 1) := by decide +kernel
theorem dX12_image_68 : decode prog_14_method_125_code 68 = .ok (.iconst 1, 1) := by decide +kernel
theorem dX12_image_69 : decode prog_14_method_125_code 69 = .ok (.putfield 437, 3) := by decide +kernel
theorem dX12_image_72 : decode prog_14_method_125_code 72 = .ok (.iconst 1, 1) := by decide +kernel
theorem dX12_image_73 : decode prog_14_method_125_code 73 = .ok (.ireturn, 1) := by decide +kernel
theorem dX12_look_0 : decode prog_14_method_126_code 0 = .ok (.iload_n 1, 1) := by decide +kernel
theorem dX12_look_1 : decode prog_14_method_126_code 1 = .ok (.tableswitch 210 0 16 #[83, 91, 99, 106, 113, 120, 128, 135, 142, 150, 158, 165, 173, 181, 189, 197, 205], 83) := by decide +kernel
theorem dX12_look_84 : decode prog_14_method_126_code 84 = .ok (.aload_n 0, 1) := by decide +kernel
theorem dX12_look_85 : decode prog_14_method_126_code 85 = .ok (.getfield 7, 3) := by decide +kernel
theorem dX12_look_88 : decode prog_14_method_126_code 88 = .ok (.bipush 37, 2) := by decide +kernel
theorem dX12_look_90 : decode prog_14_method_126_code 90 = .ok (.iaload, 1) := by decide +kernel
theorem dX12_look_91 : decode prog_14_method_126_code 91 = .ok (.ireturn, 1) := by decide +kernel
theorem dX12_look_92 : decode prog_14_method_126_code 92 = .ok (.aload_n 0, 1) := by decide +kernel
theorem dX12_look_93 : decode prog_14_method_126_code 93 = .ok (.getfield 7, 3) := by decide +kernel
theorem dX12_look_96 : decode prog_14_method_126_code 96 = .ok (.bipush 38, 2) := by decide +kernel
theorem dX12_look_98 : decode prog_14_method_126_code 98 = .ok (.iaload, 1) := by decide +kernel
theorem dX12_look_99 : decode prog_14_method_126_code 99 = .ok (.ireturn, 1) := by decide +kernel
theorem dX12_look_100 : decode prog_14_method_126_code 100 = .ok (.aload_n 0, 1) := by decide +kernel
theorem dX12_look_101 : decode prog_14_method_126_code 101 = .ok (.getfield 7, 3) := by decide +kernel
theorem dX12_look_104 : decode prog_14_method_126_code 104 = .ok (.iconst 0, 1) := by decide +kernel
theorem dX12_look_105 : decode prog_14_method_126_code 105 = .ok (.iaload, 1) := by decide +kernel
theorem dX12_look_106 : decode prog_14_method_126_code 106 = .ok (.ireturn, 1) := by decide +kernel
theorem dX12_look_107 : decode prog_14_method_126_code 107 = .ok (.aload_n 0, 1) := by decide +kernel
theorem dX12_look_108 : decode prog_14_method_126_code 108 = .ok (.getfield 7, 3) := by decide +kernel
theorem dX12_look_111 : decode prog_14_method_126_code 111 = .ok (.iconst 1, 1) := by decide +kernel
theorem dX12_look_112 : decode prog_14_method_126_code 112 = .ok (.iaload, 1) := by decide +kernel
theorem dX12_look_113 : decode prog_14_method_126_code 113 = .ok (.ireturn, 1) := by decide +kernel
theorem dX12_look_114 : decode prog_14_method_126_code 114 = .ok (.aload_n 0, 1) := by decide +kernel
theorem dX12_look_115 : decode prog_14_method_126_code 115 = .ok (.getfield 7, 3) := by decide +kernel
theorem dX12_look_118 : decode prog_14_method_126_code 118 = .ok (.iconst 2, 1) := by decide +kernel
theorem dX12_look_119 : decode prog_14_method_126_code 119 = .ok (.iaload, 1) := by decide +kernel
theorem dX12_look_120 : decode prog_14_method_126_code 120 = .ok (.ireturn, 1) := by decide +kernel
theorem dX12_look_121 : decode prog_14_method_126_code 121 = .ok (.aload_n 0, 1) := by decide +kernel
theorem dX12_look_122 : decode prog_14_method_126_code 122 = .ok (.getfield 7, 3) := by decide +kernel
theorem dX12_look_125 : decode prog_14_method_126_code 125 = .ok (.bipush 39, 2) := by decide +kernel
theorem dX12_look_127 : decode prog_14_method_126_code 127 = .ok (.iaload, 1) := by decide +kernel
theorem dX12_look_128 : decode prog_14_method_126_code 128 = .ok (.ireturn, 1) := by decide +kernel
theorem dX12_look_129 : decode prog_14_method_126_code 129 = .ok (.aload_n 0, 1) := by decide +kernel
theorem dX12_look_130 : decode prog_14_method_126_code 130 = .ok (.getfield 7, 3) := by decide +kernel
theorem dX12_look_133 : decode prog_14_method_126_code 133 = .ok (.iconst 3, 1) := by decide +kernel
theorem dX12_look_134 : decode prog_14_method_126_code 134 = .ok (.iaload, 1) := by decide +kernel
theorem dX12_look_135 : decode prog_14_method_126_code 135 = .ok (.ireturn, 1) := by decide +kernel
theorem dX12_look_136 : decode prog_14_method_126_code 136 = .ok (.aload_n 0, 1) := by decide +kernel
theorem dX12_look_137 : decode prog_14_method_126_code 137 = .ok (.getfield 7, 3) := by decide +kernel
theorem dX12_look_140 : decode prog_14_method_126_code 140 = .ok (.iconst 4, 1) := by decide +kernel
theorem dX12_look_141 : decode prog_14_method_126_code 141 = .ok (.iaload, 1) := by decide +kernel
theorem dX12_look_142 : decode prog_14_method_126_code 142 = .ok (.ireturn, 1) := by decide +kernel
theorem dX12_look_143 : decode prog_14_method_126_code 143 = .ok (.aload_n 0, 1) := by decide +kernel
theorem dX12_look_144 : decode prog_14_method_126_code 144 = .ok (.getfield 7, 3) := by decide +kernel
theorem dX12_look_147 : decode prog_14_method_126_code 147 = .ok (.bipush 7, 2) := by decide +kernel
theorem dX12_look_149 : decode prog_14_method_126_code 149 = .ok (.iaload, 1) := by decide +kernel
theorem dX12_look_150 : decode prog_14_method_126_code 150 = .ok (.ireturn, 1) := by decide +kernel
theorem dX12_look_151 : decode prog_14_method_126_code 151 = .ok (.aload_n 0, 1) := by decide +kernel
theorem dX12_look_152 : decode prog_14_method_126_code 152 = .ok (.getfield 7, 3) := by decide +kernel
theorem dX12_look_155 : decode prog_14_method_126_code 155 = .ok (.bipush 6, 2) := by decide +kernel
theorem dX12_look_157 : decode prog_14_method_126_code 157 = .ok (.iaload, 1) := by decide +kernel
theorem dX12_look_158 : decode prog_14_method_126_code 158 = .ok (.ireturn, 1) := by decide +kernel
theorem dX12_look_159 : decode prog_14_method_126_code 159 = .ok (.aload_n 0, 1) := by decide +kernel
theorem dX12_look_160 : decode prog_14_method_126_code 160 = .ok (.getfield 7, 3) := by decide +kernel
theorem dX12_look_163 : decode prog_14_method_126_code 163 = .ok (.iconst 5, 1) := by decide +kernel
theorem dX12_look_164 : decode prog_14_method_126_code 164 = .ok (.iaload, 1) := by decide +kernel
theorem dX12_look_165 : decode prog_14_method_126_code 165 = .ok (.ireturn, 1) := by decide +kernel
theorem dX12_look_166 : decode prog_14_method_126_code 166 = .ok (.aload_n 0, 1) := by decide +kernel
theorem dX12_look_167 : decode prog_14_method_126_code 167 = .ok (.getfield 7, 3) := by decide +kernel
theorem dX12_look_170 : decode prog_14_method_126_code 170 = .ok (.bipush 40, 2) := by decide +kernel
theorem dX12_look_172 : decode prog_14_method_126_code 172 = .ok (.iaload, 1) := by decide +kernel
theorem dX12_look_173 : decode prog_14_method_126_code 173 = .ok (.ireturn, 1) := by decide +kernel
theorem dX12_look_174 : decode prog_14_method_126_code 174 = .ok (.aload_n 0, 1) := by decide +kernel
theorem dX12_look_175 : decode prog_14_method_126_code 175 = .ok (.getfield 7, 3) := by decide +kernel
theorem dX12_look_178 : decode prog_14_method_126_code 178 = .ok (.bipush 41, 2) := by decide +kernel
theorem dX12_look_180 : decode prog_14_method_126_code 180 = .ok (.iaload, 1) := by decide +kernel
theorem dX12_look_181 : decode prog_14_method_126_code 181 = .ok (.ireturn, 1) := by decide +kernel
theorem dX12_look_182 : decode prog_14_method_126_code 182 = .ok (.aload_n 0, 1) := by decide +kernel
theorem dX12_look_183 : decode prog_14_method_126_code 183 = .ok (.getfield 7, 3) := by decide +kernel
theorem dX12_look_186 : decode prog_14_method_126_code 186 = .ok (.bipush 42, 2) := by decide +kernel
theorem dX12_look_188 : decode prog_14_method_126_code 188 = .ok (.iaload, 1) := by decide +kernel
theorem dX12_look_189 : decode prog_14_method_126_code 189 = .ok (.ireturn, 1) := by decide +kernel
theorem dX12_look_190 : decode prog_14_method_126_code 190 = .ok (.aload_n 0, 1) := by decide +kernel
theorem dX12_look_191 : decode prog_14_method_126_code 191 = .ok (.getfield 7, 3) := by decide +kernel
theorem dX12_look_194 : decode prog_14_method_126_code 194 = .ok (.bipush 43, 2) := by decide +kernel
theorem dX12_look_196 : decode prog_14_method_126_code 196 = .ok (.iaload, 1) := by decide +kernel
theorem dX12_look_197 : decode prog_14_method_126_code 197 = .ok (.ireturn, 1) := by decide +kernel
theorem dX12_look_198 : decode prog_14_method_126_code 198 = .ok (.aload_n 0, 1) := by decide +kernel
theorem dX12_look_199 : decode prog_14_method_126_code 199 = .ok (.getfield 7, 3) := by decide +kernel
theorem dX12_look_202 : decode prog_14_method_126_code 202 = .ok (.bipush 44, 2) := by decide +kernel
theorem dX12_look_204 : decode prog_14_method_126_code 204 = .ok (.iaload, 1) := by decide +kernel
theorem dX12_look_205 : decode prog_14_method_126_code 205 = .ok (.ireturn, 1) := by decide +kernel
theorem dX12_look_206 : decode prog_14_method_126_code 206 = .ok (.aload_n 0, 1) := by decide +kernel
theorem dX12_look_207 : decode prog_14_method_126_code 207 = .ok (.getfield 60, 3) := by decide +kernel
theorem dX12_look_210 : decode prog_14_method_126_code 210 = .ok (.ireturn, 1) := by decide +kernel
theorem dX12_look_211 : decode prog_14_method_126_code 211 = .ok (.ldc_w 376, 3) := by decide +kernel
theorem dX12_look_214 : decode prog_14_method_126_code 214 = .ok (.ireturn, 1) := by decide +kernel
theorem dJ6_bitCount_0f7a4_0 : decode prog_15_method_49_code 0 = .ok (.iload_n 0, 1) := by decide +kernel
theorem dJ6_bitCount_0f7a4_1 : decode prog_15_method_49_code 1 = .ok (.iload_n 0, 1) := by decide +kernel
theorem dJ6_bitCount_0f7a4_2 : decode prog_15_method_49_code 2 = .ok (.iconst 1, 1) := by decide +kernel
theorem dJ6_bitCount_0f7a4_3 : decode prog_15_method_49_code 3 = .ok (.iushr, 1) := by decide +kernel
theorem dJ6_bitCount_0f7a4_4 : decode prog_15_method_49_code 4 = .ok (.ldc_w 265, 3) := by decide +kernel
theorem dJ6_bitCount_0f7a4_7 : decode prog_15_method_49_code 7 = .ok (.iand, 1) := by decide +kernel
theorem dJ6_bitCount_0f7a4_8 : decode prog_15_method_49_code 8 = .ok (.isub, 1) := by decide +kernel
theorem dJ6_bitCount_0f7a4_9 : decode prog_15_method_49_code 9 = .ok (.istore_n 0, 1) := by decide +kernel
theorem dJ6_bitCount_0f7a4_10 : decode prog_15_method_49_code 10 = .ok (.iload_n 0, 1) := by decide +kernel
theorem dJ6_bitCount_0f7a4_11 : decode prog_15_method_49_code 11 = .ok (.ldc_w 266, 3) := by decide +kernel
theorem dJ6_bitCount_0f7a4_14 : decode prog_15_method_49_code 14 = .ok (.iand, 1) := by decide +kernel
theorem dJ6_bitCount_0f7a4_15 : decode prog_15_method_49_code 15 = .ok (.iload_n 0, 1) := by decide +kernel
theorem dJ6_bitCount_0f7a4_16 : decode prog_15_method_49_code 16 = .ok (.iconst 2, 1) := by decide +kernel
theorem dJ6_bitCount_0f7a4_17 : decode prog_15_method_49_code 17 = .ok (.iushr, 1) := by decide +kernel
theorem dJ6_bitCount_0f7a4_18 : decode prog_15_method_49_code 18 = .ok (.ldc_w 266, 3) := by decide +kernel
theorem dJ6_bitCount_0f7a4_21 : decode prog_15_method_49_code 21 = .ok (.iand, 1) := by decide +kernel
theorem dJ6_bitCount_0f7a4_22 : decode prog_15_method_49_code 22 = .ok (.iadd, 1) := by decide +kernel
theorem dJ6_bitCount_0f7a4_23 : decode prog_15_method_49_code 23 = .ok (.istore_n 0, 1) := by decide +kernel
theorem dJ6_bitCount_0f7a4_24 : decode prog_15_method_49_code 24 = .ok (.iload_n 0, 1) := by decide +kernel
theorem dJ6_bitCount_0f7a4_25 : decode prog_15_method_49_code 25 = .ok (.iload_n 0, 1) := by decide +kernel
theorem dJ6_bitCount_0f7a4_26 : decode prog_15_method_49_code 26 = .ok (.iconst 4, 1) := by decide +kernel
theorem dJ6_bitCount_0f7a4_27 : decode prog_15_method_49_code 27 = .ok (.iushr, 1) := by decide +kernel
theorem dJ6_bitCount_0f7a4_28 : decode prog_15_method_49_code 28 = .ok (.iadd, 1) := by decide +kernel
theorem dJ6_bitCount_0f7a4_29 : decode prog_15_method_49_code 29 = .ok (.ldc_w 267, 3) := by decide +kernel
theorem dJ6_bitCount_0f7a4_32 : decode prog_15_method_49_code 32 = .ok (.iand, 1) := by decide +kernel
theorem dJ6_bitCount_0f7a4_33 : decode prog_15_method_49_code 33 = .ok (.istore_n 0, 1) := by decide +kernel
theorem dJ6_bitCount_0f7a4_34 : decode prog_15_method_49_code 34 = .ok (.iload_n 0, 1) := by decide +kernel
theorem dJ6_bitCount_0f7a4_35 : decode prog_15_method_49_code 35 = .ok (.iload_n 0, 1) := by decide +kernel
theorem dJ6_bitCount_0f7a4_36 : decode prog_15_method_49_code 36 = .ok (.bipush 8, 2) := by decide +kernel
theorem dJ6_bitCount_0f7a4_38 : decode prog_15_method_49_code 38 = .ok (.iushr, 1) := by decide +kernel
theorem dJ6_bitCount_0f7a4_39 : decode prog_15_method_49_code 39 = .ok (.iadd, 1) := by decide +kernel
theorem dJ6_bitCount_0f7a4_40 : decode prog_15_method_49_code 40 = .ok (.istore_n 0, 1) := by decide +kernel
theorem dJ6_bitCount_0f7a4_41 : decode prog_15_method_49_code 41 = .ok (.iload_n 0, 1) := by decide +kernel
theorem dJ6_bitCount_0f7a4_42 : decode prog_15_method_49_code 42 = .ok (.iload_n 0, 1) := by decide +kernel
theorem dJ6_bitCount_0f7a4_43 : decode prog_15_method_49_code 43 = .ok (.bipush 16, 2) := by decide +kernel
theorem dJ6_bitCount_0f7a4_45 : decode prog_15_method_49_code 45 = .ok (.iushr, 1) := by decide +kernel
theorem dJ6_bitCount_0f7a4_46 : decode prog_15_method_49_code 46 = .ok (.iadd, 1) := by decide +kernel
theorem dJ6_bitCount_0f7a4_47 : decode prog_15_method_49_code 47 = .ok (.istore_n 0, 1) := by decide +kernel
theorem dJ6_bitCount_0f7a4_48 : decode prog_15_method_49_code 48 = .ok (.iload_n 0, 1) := by decide +kernel
theorem dJ6_bitCount_0f7a4_49 : decode prog_15_method_49_code 49 = .ok (.bipush 63, 2) := by decide +kernel
theorem dJ6_bitCount_0f7a4_51 : decode prog_15_method_49_code 51 = .ok (.iand, 1) := by decide +kernel
theorem dJ6_bitCount_0f7a4_52 : decode prog_15_method_49_code 52 = .ok (.ireturn, 1) := by decide +kernel
theorem dJ9_max_7cf53_0 : decode prog_16_method_65_code 0 = .ok (.iload_n 0, 1) := by decide +kernel
theorem dJ9_max_7cf53_1 : decode prog_16_method_65_code 1 = .ok (.iload_n 1, 1) := by decide +kernel
theorem dJ9_max_7cf53_2 : decode prog_16_method_65_code 2 = .ok (.if_icmp .lt 7, 3) := by decide +kernel
theorem dJ9_max_7cf53_5 : decode prog_16_method_65_code 5 = .ok (.iload_n 0, 1) := by decide +kernel
theorem dJ9_max_7cf53_6 : decode prog_16_method_65_code 6 = .ok (.goto 4, 3) := by decide +kernel
theorem dJ9_max_7cf53_9 : decode prog_16_method_65_code 9 = .ok (.iload_n 1, 1) := by decide +kernel
theorem dJ9_max_7cf53_10 : decode prog_16_method_65_code 10 = .ok (.ireturn, 1) := by decide +kernel
theorem dJ9_min_7cf53_0 : decode prog_16_method_69_code 0 = .ok (.iload_n 0, 1) := by decide +kernel
theorem dJ9_min_7cf53_1 : decode prog_16_method_69_code 1 = .ok (.iload_n 1, 1) := by decide +kernel
theorem dJ9_min_7cf53_2 : decode prog_16_method_69_code 2 = .ok (.if_icmp .gt 7, 3) := by decide +kernel
theorem dJ9_min_7cf53_5 : decode prog_16_method_69_code 5 = .ok (.iload_n 0, 1) := by decide +kernel
theorem dJ9_min_7cf53_6 : decode prog_16_method_69_code 6 = .ok (.goto 4, 3) := by decide +kernel
theorem dJ9_min_7cf53_9 : decode prog_16_method_69_code 9 = .ok (.iload_n 1, 1) := by decide +kernel
theorem dJ9_min_7cf53_10 : decode prog_16_method_69_code 10 = .ok (.ireturn, 1) := by decide +kernel
theorem dJ0_length_8abf5_0 : decode prog_17_method_54_code 0 = .ok (.aload_n 0, 1) := by decide +kernel
theorem dJ0_length_8abf5_1 : decode prog_17_method_54_code 1 = .ok (.getfield 9, 3) := by decide +kernel
theorem dJ0_length_8abf5_4 : decode prog_17_method_54_code 4 = .ok (.arraylength, 1) := by decide +kernel
theorem dJ0_length_8abf5_5 : decode prog_17_method_54_code 5 = .ok (.aload_n 0, 1) := by decide +kernel
theorem dJ0_length_8abf5_6 : decode prog_17_method_54_code 6 = .ok (.invokevirtual 335, 3) := by decide +kernel
theorem dJ0_length_8abf5_9 : decode prog_17_method_54_code 9 = .ok (.ishr, 1) := by decide +kernel
theorem dJ0_length_8abf5_10 : decode prog_17_method_54_code 10 = .ok (.ireturn, 1) := by decide +kernel
theorem dJ0_charAt_5068e_0 : decode prog_17_method_56_code 0 = .ok (.aload_n 0, 1) := by decide +kernel
theorem dJ0_charAt_5068e_1 : decode prog_17_method_56_code 1 = .ok (.invokevirtual 492, 3) := by decide +kernel
theorem dJ0_charAt_5068e_4 : decode prog_17_method_56_code 4 = .ok (.ifCond .eq 12, 3) := by decide +kernel
theorem dJ0_charAt_5068e_7 : decode prog_17_method_56_code 7 = .ok (.aload_n 0, 1) := by decide +kernel
theorem dJ0_charAt_5068e_8 : decode prog_17_method_56_code 8 = .ok (.getfield 9, 3) := by decide +kernel
theorem dJ0_charAt_5068e_11 : decode prog_17_method_56_code 11 = .ok (.iload_n 1, 1) := by decide +kernel
theorem dJ0_charAt_5068e_12 : decode prog_17_method_56_code 12 = .ok (.invokestatic 495, 3) := by decide +kernel
theorem dJ0_charAt_5068e_15 : decode prog_17_method_56_code 15 = .ok (.ireturn, 1) := by decide +kernel
theorem dJ0_charAt_5068e_16 : decode prog_17_method_56_code 16 = .ok (.aload_n 0, 1) := by decide +kernel
theorem dJ0_charAt_5068e_17 : decode prog_17_method_56_code 17 = .ok (.getfield 9, 3) := by decide +kernel
theorem dJ0_charAt_5068e_20 : decode prog_17_method_56_code 20 = .ok (.iload_n 1, 1) := by decide +kernel
theorem dJ0_charAt_5068e_21 : decode prog_17_method_56_code 21 = .ok (.invokestatic 498, 3) := by decide +kernel
theorem dJ0_charAt_5068e_24 : decode prog_17_method_56_code 24 = .ok (.ireturn, 1) := by decide +kernel
theorem dJ0_coder_7d493_0 : decode prog_17_method_152_code 0 = .ok (.getstatic 38, 3) := by decide +kernel
theorem dJ0_coder_7d493_3 : decode prog_17_method_152_code 3 = .ok (.ifCond .eq 10, 3) := by decide +kernel
theorem dJ0_coder_7d493_6 : decode prog_17_method_152_code 6 = .ok (.aload_n 0, 1) := by decide +kernel
theorem dJ0_coder_7d493_7 : decode prog_17_method_152_code 7 = .ok (.getfield 15, 3) := by decide +kernel
theorem dJ0_coder_7d493_10 : decode prog_17_method_152_code 10 = .ok (.goto 4, 3) := by decide +kernel
theorem dJ0_coder_7d493_13 : decode prog_17_method_152_code 13 = .ok (.iconst 1, 1) := by decide +kernel
theorem dJ0_coder_7d493_14 : decode prog_17_method_152_code 14 = .ok (.ireturn, 1) := by decide +kernel
theorem dJ0_isLatin1_aae02_0 : decode prog_17_method_154_code 0 = .ok (.getstatic 38, 3) := by decide +kernel
theorem dJ0_isLatin1_aae02_3 : decode prog_17_method_154_code 3 = .ok (.ifCond .eq 14, 3) := by decide +kernel
theorem dJ0_isLatin1_aae02_6 : decode prog_17_method_154_code 6 = .ok (.aload_n 0, 1) := by decide +kernel
theorem dJ0_isLatin1_aae02_7 : decode prog_17_method_154_code 7 = .ok (.getfield 15, 3) := by decide +kernel
theorem dJ0_isLatin1_aae02_10 : decode prog_17_method_154_code 10 = .ok (.ifCond .ne 7, 3) := by decide +kernel
theorem dJ0_isLatin1_aae02_13 : decode prog_17_method_154_code 13 = .ok (.iconst 1, 1) := by decide +kernel
theorem dJ0_isLatin1_aae02_14 : decode prog_17_method_154_code 14 = .ok (.goto 4, 3) := by decide +kernel
theorem dJ0_isLatin1_aae02_17 : decode prog_17_method_154_code 17 = .ok (.iconst 0, 1) := by decide +kernel
theorem dJ0_isLatin1_aae02_18 : decode prog_17_method_154_code 18 = .ok (.ireturn, 1) := by decide +kernel
theorem dJ0_checkIndex_df160_0 : decode prog_17_method_155_code 0 = .ok (.iload_n 0, 1) := by decide +kernel
theorem dJ0_checkIndex_df160_1 : decode prog_17_method_155_code 1 = .ok (.iload_n 1, 1) := by decide +kernel
theorem dJ0_checkIndex_df160_2 : decode prog_17_method_155_code 2 = .ok (.getstatic 1053, 3) := by decide +kernel
theorem dJ0_checkIndex_df160_5 : decode prog_17_method_155_code 5 = .ok (.invokestatic 1059, 3) := by decide +kernel
theorem dJ0_checkIndex_df160_8 : decode prog_17_method_155_code 8 = .ok (.pop, 1) := by decide +kernel
theorem dJ0_checkIndex_df160_9 : decode prog_17_method_155_code 9 = .ok (.return_, 1) := by decide +kernel
theorem dJ1_charAt_3b067_0 : decode prog_18_method_2_code 0 = .ok (.iload_n 1, 1) := by decide +kernel
theorem dJ1_charAt_3b067_1 : decode prog_18_method_2_code 1 = .ok (.aload_n 0, 1) := by decide +kernel
theorem dJ1_charAt_3b067_2 : decode prog_18_method_2_code 2 = .ok (.arraylength, 1) := by decide +kernel
theorem dJ1_charAt_3b067_3 : decode prog_18_method_2_code 3 = .ok (.invokestatic 9, 3) := by decide +kernel
theorem dJ1_charAt_3b067_6 : decode prog_18_method_2_code 6 = .ok (.aload_n 0, 1) := by decide +kernel
theorem dJ1_charAt_3b067_7 : decode prog_18_method_2_code 7 = .ok (.iload_n 1, 1) := by decide +kernel
theorem dJ1_charAt_3b067_8 : decode prog_18_method_2_code 8 = .ok (.baload, 1) := by decide +kernel
theorem dJ1_charAt_3b067_9 : decode prog_18_method_2_code 9 = .ok (.sipush 255, 3) := by decide +kernel
theorem dJ1_charAt_3b067_12 : decode prog_18_method_2_code 12 = .ok (.iand, 1) := by decide +kernel
theorem dJ1_charAt_3b067_13 : decode prog_18_method_2_code 13 = .ok (.i2c, 1) := by decide +kernel
theorem dJ1_charAt_3b067_14 : decode prog_18_method_2_code 14 = .ok (.ireturn, 1) := by decide +kernel
theorem dJ2_getChar_3b067_0 : decode prog_19_method_5_code 0 = .ok (.getstatic 44, 3) := by decide +kernel
theorem dJ2_getChar_3b067_3 : decode prog_19_method_5_code 3 = .ok (.ifCond .ne 25, 3) := by decide +kernel
theorem dJ2_getChar_3b067_6 : decode prog_19_method_5_code 6 = .ok (.iload_n 1, 1) := by decide +kernel
theorem dJ2_getChar_3b067_7 : decode prog_19_method_5_code 7 = .ok (.ifCond .lt 11, 3) := by decide +kernel
theorem dJ2_getChar_3b067_10 : decode prog_19_method_5_code 10 = .ok (.iload_n 1, 1) := by decide +kernel
theorem dJ2_getChar_3b067_11 : decode prog_19_method_5_code 11 = .ok (.aload_n 0, 1) := by decide +kernel
theorem dJ2_getChar_3b067_12 : decode prog_19_method_5_code 12 = .ok (.invokestatic 48, 3) := by decide +kernel
theorem dJ2_getChar_3b067_15 : decode prog_19_method_5_code 15 = .ok (.if_icmp .lt 13, 3) := by decide +kernel
theorem dJ2_getChar_3b067_18 : decode prog_19_method_5_code 18 = .ok (.new 52, 3) := by decide +kernel
theorem dJ2_getChar_3b067_21 : decode prog_19_method_5_code 21 = .ok (.dup, 1) := by decide +kernel
theorem dJ2_getChar_3b067_22 : decode prog_19_method_5_code 22 = .ok (.ldc 54, 2) := by decide +kernel
theorem dJ2_getChar_3b067_24 : decode prog_19_method_5_code 24 = .ok (.invokespecial 56, 3) := by decide +kernel
theorem dJ2_getChar_3b067_27 : decode prog_19_method_5_code 27 = .ok (.athrow, 1) := by decide +kernel
theorem dJ2_getChar_3b067_28 : decode prog_19_method_5_code 28 = .ok (.iload_n 1, 1) := by decide +kernel
theorem dJ2_getChar_3b067_29 : decode prog_19_method_5_code 29 = .ok (.iconst 1, 1) := by decide +kernel
theorem dJ2_getChar_3b067_30 : decode prog_19_method_5_code 30 = .ok (.ishl, 1) := by decide +kernel
theorem dJ2_getChar_3b067_31 : decode prog_19_method_5_code 31 = .ok (.istore_n 1, 1) := by decide +kernel
theorem dJ2_getChar_3b067_32 : decode prog_19_method_5_code 32 = .ok (.aload_n 0, 1) := by decide +kernel
theorem dJ2_getChar_3b067_33 : decode prog_19_method_5_code 33 = .ok (.iload_n 1, 1) := by decide +kernel
theorem dJ2_getChar_3b067_34 : decode prog_19_method_5_code 34 = .ok (.iinc 1 1, 3) := by decide +kernel
theorem dJ2_getChar_3b067_37 : decode prog_19_method_5_code 37 = .ok (.baload, 1) := by decide +kernel
theorem dJ2_getChar_3b067_38 : decode prog_19_method_5_code 38 = .ok (.sipush 255, 3) := by decide +kernel
theorem dJ2_getChar_3b067_41 : decode prog_19_method_5_code 41 = .ok (.iand, 1) := by decide +kernel
theorem dJ2_getChar_3b067_42 : decode prog_19_method_5_code 42 = .ok (.getstatic 59, 3) := by decide +kernel
theorem dJ2_getChar_3b067_45 : decode prog_19_method_5_code 45 = .ok (.ishl, 1) := by decide +kernel
theorem dJ2_getChar_3b067_46 : decode prog_19_method_5_code 46 = .ok (.aload_n 0, 1) := by decide +kernel
theorem dJ2_getChar_3b067_47 : decode prog_19_method_5_code 47 = .ok (.iload_n 1, 1) := by decide +kernel
theorem dJ2_getChar_3b067_48 : decode prog_19_method_5_code 48 = .ok (.baload, 1) := by decide +kernel
theorem dJ2_getChar_3b067_49 : decode prog_19_method_5_code 49 = .ok (.sipush 255, 3) := by decide +kernel
theorem dJ2_getChar_3b067_52 : decode prog_19_method_5_code 52 = .ok (.iand, 1) := by decide +kernel
theorem dJ2_getChar_3b067_53 : decode prog_19_method_5_code 53 = .ok (.getstatic 63, 3) := by decide +kernel
theorem dJ2_getChar_3b067_56 : decode prog_19_method_5_code 56 = .ok (.ishl, 1) := by decide +kernel
theorem dJ2_getChar_3b067_57 : decode prog_19_method_5_code 57 = .ok (.ior, 1) := by decide +kernel
theorem dJ2_getChar_3b067_58 : decode prog_19_method_5_code 58 = .ok (.i2c, 1) := by decide +kernel
theorem dJ2_getChar_3b067_59 : decode prog_19_method_5_code 59 = .ok (.ireturn, 1) := by decide +kernel
theorem dJ2_length_9d52b_0 : decode prog_19_method_6_code 0 = .ok (.aload_n 0, 1) := by decide +kernel
theorem dJ2_length_9d52b_1 : decode prog_19_method_6_code 1 = .ok (.arraylength, 1) := by decide +kernel
theorem dJ2_length_9d52b_2 : decode prog_19_method_6_code 2 = .ok (.iconst 1, 1) := by decide +kernel
theorem dJ2_length_9d52b_3 : decode prog_19_method_6_code 3 = .ok (.ishr, 1) := by decide +kernel
theorem dJ2_length_9d52b_4 : decode prog_19_method_6_code 4 = .ok (.ireturn, 1) := by decide +kernel
theorem dJ2_charAt_3b067_0 : decode prog_19_method_83_code 0 = .ok (.iload_n 1, 1) := by decide +kernel
theorem dJ2_charAt_3b067_1 : decode prog_19_method_83_code 1 = .ok (.aload_n 0, 1) := by decide +kernel
theorem dJ2_charAt_3b067_2 : decode prog_19_method_83_code 2 = .ok (.invokestatic 67, 3) := by decide +kernel
theorem dJ2_charAt_3b067_5 : decode prog_19_method_83_code 5 = .ok (.aload_n 0, 1) := by decide +kernel
theorem dJ2_charAt_3b067_6 : decode prog_19_method_83_code 6 = .ok (.iload_n 1, 1) := by decide +kernel
theorem dJ2_charAt_3b067_7 : decode prog_19_method_83_code 7 = .ok (.invokestatic 71, 3) := by decide +kernel
theorem dJ2_charAt_3b067_10 : decode prog_19_method_83_code 10 = .ok (.ireturn, 1) := by decide +kernel
theorem dJ2_checkIndex_2214a_0 : decode prog_19_method_91_code 0 = .ok (.iload_n 0, 1) := by decide +kernel
theorem dJ2_checkIndex_2214a_1 : decode prog_19_method_91_code 1 = .ok (.aload_n 1, 1) := by decide +kernel
theorem dJ2_checkIndex_2214a_2 : decode prog_19_method_91_code 2 = .ok (.invokestatic 48, 3) := by decide +kernel
theorem dJ2_checkIndex_2214a_5 : decode prog_19_method_91_code 5 = .ok (.invokestatic 414, 3) := by decide +kernel
theorem dJ2_checkIndex_2214a_8 : decode prog_19_method_91_code 8 = .ok (.return_, 1) := by decide +kernel
theorem dJ3_checkIndex_8e157_0 : decode prog_21_method_11_code 0 = .ok (.iload_n 0, 1) := by decide +kernel
theorem dJ3_checkIndex_8e157_1 : decode prog_21_method_11_code 1 = .ok (.ifCond .lt 8, 3) := by decide +kernel
theorem dJ3_checkIndex_8e157_4 : decode prog_21_method_11_code 4 = .ok (.iload_n 0, 1) := by decide +kernel
theorem dJ3_checkIndex_8e157_5 : decode prog_21_method_11_code 5 = .ok (.iload_n 1, 1) := by decide +kernel
theorem dJ3_checkIndex_8e157_6 : decode prog_21_method_11_code 6 = .ok (.if_icmp .lt 10, 3) := by decide +kernel
theorem dJ3_checkIndex_8e157_9 : decode prog_21_method_11_code 9 = .ok (.aload_n 2, 1) := by decide +kernel
theorem dJ3_checkIndex_8e157_10 : decode prog_21_method_11_code 10 = .ok (.iload_n 0, 1) := by decide +kernel
theorem dJ3_checkIndex_8e157_11 : decode prog_21_method_11_code 11 = .ok (.iload_n 1, 1) := by decide +kernel
theorem dJ3_checkIndex_8e157_12 : decode prog_21_method_11_code 12 = .ok (.invokestatic 95, 3) := by decide +kernel
theorem dJ3_checkIndex_8e157_15 : decode prog_21_method_11_code 15 = .ok (.athrow, 1) := by decide +kernel
theorem dJ3_checkIndex_8e157_16 : decode prog_21_method_11_code 16 = .ok (.iload_n 0, 1) := by decide +kernel
theorem dJ3_checkIndex_8e157_17 : decode prog_21_method_11_code 17 = .ok (.ireturn, 1) := by decide +kernel
theorem dL_law_0 : decode code 0 = .ok (.new 7, 3) := by decide +kernel
theorem dL_law_3 : decode code 3 = .ok (.dup, 1) := by decide +kernel
theorem dL_law_4 : decode code 4 = .ok (.invokespecial 9, 3) := by decide +kernel
theorem dL_law_7 : decode code 7 = .ok (.astore_n 1, 1) := by decide +kernel
theorem dL_law_8 : decode code 8 = .ok (.new 10, 3) := by decide +kernel
theorem dL_law_11 : decode code 11 = .ok (.dup, 1) := by decide +kernel
theorem dL_law_12 : decode code 12 = .ok (.invokespecial 12, 3) := by decide +kernel
theorem dL_law_15 : decode code 15 = .ok (.astore_n 2, 1) := by decide +kernel
theorem dL_law_16 : decode code 16 = .ok (.iconst 0, 1) := by decide +kernel
theorem dL_law_17 : decode code 17 = .ok (.istore_n 3, 1) := by decide +kernel
theorem dL_law_18 : decode code 18 = .ok (.iload_n 3, 1) := by decide +kernel
theorem dL_law_19 : decode code 19 = .ok (.aload_n 0, 1) := by decide +kernel
theorem dL_law_20 : decode code 20 = .ok (.arraylength, 1) := by decide +kernel
theorem dL_law_21 : decode code 21 = .ok (.bipush 6, 2) := by decide +kernel
theorem dL_law_23 : decode code 23 = .ok (.isub, 1) := by decide +kernel
theorem dL_law_24 : decode code 24 = .ok (.if_icmp .gt 1512, 3) := by decide +kernel
theorem dL_law_27 : decode code 27 = .ok (.aload_n 0, 1) := by decide +kernel
theorem dL_law_28 : decode code 28 = .ok (.iload_n 3, 1) := by decide +kernel
theorem dL_law_29 : decode code 29 = .ok (.iaload, 1) := by decide +kernel
theorem dL_law_30 : decode code 30 = .ok (.bipush 63, 2) := by decide +kernel
theorem dL_law_32 : decode code 32 = .ok (.iand, 1) := by decide +kernel
theorem dL_law_33 : decode code 33 = .ok (.tableswitch 1497 0 41 #[183, 206, 249, 292, 335, 358, 391, 440, 489, 512, 575, 598, 621, 644, 677, 710, 733, 766, 789, 822, 865, 898, 931, 964, 987, 1030, 1063, 1096, 1139, 1172, 1185, 1208, 1241, 1274, 1297, 1330, 1353, 1376, 1399, 1422, 1435, 1474], 183) := by decide +kernel
theorem dL_law_216 : decode code 216 = .ok (.aload_n 1, 1) := by decide +kernel
theorem dL_law_217 : decode code 217 = .ok (.aload_n 0, 1) := by decide +kernel
theorem dL_law_218 : decode code 218 = .ok (.iload_n 3, 1) := by decide +kernel
theorem dL_law_219 : decode code 219 = .ok (.iconst 1, 1) := by decide +kernel
theorem dL_law_220 : decode code 220 = .ok (.iadd, 1) := by decide +kernel
theorem dL_law_221 : decode code 221 = .ok (.iaload, 1) := by decide +kernel
theorem dL_law_222 : decode code 222 = .ok (.invokevirtual 13, 3) := by decide +kernel
theorem dL_law_225 : decode code 225 = .ok (.aload_n 2, 1) := by decide +kernel
theorem dL_law_226 : decode code 226 = .ok (.aload_n 0, 1) := by decide +kernel
theorem dL_law_227 : decode code 227 = .ok (.iload_n 3, 1) := by decide +kernel
theorem dL_law_228 : decode code 228 = .ok (.iconst 1, 1) := by decide +kernel
theorem dL_law_229 : decode code 229 = .ok (.iadd, 1) := by decide +kernel
theorem dL_law_230 : decode code 230 = .ok (.iaload, 1) := by decide +kernel
theorem dL_law_231 : decode code 231 = .ok (.invokevirtual 17, 3) := by decide +kernel
theorem dL_law_234 : decode code 234 = .ok (.if_icmp .eq 1296, 3) := by decide +kernel
theorem dL_law_237 : decode code 237 = .ok (.iconst 0, 1) := by decide +kernel
theorem dL_law_238 : decode code 238 = .ok (.ireturn, 1) := by decide +kernel
theorem dL_law_239 : decode code 239 = .ok (.aload_n 1, 1) := by decide +kernel
theorem dL_law_240 : decode code 240 = .ok (.aload_n 0, 1) := by decide +kernel
theorem dL_law_241 : decode code 241 = .ok (.iload_n 3, 1) := by decide +kernel
theorem dL_law_242 : decode code 242 = .ok (.iconst 1, 1) := by decide +kernel
theorem dL_law_243 : decode code 243 = .ok (.iadd, 1) := by decide +kernel
theorem dL_law_244 : decode code 244 = .ok (.iaload, 1) := by decide +kernel
theorem dL_law_245 : decode code 245 = .ok (.aload_n 0, 1) := by decide +kernel
theorem dL_law_246 : decode code 246 = .ok (.iload_n 3, 1) := by decide +kernel
theorem dL_law_247 : decode code 247 = .ok (.iconst 2, 1) := by decide +kernel
theorem dL_law_248 : decode code 248 = .ok (.iadd, 1) := by decide +kernel
theorem dL_law_249 : decode code 249 = .ok (.iaload, 1) := by decide +kernel
theorem dL_law_250 : decode code 250 = .ok (.aload_n 0, 1) := by decide +kernel
theorem dL_law_251 : decode code 251 = .ok (.iload_n 3, 1) := by decide +kernel
theorem dL_law_252 : decode code 252 = .ok (.iconst 3, 1) := by decide +kernel
theorem dL_law_253 : decode code 253 = .ok (.iadd, 1) := by decide +kernel
theorem dL_law_254 : decode code 254 = .ok (.iaload, 1) := by decide +kernel
theorem dL_law_255 : decode code 255 = .ok (.invokevirtual 18, 3) := by decide +kernel
theorem dL_law_258 : decode code 258 = .ok (.aload_n 2, 1) := by decide +kernel
theorem dL_law_259 : decode code 259 = .ok (.aload_n 0, 1) := by decide +kernel
theorem dL_law_260 : decode code 260 = .ok (.iload_n 3, 1) := by decide +kernel
theorem dL_law_261 : decode code 261 = .ok (.iconst 1, 1) := by decide +kernel
theorem dL_law_262 : decode code 262 = .ok (.iadd, 1) := by decide +kernel
theorem dL_law_263 : decode code 263 = .ok (.iaload, 1) := by decide +kernel
theorem dL_law_264 : decode code 264 = .ok (.aload_n 0, 1) := by decide +kernel
theorem dL_law_265 : decode code 265 = .ok (.iload_n 3, 1) := by decide +kernel
theorem dL_law_266 : decode code 266 = .ok (.iconst 2, 1) := by decide +kernel
theorem dL_law_267 : decode code 267 = .ok (.iadd, 1) := by decide +kernel
theorem dL_law_268 : decode code 268 = .ok (.iaload, 1) := by decide +kernel
theorem dL_law_269 : decode code 269 = .ok (.aload_n 0, 1) := by decide +kernel
theorem dL_law_270 : decode code 270 = .ok (.iload_n 3, 1) := by decide +kernel
theorem dL_law_271 : decode code 271 = .ok (.iconst 3, 1) := by decide +kernel
theorem dL_law_272 : decode code 272 = .ok (.iadd, 1) := by decide +kernel
theorem dL_law_273 : decode code 273 = .ok (.iaload, 1) := by decide +kernel
theorem dL_law_274 : decode code 274 = .ok (.invokevirtual 22, 3) := by decide +kernel
theorem dL_law_277 : decode code 277 = .ok (.if_icmp .eq 1253, 3) := by decide +kernel
theorem dL_law_280 : decode code 280 = .ok (.iconst 0, 1) := by decide +kernel
theorem dL_law_281 : decode code 281 = .ok (.ireturn, 1) := by decide +kernel
theorem dL_law_282 : decode code 282 = .ok (.aload_n 1, 1) := by decide +kernel
theorem dL_law_283 : decode code 283 = .ok (.aload_n 0, 1) := by decide +kernel
theorem dL_law_284 : decode code 284 = .ok (.iload_n 3, 1) := by decide +kernel
theorem dL_law_285 : decode code 285 = .ok (.iconst 1, 1) := by decide +kernel
theorem dL_law_286 : decode code 286 = .ok (.iadd, 1) := by decide +kernel
theorem dL_law_287 : decode code 287 = .ok (.iaload, 1) := by decide +kernel
theorem dL_law_288 : decode code 288 = .ok (.aload_n 0, 1) := by decide +kernel
theorem dL_law_289 : decode code 289 = .ok (.iload_n 3, 1) := by decide +kernel
theorem dL_law_290 : decode code 290 = .ok (.iconst 2, 1) := by decide +kernel
theorem dL_law_291 : decode code 291 = .ok (.iadd, 1) := by decide +kernel
theorem dL_law_292 : decode code 292 = .ok (.iaload, 1) := by decide +kernel
theorem dL_law_293 : decode code 293 = .ok (.aload_n 0, 1) := by decide +kernel
theorem dL_law_294 : decode code 294 = .ok (.iload_n 3, 1) := by decide +kernel
theorem dL_law_295 : decode code 295 = .ok (.iconst 3, 1) := by decide +kernel
theorem dL_law_296 : decode code 296 = .ok (.iadd, 1) := by decide +kernel
theorem dL_law_297 : decode code 297 = .ok (.iaload, 1) := by decide +kernel
theorem dL_law_298 : decode code 298 = .ok (.invokevirtual 23, 3) := by decide +kernel
theorem dL_law_301 : decode code 301 = .ok (.aload_n 2, 1) := by decide +kernel
theorem dL_law_302 : decode code 302 = .ok (.aload_n 0, 1) := by decide +kernel
theorem dL_law_303 : decode code 303 = .ok (.iload_n 3, 1) := by decide +kernel
theorem dL_law_304 : decode code 304 = .ok (.iconst 1, 1) := by decide +kernel
theorem dL_law_305 : decode code 305 = .ok (.iadd, 1) := by decide +kernel
theorem dL_law_306 : decode code 306 = .ok (.iaload, 1) := by decide +kernel
theorem dL_law_307 : decode code 307 = .ok (.aload_n 0, 1) := by decide +kernel
theorem dL_law_308 : decode code 308 = .ok (.iload_n 3, 1) := by decide +kernel
theorem dL_law_309 : decode code 309 = .ok (.iconst 2, 1) := by decide +kernel
theorem dL_law_310 : decode code 310 = .ok (.iadd, 1) := by decide +kernel
theorem dL_law_311 : decode code 311 = .ok (.iaload, 1) := by decide +kernel
theorem dL_law_312 : decode code 312 = .ok (.aload_n 0, 1) := by decide +kernel
theorem dL_law_313 : decode code 313 = .ok (.iload_n 3, 1) := by decide +kernel
theorem dL_law_314 : decode code 314 = .ok (.iconst 3, 1) := by decide +kernel
theorem dL_law_315 : decode code 315 = .ok (.iadd, 1) := by decide +kernel
theorem dL_law_316 : decode code 316 = .ok (.iaload, 1) := by decide +kernel
theorem dL_law_317 : decode code 317 = .ok (.invokevirtual 26, 3) := by decide +kernel
theorem dL_law_320 : decode code 320 = .ok (.if_icmp .eq 1210, 3) := by decide +kernel
theorem dL_law_323 : decode code 323 = .ok (.iconst 0, 1) := by decide +kernel
theorem dL_law_324 : decode code 324 = .ok (.ireturn, 1) := by decide +kernel
theorem dL_law_325 : decode code 325 = .ok (.aload_n 1, 1) := by decide +kernel
theorem dL_law_326 : decode code 326 = .ok (.aload_n 0, 1) := by decide +kernel
theorem dL_law_327 : decode code 327 = .ok (.iload_n 3, 1) := by decide +kernel
theorem dL_law_328 : decode code 328 = .ok (.iconst 1, 1) := by decide +kernel
theorem dL_law_329 : decode code 329 = .ok (.iadd, 1) := by decide +kernel
theorem dL_law_330 : decode code 330 = .ok (.iaload, 1) := by decide +kernel
theorem dL_law_331 : decode code 331 = .ok (.aload_n 0, 1) := by decide +kernel
theorem dL_law_332 : decode code 332 = .ok (.iload_n 3, 1) := by decide +kernel
theorem dL_law_333 : decode code 333 = .ok (.iconst 2, 1) := by decide +kernel
theorem dL_law_334 : decode code 334 = .ok (.iadd, 1) := by decide +kernel
theorem dL_law_335 : decode code 335 = .ok (.iaload, 1) := by decide +kernel
theorem dL_law_336 : decode code 336 = .ok (.aload_n 0, 1) := by decide +kernel
theorem dL_law_337 : decode code 337 = .ok (.iload_n 3, 1) := by decide +kernel
theorem dL_law_338 : decode code 338 = .ok (.iconst 3, 1) := by decide +kernel
theorem dL_law_339 : decode code 339 = .ok (.iadd, 1) := by decide +kernel
theorem dL_law_340 : decode code 340 = .ok (.iaload, 1) := by decide +kernel
theorem dL_law_341 : decode code 341 = .ok (.invokevirtual 27, 3) := by decide +kernel
theorem dL_law_344 : decode code 344 = .ok (.aload_n 2, 1) := by decide +kernel
theorem dL_law_345 : decode code 345 = .ok (.aload_n 0, 1) := by decide +kernel
theorem dL_law_346 : decode code 346 = .ok (.iload_n 3, 1) := by decide +kernel
theorem dL_law_347 : decode code 347 = .ok (.iconst 1, 1) := by decide +kernel
theorem dL_law_348 : decode code 348 = .ok (.iadd, 1) := by decide +kernel
theorem dL_law_349 : decode code 349 = .ok (.iaload, 1) := by decide +kernel
theorem dL_law_350 : decode code 350 = .ok (.aload_n 0, 1) := by decide +kernel
theorem dL_law_351 : decode code 351 = .ok (.iload_n 3, 1) := by decide +kernel
theorem dL_law_352 : decode code 352 = .ok (.iconst 2, 1) := by decide +kernel
theorem dL_law_353 : decode code 353 = .ok (.iadd, 1) := by decide +kernel
theorem dL_law_354 : decode code 354 = .ok (.iaload, 1) := by decide +kernel
theorem dL_law_355 : decode code 355 = .ok (.aload_n 0, 1) := by decide +kernel
theorem dL_law_356 : decode code 356 = .ok (.iload_n 3, 1) := by decide +kernel
theorem dL_law_357 : decode code 357 = .ok (.iconst 3, 1) := by decide +kernel
theorem dL_law_358 : decode code 358 = .ok (.iadd, 1) := by decide +kernel
theorem dL_law_359 : decode code 359 = .ok (.iaload, 1) := by decide +kernel
theorem dL_law_360 : decode code 360 = .ok (.invokevirtual 31, 3) := by decide +kernel
theorem dL_law_363 : decode code 363 = .ok (.if_icmp .eq 1167, 3) := by decide +kernel
theorem dL_law_366 : decode code 366 = .ok (.iconst 0, 1) := by decide +kernel
theorem dL_law_367 : decode code 367 = .ok (.ireturn, 1) := by decide +kernel
theorem dL_law_368 : decode code 368 = .ok (.aload_n 1, 1) := by decide +kernel
theorem dL_law_369 : decode code 369 = .ok (.aload_n 0, 1) := by decide +kernel
theorem dL_law_370 : decode code 370 = .ok (.iload_n 3, 1) := by decide +kernel
theorem dL_law_371 : decode code 371 = .ok (.iconst 1, 1) := by decide +kernel
theorem dL_law_372 : decode code 372 = .ok (.iadd, 1) := by decide +kernel
theorem dL_law_373 : decode code 373 = .ok (.iaload, 1) := by decide +kernel
theorem dL_law_374 : decode code 374 = .ok (.invokevirtual 32, 3) := by decide +kernel
theorem dL_law_377 : decode code 377 = .ok (.aload_n 2, 1) := by decide +kernel
theorem dL_law_378 : decode code 378 = .ok (.aload_n 0, 1) := by decide +kernel
theorem dL_law_379 : decode code 379 = .ok (.iload_n 3, 1) := by decide +kernel
theorem dL_law_380 : decode code 380 = .ok (.iconst 1, 1) := by decide +kernel
theorem dL_law_381 : decode code 381 = .ok (.iadd, 1) := by decide +kernel
theorem dL_law_382 : decode code 382 = .ok (.iaload, 1) := by decide +kernel
theorem dL_law_383 : decode code 383 = .ok (.invokevirtual 35, 3) := by decide +kernel
theorem dL_law_386 : decode code 386 = .ok (.if_icmp .eq 1144, 3) := by decide +kernel
theorem dL_law_389 : decode code 389 = .ok (.iconst 0, 1) := by decide +kernel
theorem dL_law_390 : decode code 390 = .ok (.ireturn, 1) := by decide +kernel
theorem dL_law_391 : decode code 391 = .ok (.aload_n 1, 1) := by decide +kernel
theorem dL_law_392 : decode code 392 = .ok (.aload_n 0, 1) := by decide +kernel
theorem dL_law_393 : decode code 393 = .ok (.iload_n 3, 1) := by decide +kernel
theorem dL_law_394 : decode code 394 = .ok (.iconst 1, 1) := by decide +kernel
theorem dL_law_395 : decode code 395 = .ok (.iadd, 1) := by decide +kernel
theorem dL_law_396 : decode code 396 = .ok (.iaload, 1) := by decide +kernel
theorem dL_law_397 : decode code 397 = .ok (.aload_n 0, 1) := by decide +kernel
theorem dL_law_398 : decode code 398 = .ok (.iload_n 3, 1) := by decide +kernel
theorem dL_law_399 : decode code 399 = .ok (.iconst 2, 1) := by decide +kernel
theorem dL_law_400 : decode code 400 = .ok (.iadd, 1) := by decide +kernel
theorem dL_law_401 : decode code 401 = .ok (.iaload, 1) := by decide +kernel
theorem dL_law_402 : decode code 402 = .ok (.invokevirtual 36, 3) := by decide +kernel
theorem dL_law_405 : decode code 405 = .ok (.aload_n 2, 1) := by decide +kernel
theorem dL_law_406 : decode code 406 = .ok (.aload_n 0, 1) := by decide +kernel
theorem dL_law_407 : decode code 407 = .ok (.iload_n 3, 1) := by decide +kernel
theorem dL_law_408 : decode code 408 = .ok (.iconst 1, 1) := by decide +kernel
theorem dL_law_409 : decode code 409 = .ok (.iadd, 1) := by decide +kernel
theorem dL_law_410 : decode code 410 = .ok (.iaload, 1) := by decide +kernel
theorem dL_law_411 : decode code 411 = .ok (.aload_n 0, 1) := by decide +kernel
theorem dL_law_412 : decode code 412 = .ok (.iload_n 3, 1) := by decide +kernel
theorem dL_law_413 : decode code 413 = .ok (.iconst 2, 1) := by decide +kernel
theorem dL_law_414 : decode code 414 = .ok (.iadd, 1) := by decide +kernel
theorem dL_law_415 : decode code 415 = .ok (.iaload, 1) := by decide +kernel
theorem dL_law_416 : decode code 416 = .ok (.invokevirtual 40, 3) := by decide +kernel
theorem dL_law_419 : decode code 419 = .ok (.if_icmp .eq 1111, 3) := by decide +kernel
theorem dL_law_422 : decode code 422 = .ok (.iconst 0, 1) := by decide +kernel
theorem dL_law_423 : decode code 423 = .ok (.ireturn, 1) := by decide +kernel
theorem dL_law_424 : decode code 424 = .ok (.aload_n 1, 1) := by decide +kernel
theorem dL_law_425 : decode code 425 = .ok (.aload_n 0, 1) := by decide +kernel
theorem dL_law_426 : decode code 426 = .ok (.iload_n 3, 1) := by decide +kernel
theorem dL_law_427 : decode code 427 = .ok (.iconst 1, 1) := by decide +kernel
theorem dL_law_428 : decode code 428 = .ok (.iadd, 1) := by decide +kernel
theorem dL_law_429 : decode code 429 = .ok (.iaload, 1) := by decide +kernel
theorem dL_law_430 : decode code 430 = .ok (.aload_n 0, 1) := by decide +kernel
theorem dL_law_431 : decode code 431 = .ok (.iload_n 3, 1) := by decide +kernel
theorem dL_law_432 : decode code 432 = .ok (.iconst 2, 1) := by decide +kernel
theorem dL_law_433 : decode code 433 = .ok (.iadd, 1) := by decide +kernel
theorem dL_law_434 : decode code 434 = .ok (.iaload, 1) := by decide +kernel
theorem dL_law_435 : decode code 435 = .ok (.ifCond .eq 7, 3) := by decide +kernel
theorem dL_law_438 : decode code 438 = .ok (.iconst 1, 1) := by decide +kernel
theorem dL_law_439 : decode code 439 = .ok (.goto 4, 3) := by decide +kernel
theorem dL_law_442 : decode code 442 = .ok (.iconst 0, 1) := by decide +kernel
theorem dL_law_443 : decode code 443 = .ok (.invokevirtual 41, 3) := by decide +kernel
theorem dL_law_446 : decode code 446 = .ok (.aload_n 2, 1) := by decide +kernel
theorem dL_law_447 : decode code 447 = .ok (.aload_n 0, 1) := by decide +kernel
theorem dL_law_448 : decode code 448 = .ok (.iload_n 3, 1) := by decide +kernel
theorem dL_law_449 : decode code 449 = .ok (.iconst 1, 1) := by decide +kernel
theorem dL_law_450 : decode code 450 = .ok (.iadd, 1) := by decide +kernel
theorem dL_law_451 : decode code 451 = .ok (.iaload, 1) := by decide +kernel
theorem dL_law_452 : decode code 452 = .ok (.aload_n 0, 1) := by decide +kernel
theorem dL_law_453 : decode code 453 = .ok (.iload_n 3, 1) := by decide +kernel
theorem dL_law_454 : decode code 454 = .ok (.iconst 2, 1) := by decide +kernel
theorem dL_law_455 : decode code 455 = .ok (.iadd, 1) := by decide +kernel
theorem dL_law_456 : decode code 456 = .ok (.iaload, 1) := by decide +kernel
theorem dL_law_457 : decode code 457 = .ok (.ifCond .eq 7, 3) := by decide +kernel
theorem dL_law_460 : decode code 460 = .ok (.iconst 1, 1) := by decide +kernel
theorem dL_law_461 : decode code 461 = .ok (.goto 4, 3) := by decide +kernel
theorem dL_law_464 : decode code 464 = .ok (.iconst 0, 1) := by decide +kernel
theorem dL_law_465 : decode code 465 = .ok (.invokevirtual 45, 3) := by decide +kernel
theorem dL_law_468 : decode code 468 = .ok (.if_icmp .eq 1062, 3) := by decide +kernel
theorem dL_law_471 : decode code 471 = .ok (.iconst 0, 1) := by decide +kernel
theorem dL_law_472 : decode code 472 = .ok (.ireturn, 1) := by decide +kernel
theorem dL_law_473 : decode code 473 = .ok (.aload_n 1, 1) := by decide +kernel
theorem dL_law_474 : decode code 474 = .ok (.aload_n 0, 1) := by decide +kernel
theorem dL_law_475 : decode code 475 = .ok (.iload_n 3, 1) := by decide +kernel
theorem dL_law_476 : decode code 476 = .ok (.iconst 1, 1) := by decide +kernel
theorem dL_law_477 : decode code 477 = .ok (.iadd, 1) := by decide +kernel
theorem dL_law_478 : decode code 478 = .ok (.iaload, 1) := by decide +kernel
theorem dL_law_479 : decode code 479 = .ok (.aload_n 0, 1) := by decide +kernel
theorem dL_law_480 : decode code 480 = .ok (.iload_n 3, 1) := by decide +kernel
theorem dL_law_481 : decode code 481 = .ok (.iconst 2, 1) := by decide +kernel
theorem dL_law_482 : decode code 482 = .ok (.iadd, 1) := by decide +kernel
theorem dL_law_483 : decode code 483 = .ok (.iaload, 1) := by decide +kernel
theorem dL_law_484 : decode code 484 = .ok (.ifCond .eq 7, 3) := by decide +kernel
theorem dL_law_487 : decode code 487 = .ok (.iconst 1, 1) := by decide +kernel
theorem dL_law_488 : decode code 488 = .ok (.goto 4, 3) := by decide +kernel
theorem dL_law_491 : decode code 491 = .ok (.iconst 0, 1) := by decide +kernel
theorem dL_law_492 : decode code 492 = .ok (.invokevirtual 46, 3) := by decide +kernel
theorem dL_law_495 : decode code 495 = .ok (.aload_n 2, 1) := by decide +kernel
theorem dL_law_496 : decode code 496 = .ok (.aload_n 0, 1) := by decide +kernel
theorem dL_law_497 : decode code 497 = .ok (.iload_n 3, 1) := by decide +kernel
theorem dL_law_498 : decode code 498 = .ok (.iconst 1, 1) := by decide +kernel
theorem dL_law_499 : decode code 499 = .ok (.iadd, 1) := by decide +kernel
theorem dL_law_500 : decode code 500 = .ok (.iaload, 1) := by decide +kernel
theorem dL_law_501 : decode code 501 = .ok (.aload_n 0, 1) := by decide +kernel
theorem dL_law_502 : decode code 502 = .ok (.iload_n 3, 1) := by decide +kernel
theorem dL_law_503 : decode code 503 = .ok (.iconst 2, 1) := by decide +kernel
theorem dL_law_504 : decode code 504 = .ok (.iadd, 1) := by decide +kernel
theorem dL_law_505 : decode code 505 = .ok (.iaload, 1) := by decide +kernel
theorem dL_law_506 : decode code 506 = .ok (.ifCond .eq 7, 3) := by decide +kernel
theorem dL_law_509 : decode code 509 = .ok (.iconst 1, 1) := by decide +kernel
theorem dL_law_510 : decode code 510 = .ok (.goto 4, 3) := by decide +kernel
theorem dL_law_513 : decode code 513 = .ok (.iconst 0, 1) := by decide +kernel
theorem dL_law_514 : decode code 514 = .ok (.invokevirtual 49, 3) := by decide +kernel
theorem dL_law_517 : decode code 517 = .ok (.if_icmp .eq 1013, 3) := by decide +kernel
theorem dL_law_520 : decode code 520 = .ok (.iconst 0, 1) := by decide +kernel
theorem dL_law_521 : decode code 521 = .ok (.ireturn, 1) := by decide +kernel
theorem dL_law_522 : decode code 522 = .ok (.aload_n 1, 1) := by decide +kernel
theorem dL_law_523 : decode code 523 = .ok (.aload_n 0, 1) := by decide +kernel
theorem dL_law_524 : decode code 524 = .ok (.iload_n 3, 1) := by decide +kernel
theorem dL_law_525 : decode code 525 = .ok (.iconst 1, 1) := by decide +kernel
theorem dL_law_526 : decode code 526 = .ok (.iadd, 1) := by decide +kernel
theorem dL_law_527 : decode code 527 = .ok (.iaload, 1) := by decide +kernel
theorem dL_law_528 : decode code 528 = .ok (.invokevirtual 50, 3) := by decide +kernel
theorem dL_law_531 : decode code 531 = .ok (.aload_n 2, 1) := by decide +kernel
theorem dL_law_532 : decode code 532 = .ok (.aload_n 0, 1) := by decide +kernel
theorem dL_law_533 : decode code 533 = .ok (.iload_n 3, 1) := by decide +kernel
theorem dL_law_534 : decode code 534 = .ok (.iconst 1, 1) := by decide +kernel
theorem dL_law_535 : decode code 535 = .ok (.iadd, 1) := by decide +kernel
theorem dL_law_536 : decode code 536 = .ok (.iaload, 1) := by decide +kernel
theorem dL_law_537 : decode code 537 = .ok (.invokevirtual 53, 3) := by decide +kernel
theorem dL_law_540 : decode code 540 = .ok (.if_icmp .eq 990, 3) := by decide +kernel
theorem dL_law_543 : decode code 543 = .ok (.iconst 0, 1) := by decide +kernel
theorem dL_law_544 : decode code 544 = .ok (.ireturn, 1) := by decide +kernel
theorem dL_law_545 : decode code 545 = .ok (.aload_n 1, 1) := by decide +kernel
theorem dL_law_546 : decode code 546 = .ok (.aload_n 0, 1) := by decide +kernel
theorem dL_law_547 : decode code 547 = .ok (.iload_n 3, 1) := by decide +kernel
theorem dL_law_548 : decode code 548 = .ok (.iconst 1, 1) := by decide +kernel
theorem dL_law_549 : decode code 549 = .ok (.iadd, 1) := by decide +kernel
theorem dL_law_550 : decode code 550 = .ok (.iaload, 1) := by decide +kernel
theorem dL_law_551 : decode code 551 = .ok (.aload_n 0, 1) := by decide +kernel
theorem dL_law_552 : decode code 552 = .ok (.iload_n 3, 1) := by decide +kernel
theorem dL_law_553 : decode code 553 = .ok (.iconst 2, 1) := by decide +kernel
theorem dL_law_554 : decode code 554 = .ok (.iadd, 1) := by decide +kernel
theorem dL_law_555 : decode code 555 = .ok (.iaload, 1) := by decide +kernel
theorem dL_law_556 : decode code 556 = .ok (.aload_n 0, 1) := by decide +kernel
theorem dL_law_557 : decode code 557 = .ok (.iload_n 3, 1) := by decide +kernel
theorem dL_law_558 : decode code 558 = .ok (.iconst 3, 1) := by decide +kernel
theorem dL_law_559 : decode code 559 = .ok (.iadd, 1) := by decide +kernel
theorem dL_law_560 : decode code 560 = .ok (.iaload, 1) := by decide +kernel
theorem dL_law_561 : decode code 561 = .ok (.aload_n 0, 1) := by decide +kernel
theorem dL_law_562 : decode code 562 = .ok (.iload_n 3, 1) := by decide +kernel
theorem dL_law_563 : decode code 563 = .ok (.iconst 4, 1) := by decide +kernel
theorem dL_law_564 : decode code 564 = .ok (.iadd, 1) := by decide +kernel
theorem dL_law_565 : decode code 565 = .ok (.iaload, 1) := by decide +kernel
theorem dL_law_566 : decode code 566 = .ok (.aload_n 0, 1) := by decide +kernel
theorem dL_law_567 : decode code 567 = .ok (.iload_n 3, 1) := by decide +kernel
theorem dL_law_568 : decode code 568 = .ok (.iconst 5, 1) := by decide +kernel
theorem dL_law_569 : decode code 569 = .ok (.iadd, 1) := by decide +kernel
theorem dL_law_570 : decode code 570 = .ok (.iaload, 1) := by decide +kernel
theorem dL_law_571 : decode code 571 = .ok (.invokevirtual 54, 3) := by decide +kernel
theorem dL_law_574 : decode code 574 = .ok (.aload_n 2, 1) := by decide +kernel
theorem dL_law_575 : decode code 575 = .ok (.aload_n 0, 1) := by decide +kernel
theorem dL_law_576 : decode code 576 = .ok (.iload_n 3, 1) := by decide +kernel
theorem dL_law_577 : decode code 577 = .ok (.iconst 1, 1) := by decide +kernel
theorem dL_law_578 : decode code 578 = .ok (.iadd, 1) := by decide +kernel
theorem dL_law_579 : decode code 579 = .ok (.iaload, 1) := by decide +kernel
theorem dL_law_580 : decode code 580 = .ok (.aload_n 0, 1) := by decide +kernel
theorem dL_law_581 : decode code 581 = .ok (.iload_n 3, 1) := by decide +kernel
theorem dL_law_582 : decode code 582 = .ok (.iconst 2, 1) := by decide +kernel
theorem dL_law_583 : decode code 583 = .ok (.iadd, 1) := by decide +kernel
theorem dL_law_584 : decode code 584 = .ok (.iaload, 1) := by decide +kernel
theorem dL_law_585 : decode code 585 = .ok (.aload_n 0, 1) := by decide +kernel
theorem dL_law_586 : decode code 586 = .ok (.iload_n 3, 1) := by decide +kernel
theorem dL_law_587 : decode code 587 = .ok (.iconst 3, 1) := by decide +kernel
theorem dL_law_588 : decode code 588 = .ok (.iadd, 1) := by decide +kernel
theorem dL_law_589 : decode code 589 = .ok (.iaload, 1) := by decide +kernel
theorem dL_law_590 : decode code 590 = .ok (.aload_n 0, 1) := by decide +kernel
theorem dL_law_591 : decode code 591 = .ok (.iload_n 3, 1) := by decide +kernel
theorem dL_law_592 : decode code 592 = .ok (.iconst 4, 1) := by decide +kernel
theorem dL_law_593 : decode code 593 = .ok (.iadd, 1) := by decide +kernel
theorem dL_law_594 : decode code 594 = .ok (.iaload, 1) := by decide +kernel
theorem dL_law_595 : decode code 595 = .ok (.aload_n 0, 1) := by decide +kernel
theorem dL_law_596 : decode code 596 = .ok (.iload_n 3, 1) := by decide +kernel
theorem dL_law_597 : decode code 597 = .ok (.iconst 5, 1) := by decide +kernel
theorem dL_law_598 : decode code 598 = .ok (.iadd, 1) := by decide +kernel
theorem dL_law_599 : decode code 599 = .ok (.iaload, 1) := by decide +kernel
theorem dL_law_600 : decode code 600 = .ok (.invokevirtual 58, 3) := by decide +kernel
theorem dL_law_603 : decode code 603 = .ok (.if_icmp .eq 927, 3) := by decide +kernel
theorem dL_law_606 : decode code 606 = .ok (.iconst 0, 1) := by decide +kernel
theorem dL_law_607 : decode code 607 = .ok (.ireturn, 1) := by decide +kernel
theorem dL_law_608 : decode code 608 = .ok (.aload_n 1, 1) := by decide +kernel
theorem dL_law_609 : decode code 609 = .ok (.aload_n 0, 1) := by decide +kernel
theorem dL_law_610 : decode code 610 = .ok (.iload_n 3, 1) := by decide +kernel
theorem dL_law_611 : decode code 611 = .ok (.iconst 1, 1) := by decide +kernel
theorem dL_law_612 : decode code 612 = .ok (.iadd, 1) := by decide +kernel
theorem dL_law_613 : decode code 613 = .ok (.iaload, 1) := by decide +kernel
theorem dL_law_614 : decode code 614 = .ok (.invokevirtual 59, 3) := by decide +kernel
theorem dL_law_617 : decode code 617 = .ok (.aload_n 2, 1) := by decide +kernel
theorem dL_law_618 : decode code 618 = .ok (.aload_n 0, 1) := by decide +kernel
theorem dL_law_619 : decode code 619 = .ok (.iload_n 3, 1) := by decide +kernel
theorem dL_law_620 : decode code 620 = .ok (.iconst 1, 1) := by decide +kernel
theorem dL_law_621 : decode code 621 = .ok (.iadd, 1) := by decide +kernel
theorem dL_law_622 : decode code 622 = .ok (.iaload, 1) := by decide +kernel
theorem dL_law_623 : decode code 623 = .ok (.invokevirtual 63, 3) := by decide +kernel
theorem dL_law_626 : decode code 626 = .ok (.if_icmp .eq 904, 3) := by decide +kernel
theorem dL_law_629 : decode code 629 = .ok (.iconst 0, 1) := by decide +kernel
theorem dL_law_630 : decode code 630 = .ok (.ireturn, 1) := by decide +kernel
theorem dL_law_631 : decode code 631 = .ok (.aload_n 1, 1) := by decide +kernel
theorem dL_law_632 : decode code 632 = .ok (.aload_n 0, 1) := by decide +kernel
theorem dL_law_633 : decode code 633 = .ok (.iload_n 3, 1) := by decide +kernel
theorem dL_law_634 : decode code 634 = .ok (.iconst 1, 1) := by decide +kernel
theorem dL_law_635 : decode code 635 = .ok (.iadd, 1) := by decide +kernel
theorem dL_law_636 : decode code 636 = .ok (.iaload, 1) := by decide +kernel
theorem dL_law_637 : decode code 637 = .ok (.invokevirtual 64, 3) := by decide +kernel
theorem dL_law_640 : decode code 640 = .ok (.aload_n 2, 1) := by decide +kernel
theorem dL_law_641 : decode code 641 = .ok (.aload_n 0, 1) := by decide +kernel
theorem dL_law_642 : decode code 642 = .ok (.iload_n 3, 1) := by decide +kernel
theorem dL_law_643 : decode code 643 = .ok (.iconst 1, 1) := by decide +kernel
theorem dL_law_644 : decode code 644 = .ok (.iadd, 1) := by decide +kernel
theorem dL_law_645 : decode code 645 = .ok (.iaload, 1) := by decide +kernel
theorem dL_law_646 : decode code 646 = .ok (.invokevirtual 67, 3) := by decide +kernel
theorem dL_law_649 : decode code 649 = .ok (.if_icmp .eq 881, 3) := by decide +kernel
theorem dL_law_652 : decode code 652 = .ok (.iconst 0, 1) := by decide +kernel
theorem dL_law_653 : decode code 653 = .ok (.ireturn, 1) := by decide +kernel
theorem dL_law_654 : decode code 654 = .ok (.aload_n 1, 1) := by decide +kernel
theorem dL_law_655 : decode code 655 = .ok (.aload_n 0, 1) := by decide +kernel
theorem dL_law_656 : decode code 656 = .ok (.iload_n 3, 1) := by decide +kernel
theorem dL_law_657 : decode code 657 = .ok (.iconst 1, 1) := by decide +kernel
theorem dL_law_658 : decode code 658 = .ok (.iadd, 1) := by decide +kernel
theorem dL_law_659 : decode code 659 = .ok (.iaload, 1) := by decide +kernel
theorem dL_law_660 : decode code 660 = .ok (.invokevirtual 68, 3) := by decide +kernel
theorem dL_law_663 : decode code 663 = .ok (.aload_n 2, 1) := by decide +kernel
theorem dL_law_664 : decode code 664 = .ok (.aload_n 0, 1) := by decide +kernel
theorem dL_law_665 : decode code 665 = .ok (.iload_n 3, 1) := by decide +kernel
theorem dL_law_666 : decode code 666 = .ok (.iconst 1, 1) := by decide +kernel
theorem dL_law_667 : decode code 667 = .ok (.iadd, 1) := by decide +kernel
theorem dL_law_668 : decode code 668 = .ok (.iaload, 1) := by decide +kernel
theorem dL_law_669 : decode code 669 = .ok (.invokevirtual 71, 3) := by decide +kernel
theorem dL_law_672 : decode code 672 = .ok (.if_icmp .eq 858, 3) := by decide +kernel
theorem dL_law_675 : decode code 675 = .ok (.iconst 0, 1) := by decide +kernel
theorem dL_law_676 : decode code 676 = .ok (.ireturn, 1) := by decide +kernel
theorem dL_law_677 : decode code 677 = .ok (.aload_n 1, 1) := by decide +kernel
theorem dL_law_678 : decode code 678 = .ok (.aload_n 0, 1) := by decide +kernel
theorem dL_law_679 : decode code 679 = .ok (.iload_n 3, 1) := by decide +kernel
theorem dL_law_680 : decode code 680 = .ok (.iconst 1, 1) := by decide +kernel
theorem dL_law_681 : decode code 681 = .ok (.iadd, 1) := by decide +kernel
theorem dL_law_682 : decode code 682 = .ok (.iaload, 1) := by decide +kernel
theorem dL_law_683 : decode code 683 = .ok (.aload_n 0, 1) := by decide +kernel
theorem dL_law_684 : decode code 684 = .ok (.iload_n 3, 1) := by decide +kernel
theorem dL_law_685 : decode code 685 = .ok (.iconst 2, 1) := by decide +kernel
theorem dL_law_686 : decode code 686 = .ok (.iadd, 1) := by decide +kernel
theorem dL_law_687 : decode code 687 = .ok (.iaload, 1) := by decide +kernel
theorem dL_law_688 : decode code 688 = .ok (.invokevirtual 72, 3) := by decide +kernel
theorem dL_law_691 : decode code 691 = .ok (.aload_n 2, 1) := by decide +kernel
theorem dL_law_692 : decode code 692 = .ok (.aload_n 0, 1) := by decide +kernel
theorem dL_law_693 : decode code 693 = .ok (.iload_n 3, 1) := by decide +kernel
theorem dL_law_694 : decode code 694 = .ok (.iconst 1, 1) := by decide +kernel
theorem dL_law_695 : decode code 695 = .ok (.iadd, 1) := by decide +kernel
theorem dL_law_696 : decode code 696 = .ok (.iaload, 1) := by decide +kernel
theorem dL_law_697 : decode code 697 = .ok (.aload_n 0, 1) := by decide +kernel
theorem dL_law_698 : decode code 698 = .ok (.iload_n 3, 1) := by decide +kernel
theorem dL_law_699 : decode code 699 = .ok (.iconst 2, 1) := by decide +kernel
theorem dL_law_700 : decode code 700 = .ok (.iadd, 1) := by decide +kernel
theorem dL_law_701 : decode code 701 = .ok (.iaload, 1) := by decide +kernel
theorem dL_law_702 : decode code 702 = .ok (.invokevirtual 76, 3) := by decide +kernel
theorem dL_law_705 : decode code 705 = .ok (.if_icmp .eq 825, 3) := by decide +kernel
theorem dL_law_708 : decode code 708 = .ok (.iconst 0, 1) := by decide +kernel
theorem dL_law_709 : decode code 709 = .ok (.ireturn, 1) := by decide +kernel
theorem dL_law_710 : decode code 710 = .ok (.aload_n 1, 1) := by decide +kernel
theorem dL_law_711 : decode code 711 = .ok (.aload_n 0, 1) := by decide +kernel
theorem dL_law_712 : decode code 712 = .ok (.iload_n 3, 1) := by decide +kernel
theorem dL_law_713 : decode code 713 = .ok (.iconst 1, 1) := by decide +kernel
theorem dL_law_714 : decode code 714 = .ok (.iadd, 1) := by decide +kernel
theorem dL_law_715 : decode code 715 = .ok (.iaload, 1) := by decide +kernel
theorem dL_law_716 : decode code 716 = .ok (.aload_n 0, 1) := by decide +kernel
theorem dL_law_717 : decode code 717 = .ok (.iload_n 3, 1) := by decide +kernel
theorem dL_law_718 : decode code 718 = .ok (.iconst 2, 1) := by decide +kernel
theorem dL_law_719 : decode code 719 = .ok (.iadd, 1) := by decide +kernel
theorem dL_law_720 : decode code 720 = .ok (.iaload, 1) := by decide +kernel
theorem dL_law_721 : decode code 721 = .ok (.invokevirtual 77, 3) := by decide +kernel
theorem dL_law_724 : decode code 724 = .ok (.aload_n 2, 1) := by decide +kernel
theorem dL_law_725 : decode code 725 = .ok (.aload_n 0, 1) := by decide +kernel
theorem dL_law_726 : decode code 726 = .ok (.iload_n 3, 1) := by decide +kernel
theorem dL_law_727 : decode code 727 = .ok (.iconst 1, 1) := by decide +kernel
theorem dL_law_728 : decode code 728 = .ok (.iadd, 1) := by decide +kernel
theorem dL_law_729 : decode code 729 = .ok (.iaload, 1) := by decide +kernel
theorem dL_law_730 : decode code 730 = .ok (.aload_n 0, 1) := by decide +kernel
theorem dL_law_731 : decode code 731 = .ok (.iload_n 3, 1) := by decide +kernel
theorem dL_law_732 : decode code 732 = .ok (.iconst 2, 1) := by decide +kernel
theorem dL_law_733 : decode code 733 = .ok (.iadd, 1) := by decide +kernel
theorem dL_law_734 : decode code 734 = .ok (.iaload, 1) := by decide +kernel
theorem dL_law_735 : decode code 735 = .ok (.invokevirtual 80, 3) := by decide +kernel
theorem dL_law_738 : decode code 738 = .ok (.if_icmp .eq 792, 3) := by decide +kernel
theorem dL_law_741 : decode code 741 = .ok (.iconst 0, 1) := by decide +kernel
theorem dL_law_742 : decode code 742 = .ok (.ireturn, 1) := by decide +kernel
theorem dL_law_743 : decode code 743 = .ok (.aload_n 1, 1) := by decide +kernel
theorem dL_law_744 : decode code 744 = .ok (.aload_n 0, 1) := by decide +kernel
theorem dL_law_745 : decode code 745 = .ok (.iload_n 3, 1) := by decide +kernel
theorem dL_law_746 : decode code 746 = .ok (.iconst 1, 1) := by decide +kernel
theorem dL_law_747 : decode code 747 = .ok (.iadd, 1) := by decide +kernel
theorem dL_law_748 : decode code 748 = .ok (.iaload, 1) := by decide +kernel
theorem dL_law_749 : decode code 749 = .ok (.invokevirtual 81, 3) := by decide +kernel
theorem dL_law_752 : decode code 752 = .ok (.aload_n 2, 1) := by decide +kernel
theorem dL_law_753 : decode code 753 = .ok (.aload_n 0, 1) := by decide +kernel
theorem dL_law_754 : decode code 754 = .ok (.iload_n 3, 1) := by decide +kernel
theorem dL_law_755 : decode code 755 = .ok (.iconst 1, 1) := by decide +kernel
theorem dL_law_756 : decode code 756 = .ok (.iadd, 1) := by decide +kernel
theorem dL_law_757 : decode code 757 = .ok (.iaload, 1) := by decide +kernel
theorem dL_law_758 : decode code 758 = .ok (.invokevirtual 84, 3) := by decide +kernel
theorem dL_law_761 : decode code 761 = .ok (.if_icmp .eq 769, 3) := by decide +kernel
theorem dL_law_764 : decode code 764 = .ok (.iconst 0, 1) := by decide +kernel
theorem dL_law_765 : decode code 765 = .ok (.ireturn, 1) := by decide +kernel
theorem dL_law_766 : decode code 766 = .ok (.aload_n 1, 1) := by decide +kernel
theorem dL_law_767 : decode code 767 = .ok (.aload_n 0, 1) := by decide +kernel
theorem dL_law_768 : decode code 768 = .ok (.iload_n 3, 1) := by decide +kernel
theorem dL_law_769 : decode code 769 = .ok (.iconst 1, 1) := by decide +kernel
theorem dL_law_770 : decode code 770 = .ok (.iadd, 1) := by decide +kernel
theorem dL_law_771 : decode code 771 = .ok (.iaload, 1) := by decide +kernel
theorem dL_law_772 : decode code 772 = .ok (.aload_n 0, 1) := by decide +kernel
theorem dL_law_773 : decode code 773 = .ok (.iload_n 3, 1) := by decide +kernel
theorem dL_law_774 : decode code 774 = .ok (.iconst 2, 1) := by decide +kernel
theorem dL_law_775 : decode code 775 = .ok (.iadd, 1) := by decide +kernel
theorem dL_law_776 : decode code 776 = .ok (.iaload, 1) := by decide +kernel
theorem dL_law_777 : decode code 777 = .ok (.invokevirtual 85, 3) := by decide +kernel
theorem dL_law_780 : decode code 780 = .ok (.aload_n 2, 1) := by decide +kernel
theorem dL_law_781 : decode code 781 = .ok (.aload_n 0, 1) := by decide +kernel
theorem dL_law_782 : decode code 782 = .ok (.iload_n 3, 1) := by decide +kernel
theorem dL_law_783 : decode code 783 = .ok (.iconst 1, 1) := by decide +kernel
theorem dL_law_784 : decode code 784 = .ok (.iadd, 1) := by decide +kernel
theorem dL_law_785 : decode code 785 = .ok (.iaload, 1) := by decide +kernel
theorem dL_law_786 : decode code 786 = .ok (.aload_n 0, 1) := by decide +kernel
theorem dL_law_787 : decode code 787 = .ok (.iload_n 3, 1) := by decide +kernel
theorem dL_law_788 : decode code 788 = .ok (.iconst 2, 1) := by decide +kernel
theorem dL_law_789 : decode code 789 = .ok (.iadd, 1) := by decide +kernel
theorem dL_law_790 : decode code 790 = .ok (.iaload, 1) := by decide +kernel
theorem dL_law_791 : decode code 791 = .ok (.invokevirtual 88, 3) := by decide +kernel
theorem dL_law_794 : decode code 794 = .ok (.if_icmp .eq 736, 3) := by decide +kernel
theorem dL_law_797 : decode code 797 = .ok (.iconst 0, 1) := by decide +kernel
theorem dL_law_798 : decode code 798 = .ok (.ireturn, 1) := by decide +kernel
theorem dL_law_799 : decode code 799 = .ok (.aload_n 1, 1) := by decide +kernel
theorem dL_law_800 : decode code 800 = .ok (.aload_n 0, 1) := by decide +kernel
theorem dL_law_801 : decode code 801 = .ok (.iload_n 3, 1) := by decide +kernel
theorem dL_law_802 : decode code 802 = .ok (.iconst 1, 1) := by decide +kernel
theorem dL_law_803 : decode code 803 = .ok (.iadd, 1) := by decide +kernel
theorem dL_law_804 : decode code 804 = .ok (.iaload, 1) := by decide +kernel
theorem dL_law_805 : decode code 805 = .ok (.invokevirtual 89, 3) := by decide +kernel
theorem dL_law_808 : decode code 808 = .ok (.aload_n 2, 1) := by decide +kernel
theorem dL_law_809 : decode code 809 = .ok (.aload_n 0, 1) := by decide +kernel
theorem dL_law_810 : decode code 810 = .ok (.iload_n 3, 1) := by decide +kernel
theorem dL_law_811 : decode code 811 = .ok (.iconst 1, 1) := by decide +kernel
theorem dL_law_812 : decode code 812 = .ok (.iadd, 1) := by decide +kernel
theorem dL_law_813 : decode code 813 = .ok (.iaload, 1) := by decide +kernel
theorem dL_law_814 : decode code 814 = .ok (.invokevirtual 92, 3) := by decide +kernel
theorem dL_law_817 : decode code 817 = .ok (.if_icmp .eq 713, 3) := by decide +kernel
theorem dL_law_820 : decode code 820 = .ok (.iconst 0, 1) := by decide +kernel
theorem dL_law_821 : decode code 821 = .ok (.ireturn, 1) := by decide +kernel
theorem dL_law_822 : decode code 822 = .ok (.aload_n 1, 1) := by decide +kernel
theorem dL_law_823 : decode code 823 = .ok (.aload_n 0, 1) := by decide +kernel
theorem dL_law_824 : decode code 824 = .ok (.iload_n 3, 1) := by decide +kernel
theorem dL_law_825 : decode code 825 = .ok (.iconst 1, 1) := by decide +kernel
theorem dL_law_826 : decode code 826 = .ok (.iadd, 1) := by decide +kernel
theorem dL_law_827 : decode code 827 = .ok (.iaload, 1) := by decide +kernel
theorem dL_law_828 : decode code 828 = .ok (.aload_n 0, 1) := by decide +kernel
theorem dL_law_829 : decode code 829 = .ok (.iload_n 3, 1) := by decide +kernel
theorem dL_law_830 : decode code 830 = .ok (.iconst 2, 1) := by decide +kernel
theorem dL_law_831 : decode code 831 = .ok (.iadd, 1) := by decide +kernel
theorem dL_law_832 : decode code 832 = .ok (.iaload, 1) := by decide +kernel
theorem dL_law_833 : decode code 833 = .ok (.invokevirtual 93, 3) := by decide +kernel
theorem dL_law_836 : decode code 836 = .ok (.aload_n 2, 1) := by decide +kernel
theorem dL_law_837 : decode code 837 = .ok (.aload_n 0, 1) := by decide +kernel
theorem dL_law_838 : decode code 838 = .ok (.iload_n 3, 1) := by decide +kernel
theorem dL_law_839 : decode code 839 = .ok (.iconst 1, 1) := by decide +kernel
theorem dL_law_840 : decode code 840 = .ok (.iadd, 1) := by decide +kernel
theorem dL_law_841 : decode code 841 = .ok (.iaload, 1) := by decide +kernel
theorem dL_law_842 : decode code 842 = .ok (.aload_n 0, 1) := by decide +kernel
theorem dL_law_843 : decode code 843 = .ok (.iload_n 3, 1) := by decide +kernel
theorem dL_law_844 : decode code 844 = .ok (.iconst 2, 1) := by decide +kernel
theorem dL_law_845 : decode code 845 = .ok (.iadd, 1) := by decide +kernel
theorem dL_law_846 : decode code 846 = .ok (.iaload, 1) := by decide +kernel
theorem dL_law_847 : decode code 847 = .ok (.invokevirtual 96, 3) := by decide +kernel
theorem dL_law_850 : decode code 850 = .ok (.if_icmp .eq 680, 3) := by decide +kernel
theorem dL_law_853 : decode code 853 = .ok (.iconst 0, 1) := by decide +kernel
theorem dL_law_854 : decode code 854 = .ok (.ireturn, 1) := by decide +kernel
theorem dL_law_855 : decode code 855 = .ok (.aload_n 1, 1) := by decide +kernel
theorem dL_law_856 : decode code 856 = .ok (.aload_n 0, 1) := by decide +kernel
theorem dL_law_857 : decode code 857 = .ok (.iload_n 3, 1) := by decide +kernel
theorem dL_law_858 : decode code 858 = .ok (.iconst 1, 1) := by decide +kernel
theorem dL_law_859 : decode code 859 = .ok (.iadd, 1) := by decide +kernel
theorem dL_law_860 : decode code 860 = .ok (.iaload, 1) := by decide +kernel
theorem dL_law_861 : decode code 861 = .ok (.aload_n 0, 1) := by decide +kernel
theorem dL_law_862 : decode code 862 = .ok (.iload_n 3, 1) := by decide +kernel
theorem dL_law_863 : decode code 863 = .ok (.iconst 2, 1) := by decide +kernel
theorem dL_law_864 : decode code 864 = .ok (.iadd, 1) := by decide +kernel
theorem dL_law_865 : decode code 865 = .ok (.iaload, 1) := by decide +kernel
theorem dL_law_866 : decode code 866 = .ok (.aload_n 0, 1) := by decide +kernel
theorem dL_law_867 : decode code 867 = .ok (.iload_n 3, 1) := by decide +kernel
theorem dL_law_868 : decode code 868 = .ok (.iconst 3, 1) := by decide +kernel
theorem dL_law_869 : decode code 869 = .ok (.iadd, 1) := by decide +kernel
theorem dL_law_870 : decode code 870 = .ok (.iaload, 1) := by decide +kernel
theorem dL_law_871 : decode code 871 = .ok (.invokevirtual 97, 3) := by decide +kernel
theorem dL_law_874 : decode code 874 = .ok (.aload_n 2, 1) := by decide +kernel
theorem dL_law_875 : decode code 875 = .ok (.aload_n 0, 1) := by decide +kernel
theorem dL_law_876 : decode code 876 = .ok (.iload_n 3, 1) := by decide +kernel
theorem dL_law_877 : decode code 877 = .ok (.iconst 1, 1) := by decide +kernel
theorem dL_law_878 : decode code 878 = .ok (.iadd, 1) := by decide +kernel
theorem dL_law_879 : decode code 879 = .ok (.iaload, 1) := by decide +kernel
theorem dL_law_880 : decode code 880 = .ok (.aload_n 0, 1) := by decide +kernel
theorem dL_law_881 : decode code 881 = .ok (.iload_n 3, 1) := by decide +kernel
theorem dL_law_882 : decode code 882 = .ok (.iconst 2, 1) := by decide +kernel
theorem dL_law_883 : decode code 883 = .ok (.iadd, 1) := by decide +kernel
theorem dL_law_884 : decode code 884 = .ok (.iaload, 1) := by decide +kernel
theorem dL_law_885 : decode code 885 = .ok (.aload_n 0, 1) := by decide +kernel
theorem dL_law_886 : decode code 886 = .ok (.iload_n 3, 1) := by decide +kernel
theorem dL_law_887 : decode code 887 = .ok (.iconst 3, 1) := by decide +kernel
theorem dL_law_888 : decode code 888 = .ok (.iadd, 1) := by decide +kernel
theorem dL_law_889 : decode code 889 = .ok (.iaload, 1) := by decide +kernel
theorem dL_law_890 : decode code 890 = .ok (.invokevirtual 100, 3) := by decide +kernel
theorem dL_law_893 : decode code 893 = .ok (.if_icmp .eq 637, 3) := by decide +kernel
theorem dL_law_896 : decode code 896 = .ok (.iconst 0, 1) := by decide +kernel
theorem dL_law_897 : decode code 897 = .ok (.ireturn, 1) := by decide +kernel
theorem dL_law_898 : decode code 898 = .ok (.aload_n 1, 1) := by decide +kernel
theorem dL_law_899 : decode code 899 = .ok (.aload_n 0, 1) := by decide +kernel
theorem dL_law_900 : decode code 900 = .ok (.iload_n 3, 1) := by decide +kernel
theorem dL_law_901 : decode code 901 = .ok (.iconst 1, 1) := by decide +kernel
theorem dL_law_902 : decode code 902 = .ok (.iadd, 1) := by decide +kernel
theorem dL_law_903 : decode code 903 = .ok (.iaload, 1) := by decide +kernel
theorem dL_law_904 : decode code 904 = .ok (.aload_n 0, 1) := by decide +kernel
theorem dL_law_905 : decode code 905 = .ok (.iload_n 3, 1) := by decide +kernel
theorem dL_law_906 : decode code 906 = .ok (.iconst 2, 1) := by decide +kernel
theorem dL_law_907 : decode code 907 = .ok (.iadd, 1) := by decide +kernel
theorem dL_law_908 : decode code 908 = .ok (.iaload, 1) := by decide +kernel
theorem dL_law_909 : decode code 909 = .ok (.invokevirtual 101, 3) := by decide +kernel
theorem dL_law_912 : decode code 912 = .ok (.aload_n 2, 1) := by decide +kernel
theorem dL_law_913 : decode code 913 = .ok (.aload_n 0, 1) := by decide +kernel
theorem dL_law_914 : decode code 914 = .ok (.iload_n 3, 1) := by decide +kernel
theorem dL_law_915 : decode code 915 = .ok (.iconst 1, 1) := by decide +kernel
theorem dL_law_916 : decode code 916 = .ok (.iadd, 1) := by decide +kernel
theorem dL_law_917 : decode code 917 = .ok (.iaload, 1) := by decide +kernel
theorem dL_law_918 : decode code 918 = .ok (.aload_n 0, 1) := by decide +kernel
theorem dL_law_919 : decode code 919 = .ok (.iload_n 3, 1) := by decide +kernel
theorem dL_law_920 : decode code 920 = .ok (.iconst 2, 1) := by decide +kernel
theorem dL_law_921 : decode code 921 = .ok (.iadd, 1) := by decide +kernel
theorem dL_law_922 : decode code 922 = .ok (.iaload, 1) := by decide +kernel
theorem dL_law_923 : decode code 923 = .ok (.invokevirtual 104, 3) := by decide +kernel
theorem dL_law_926 : decode code 926 = .ok (.if_icmp .eq 604, 3) := by decide +kernel
theorem dL_law_929 : decode code 929 = .ok (.iconst 0, 1) := by decide +kernel
theorem dL_law_930 : decode code 930 = .ok (.ireturn, 1) := by decide +kernel
theorem dL_law_931 : decode code 931 = .ok (.aload_n 1, 1) := by decide +kernel
theorem dL_law_932 : decode code 932 = .ok (.aload_n 0, 1) := by decide +kernel
theorem dL_law_933 : decode code 933 = .ok (.iload_n 3, 1) := by decide +kernel
theorem dL_law_934 : decode code 934 = .ok (.iconst 1, 1) := by decide +kernel
theorem dL_law_935 : decode code 935 = .ok (.iadd, 1) := by decide +kernel
theorem dL_law_936 : decode code 936 = .ok (.iaload, 1) := by decide +kernel
theorem dL_law_937 : decode code 937 = .ok (.aload_n 0, 1) := by decide +kernel
theorem dL_law_938 : decode code 938 = .ok (.iload_n 3, 1) := by decide +kernel
theorem dL_law_939 : decode code 939 = .ok (.iconst 2, 1) := by decide +kernel
theorem dL_law_940 : decode code 940 = .ok (.iadd, 1) := by decide +kernel
theorem dL_law_941 : decode code 941 = .ok (.iaload, 1) := by decide +kernel
theorem dL_law_942 : decode code 942 = .ok (.invokevirtual 105, 3) := by decide +kernel
theorem dL_law_945 : decode code 945 = .ok (.aload_n 2, 1) := by decide +kernel
theorem dL_law_946 : decode code 946 = .ok (.aload_n 0, 1) := by decide +kernel
theorem dL_law_947 : decode code 947 = .ok (.iload_n 3, 1) := by decide +kernel
theorem dL_law_948 : decode code 948 = .ok (.iconst 1, 1) := by decide +kernel
theorem dL_law_949 : decode code 949 = .ok (.iadd, 1) := by decide +kernel
theorem dL_law_950 : decode code 950 = .ok (.iaload, 1) := by decide +kernel
theorem dL_law_951 : decode code 951 = .ok (.aload_n 0, 1) := by decide +kernel
theorem dL_law_952 : decode code 952 = .ok (.iload_n 3, 1) := by decide +kernel
theorem dL_law_953 : decode code 953 = .ok (.iconst 2, 1) := by decide +kernel
theorem dL_law_954 : decode code 954 = .ok (.iadd, 1) := by decide +kernel
theorem dL_law_955 : decode code 955 = .ok (.iaload, 1) := by decide +kernel
theorem dL_law_956 : decode code 956 = .ok (.invokevirtual 108, 3) := by decide +kernel
theorem dL_law_959 : decode code 959 = .ok (.if_icmp .eq 571, 3) := by decide +kernel
theorem dL_law_962 : decode code 962 = .ok (.iconst 0, 1) := by decide +kernel
theorem dL_law_963 : decode code 963 = .ok (.ireturn, 1) := by decide +kernel
theorem dL_law_964 : decode code 964 = .ok (.aload_n 1, 1) := by decide +kernel
theorem dL_law_965 : decode code 965 = .ok (.aload_n 0, 1) := by decide +kernel
theorem dL_law_966 : decode code 966 = .ok (.iload_n 3, 1) := by decide +kernel
theorem dL_law_967 : decode code 967 = .ok (.iconst 1, 1) := by decide +kernel
theorem dL_law_968 : decode code 968 = .ok (.iadd, 1) := by decide +kernel
theorem dL_law_969 : decode code 969 = .ok (.iaload, 1) := by decide +kernel
theorem dL_law_970 : decode code 970 = .ok (.aload_n 0, 1) := by decide +kernel
theorem dL_law_971 : decode code 971 = .ok (.iload_n 3, 1) := by decide +kernel
theorem dL_law_972 : decode code 972 = .ok (.iconst 2, 1) := by decide +kernel
theorem dL_law_973 : decode code 973 = .ok (.iadd, 1) := by decide +kernel
theorem dL_law_974 : decode code 974 = .ok (.iaload, 1) := by decide +kernel
theorem dL_law_975 : decode code 975 = .ok (.invokevirtual 109, 3) := by decide +kernel
theorem dL_law_978 : decode code 978 = .ok (.aload_n 2, 1) := by decide +kernel
theorem dL_law_979 : decode code 979 = .ok (.aload_n 0, 1) := by decide +kernel
theorem dL_law_980 : decode code 980 = .ok (.iload_n 3, 1) := by decide +kernel
theorem dL_law_981 : decode code 981 = .ok (.iconst 1, 1) := by decide +kernel
theorem dL_law_982 : decode code 982 = .ok (.iadd, 1) := by decide +kernel
theorem dL_law_983 : decode code 983 = .ok (.iaload, 1) := by decide +kernel
theorem dL_law_984 : decode code 984 = .ok (.aload_n 0, 1) := by decide +kernel
theorem dL_law_985 : decode code 985 = .ok (.iload_n 3, 1) := by decide +kernel
theorem dL_law_986 : decode code 986 = .ok (.iconst 2, 1) := by decide +kernel
theorem dL_law_987 : decode code 987 = .ok (.iadd, 1) := by decide +kernel
theorem dL_law_988 : decode code 988 = .ok (.iaload, 1) := by decide +kernel
theorem dL_law_989 : decode code 989 = .ok (.invokevirtual 112, 3) := by decide +kernel
theorem dL_law_992 : decode code 992 = .ok (.if_icmp .eq 538, 3) := by decide +kernel
theorem dL_law_995 : decode code 995 = .ok (.iconst 0, 1) := by decide +kernel
theorem dL_law_996 : decode code 996 = .ok (.ireturn, 1) := by decide +kernel
theorem dL_law_997 : decode code 997 = .ok (.aload_n 1, 1) := by decide +kernel
theorem dL_law_998 : decode code 998 = .ok (.aload_n 0, 1) := by decide +kernel
theorem dL_law_999 : decode code 999 = .ok (.iload_n 3, 1) := by decide +kernel
theorem dL_law_1000 : decode code 1000 = .ok (.iconst 1, 1) := by decide +kernel
theorem dL_law_1001 : decode code 1001 = .ok (.iadd, 1) := by decide +kernel
theorem dL_law_1002 : decode code 1002 = .ok (.iaload, 1) := by decide +kernel
theorem dL_law_1003 : decode code 1003 = .ok (.invokevirtual 113, 3) := by decide +kernel
theorem dL_law_1006 : decode code 1006 = .ok (.aload_n 2, 1) := by decide +kernel
theorem dL_law_1007 : decode code 1007 = .ok (.aload_n 0, 1) := by decide +kernel
theorem dL_law_1008 : decode code 1008 = .ok (.iload_n 3, 1) := by decide +kernel
theorem dL_law_1009 : decode code 1009 = .ok (.iconst 1, 1) := by decide +kernel
theorem dL_law_1010 : decode code 1010 = .ok (.iadd, 1) := by decide +kernel
theorem dL_law_1011 : decode code 1011 = .ok (.iaload, 1) := by decide +kernel
theorem dL_law_1012 : decode code 1012 = .ok (.invokevirtual 116, 3) := by decide +kernel
theorem dL_law_1015 : decode code 1015 = .ok (.if_icmp .eq 515, 3) := by decide +kernel
theorem dL_law_1018 : decode code 1018 = .ok (.iconst 0, 1) := by decide +kernel
theorem dL_law_1019 : decode code 1019 = .ok (.ireturn, 1) := by decide +kernel
theorem dL_law_1020 : decode code 1020 = .ok (.aload_n 1, 1) := by decide +kernel
theorem dL_law_1021 : decode code 1021 = .ok (.aload_n 0, 1) := by decide +kernel
theorem dL_law_1022 : decode code 1022 = .ok (.iload_n 3, 1) := by decide +kernel
theorem dL_law_1023 : decode code 1023 = .ok (.iconst 1, 1) := by decide +kernel
theorem dL_law_1024 : decode code 1024 = .ok (.iadd, 1) := by decide +kernel
theorem dL_law_1025 : decode code 1025 = .ok (.iaload, 1) := by decide +kernel
theorem dL_law_1026 : decode code 1026 = .ok (.aload_n 0, 1) := by decide +kernel
theorem dL_law_1027 : decode code 1027 = .ok (.iload_n 3, 1) := by decide +kernel
theorem dL_law_1028 : decode code 1028 = .ok (.iconst 2, 1) := by decide +kernel
theorem dL_law_1029 : decode code 1029 = .ok (.iadd, 1) := by decide +kernel
theorem dL_law_1030 : decode code 1030 = .ok (.iaload, 1) := by decide +kernel
theorem dL_law_1031 : decode code 1031 = .ok (.aload_n 0, 1) := by decide +kernel
theorem dL_law_1032 : decode code 1032 = .ok (.iload_n 3, 1) := by decide +kernel
theorem dL_law_1033 : decode code 1033 = .ok (.iconst 3, 1) := by decide +kernel
theorem dL_law_1034 : decode code 1034 = .ok (.iadd, 1) := by decide +kernel
theorem dL_law_1035 : decode code 1035 = .ok (.iaload, 1) := by decide +kernel
theorem dL_law_1036 : decode code 1036 = .ok (.invokevirtual 117, 3) := by decide +kernel
theorem dL_law_1039 : decode code 1039 = .ok (.aload_n 2, 1) := by decide +kernel
theorem dL_law_1040 : decode code 1040 = .ok (.aload_n 0, 1) := by decide +kernel
theorem dL_law_1041 : decode code 1041 = .ok (.iload_n 3, 1) := by decide +kernel
theorem dL_law_1042 : decode code 1042 = .ok (.iconst 1, 1) := by decide +kernel
theorem dL_law_1043 : decode code 1043 = .ok (.iadd, 1) := by decide +kernel
theorem dL_law_1044 : decode code 1044 = .ok (.iaload, 1) := by decide +kernel
theorem dL_law_1045 : decode code 1045 = .ok (.aload_n 0, 1) := by decide +kernel
theorem dL_law_1046 : decode code 1046 = .ok (.iload_n 3, 1) := by decide +kernel
theorem dL_law_1047 : decode code 1047 = .ok (.iconst 2, 1) := by decide +kernel
theorem dL_law_1048 : decode code 1048 = .ok (.iadd, 1) := by decide +kernel
theorem dL_law_1049 : decode code 1049 = .ok (.iaload, 1) := by decide +kernel
theorem dL_law_1050 : decode code 1050 = .ok (.aload_n 0, 1) := by decide +kernel
theorem dL_law_1051 : decode code 1051 = .ok (.iload_n 3, 1) := by decide +kernel
theorem dL_law_1052 : decode code 1052 = .ok (.iconst 3, 1) := by decide +kernel
theorem dL_law_1053 : decode code 1053 = .ok (.iadd, 1) := by decide +kernel
theorem dL_law_1054 : decode code 1054 = .ok (.iaload, 1) := by decide +kernel
theorem dL_law_1055 : decode code 1055 = .ok (.invokevirtual 120, 3) := by decide +kernel
theorem dL_law_1058 : decode code 1058 = .ok (.if_icmp .eq 472, 3) := by decide +kernel
theorem dL_law_1061 : decode code 1061 = .ok (.iconst 0, 1) := by decide +kernel
theorem dL_law_1062 : decode code 1062 = .ok (.ireturn, 1) := by decide +kernel
theorem dL_law_1063 : decode code 1063 = .ok (.aload_n 1, 1) := by decide +kernel
theorem dL_law_1064 : decode code 1064 = .ok (.aload_n 0, 1) := by decide +kernel
theorem dL_law_1065 : decode code 1065 = .ok (.iload_n 3, 1) := by decide +kernel
theorem dL_law_1066 : decode code 1066 = .ok (.iconst 1, 1) := by decide +kernel
theorem dL_law_1067 : decode code 1067 = .ok (.iadd, 1) := by decide +kernel
theorem dL_law_1068 : decode code 1068 = .ok (.iaload, 1) := by decide +kernel
theorem dL_law_1069 : decode code 1069 = .ok (.aload_n 0, 1) := by decide +kernel
theorem dL_law_1070 : decode code 1070 = .ok (.iload_n 3, 1) := by decide +kernel
theorem dL_law_1071 : decode code 1071 = .ok (.iconst 2, 1) := by decide +kernel
theorem dL_law_1072 : decode code 1072 = .ok (.iadd, 1) := by decide +kernel
theorem dL_law_1073 : decode code 1073 = .ok (.iaload, 1) := by decide +kernel
theorem dL_law_1074 : decode code 1074 = .ok (.invokevirtual 121, 3) := by decide +kernel
theorem dL_law_1077 : decode code 1077 = .ok (.aload_n 2, 1) := by decide +kernel
theorem dL_law_1078 : decode code 1078 = .ok (.aload_n 0, 1) := by decide +kernel
theorem dL_law_1079 : decode code 1079 = .ok (.iload_n 3, 1) := by decide +kernel
theorem dL_law_1080 : decode code 1080 = .ok (.iconst 1, 1) := by decide +kernel
theorem dL_law_1081 : decode code 1081 = .ok (.iadd, 1) := by decide +kernel
theorem dL_law_1082 : decode code 1082 = .ok (.iaload, 1) := by decide +kernel
theorem dL_law_1083 : decode code 1083 = .ok (.aload_n 0, 1) := by decide +kernel
theorem dL_law_1084 : decode code 1084 = .ok (.iload_n 3, 1) := by decide +kernel
theorem dL_law_1085 : decode code 1085 = .ok (.iconst 2, 1) := by decide +kernel
theorem dL_law_1086 : decode code 1086 = .ok (.iadd, 1) := by decide +kernel
theorem dL_law_1087 : decode code 1087 = .ok (.iaload, 1) := by decide +kernel
theorem dL_law_1088 : decode code 1088 = .ok (.invokevirtual 124, 3) := by decide +kernel
theorem dL_law_1091 : decode code 1091 = .ok (.if_icmp .eq 439, 3) := by decide +kernel
theorem dL_law_1094 : decode code 1094 = .ok (.iconst 0, 1) := by decide +kernel
theorem dL_law_1095 : decode code 1095 = .ok (.ireturn, 1) := by decide +kernel
theorem dL_law_1096 : decode code 1096 = .ok (.aload_n 1, 1) := by decide +kernel
theorem dL_law_1097 : decode code 1097 = .ok (.aload_n 0, 1) := by decide +kernel
theorem dL_law_1098 : decode code 1098 = .ok (.iload_n 3, 1) := by decide +kernel
theorem dL_law_1099 : decode code 1099 = .ok (.iconst 1, 1) := by decide +kernel
theorem dL_law_1100 : decode code 1100 = .ok (.iadd, 1) := by decide +kernel
theorem dL_law_1101 : decode code 1101 = .ok (.iaload, 1) := by decide +kernel
theorem dL_law_1102 : decode code 1102 = .ok (.aload_n 0, 1) := by decide +kernel
theorem dL_law_1103 : decode code 1103 = .ok (.iload_n 3, 1) := by decide +kernel
theorem dL_law_1104 : decode code 1104 = .ok (.iconst 2, 1) := by decide +kernel
theorem dL_law_1105 : decode code 1105 = .ok (.iadd, 1) := by decide +kernel
theorem dL_law_1106 : decode code 1106 = .ok (.iaload, 1) := by decide +kernel
theorem dL_law_1107 : decode code 1107 = .ok (.invokevirtual 125, 3) := by decide +kernel
theorem dL_law_1110 : decode code 1110 = .ok (.aload_n 2, 1) := by decide +kernel
theorem dL_law_1111 : decode code 1111 = .ok (.aload_n 0, 1) := by decide +kernel
theorem dL_law_1112 : decode code 1112 = .ok (.iload_n 3, 1) := by decide +kernel
theorem dL_law_1113 : decode code 1113 = .ok (.iconst 1, 1) := by decide +kernel
theorem dL_law_1114 : decode code 1114 = .ok (.iadd, 1) := by decide +kernel
theorem dL_law_1115 : decode code 1115 = .ok (.iaload, 1) := by decide +kernel
theorem dL_law_1116 : decode code 1116 = .ok (.aload_n 0, 1) := by decide +kernel
theorem dL_law_1117 : decode code 1117 = .ok (.iload_n 3, 1) := by decide +kernel
theorem dL_law_1118 : decode code 1118 = .ok (.iconst 2, 1) := by decide +kernel
theorem dL_law_1119 : decode code 1119 = .ok (.iadd, 1) := by decide +kernel
theorem dL_law_1120 : decode code 1120 = .ok (.iaload, 1) := by decide +kernel
theorem dL_law_1121 : decode code 1121 = .ok (.invokevirtual 128, 3) := by decide +kernel
theorem dL_law_1124 : decode code 1124 = .ok (.if_icmp .eq 406, 3) := by decide +kernel
theorem dL_law_1127 : decode code 1127 = .ok (.iconst 0, 1) := by decide +kernel
theorem dL_law_1128 : decode code 1128 = .ok (.ireturn, 1) := by decide +kernel
theorem dL_law_1129 : decode code 1129 = .ok (.aload_n 1, 1) := by decide +kernel
theorem dL_law_1130 : decode code 1130 = .ok (.aload_n 0, 1) := by decide +kernel
theorem dL_law_1131 : decode code 1131 = .ok (.iload_n 3, 1) := by decide +kernel
theorem dL_law_1132 : decode code 1132 = .ok (.iconst 1, 1) := by decide +kernel
theorem dL_law_1133 : decode code 1133 = .ok (.iadd, 1) := by decide +kernel
theorem dL_law_1134 : decode code 1134 = .ok (.iaload, 1) := by decide +kernel
theorem dL_law_1135 : decode code 1135 = .ok (.aload_n 0, 1) := by decide +kernel
theorem dL_law_1136 : decode code 1136 = .ok (.iload_n 3, 1) := by decide +kernel
theorem dL_law_1137 : decode code 1137 = .ok (.iconst 2, 1) := by decide +kernel
theorem dL_law_1138 : decode code 1138 = .ok (.iadd, 1) := by decide +kernel
theorem dL_law_1139 : decode code 1139 = .ok (.iaload, 1) := by decide +kernel
theorem dL_law_1140 : decode code 1140 = .ok (.aload_n 0, 1) := by decide +kernel
theorem dL_law_1141 : decode code 1141 = .ok (.iload_n 3, 1) := by decide +kernel
theorem dL_law_1142 : decode code 1142 = .ok (.iconst 3, 1) := by decide +kernel
theorem dL_law_1143 : decode code 1143 = .ok (.iadd, 1) := by decide +kernel
theorem dL_law_1144 : decode code 1144 = .ok (.iaload, 1) := by decide +kernel
theorem dL_law_1145 : decode code 1145 = .ok (.invokevirtual 129, 3) := by decide +kernel
theorem dL_law_1148 : decode code 1148 = .ok (.aload_n 2, 1) := by decide +kernel
theorem dL_law_1149 : decode code 1149 = .ok (.aload_n 0, 1) := by decide +kernel
theorem dL_law_1150 : decode code 1150 = .ok (.iload_n 3, 1) := by decide +kernel
theorem dL_law_1151 : decode code 1151 = .ok (.iconst 1, 1) := by decide +kernel
theorem dL_law_1152 : decode code 1152 = .ok (.iadd, 1) := by decide +kernel
theorem dL_law_1153 : decode code 1153 = .ok (.iaload, 1) := by decide +kernel
theorem dL_law_1154 : decode code 1154 = .ok (.aload_n 0, 1) := by decide +kernel
theorem dL_law_1155 : decode code 1155 = .ok (.iload_n 3, 1) := by decide +kernel
theorem dL_law_1156 : decode code 1156 = .ok (.iconst 2, 1) := by decide +kernel
theorem dL_law_1157 : decode code 1157 = .ok (.iadd, 1) := by decide +kernel
theorem dL_law_1158 : decode code 1158 = .ok (.iaload, 1) := by decide +kernel
theorem dL_law_1159 : decode code 1159 = .ok (.aload_n 0, 1) := by decide +kernel
theorem dL_law_1160 : decode code 1160 = .ok (.iload_n 3, 1) := by decide +kernel
theorem dL_law_1161 : decode code 1161 = .ok (.iconst 3, 1) := by decide +kernel
theorem dL_law_1162 : decode code 1162 = .ok (.iadd, 1) := by decide +kernel
theorem dL_law_1163 : decode code 1163 = .ok (.iaload, 1) := by decide +kernel
theorem dL_law_1164 : decode code 1164 = .ok (.invokevirtual 132, 3) := by decide +kernel
theorem dL_law_1167 : decode code 1167 = .ok (.if_icmp .eq 363, 3) := by decide +kernel
theorem dL_law_1170 : decode code 1170 = .ok (.iconst 0, 1) := by decide +kernel
theorem dL_law_1171 : decode code 1171 = .ok (.ireturn, 1) := by decide +kernel
theorem dL_law_1172 : decode code 1172 = .ok (.aload_n 1, 1) := by decide +kernel
theorem dL_law_1173 : decode code 1173 = .ok (.aload_n 0, 1) := by decide +kernel
theorem dL_law_1174 : decode code 1174 = .ok (.iload_n 3, 1) := by decide +kernel
theorem dL_law_1175 : decode code 1175 = .ok (.iconst 1, 1) := by decide +kernel
theorem dL_law_1176 : decode code 1176 = .ok (.iadd, 1) := by decide +kernel
theorem dL_law_1177 : decode code 1177 = .ok (.iaload, 1) := by decide +kernel
theorem dL_law_1178 : decode code 1178 = .ok (.aload_n 0, 1) := by decide +kernel
theorem dL_law_1179 : decode code 1179 = .ok (.iload_n 3, 1) := by decide +kernel
theorem dL_law_1180 : decode code 1180 = .ok (.iconst 2, 1) := by decide +kernel
theorem dL_law_1181 : decode code 1181 = .ok (.iadd, 1) := by decide +kernel
theorem dL_law_1182 : decode code 1182 = .ok (.iaload, 1) := by decide +kernel
theorem dL_law_1183 : decode code 1183 = .ok (.invokevirtual 133, 3) := by decide +kernel
theorem dL_law_1186 : decode code 1186 = .ok (.aload_n 2, 1) := by decide +kernel
theorem dL_law_1187 : decode code 1187 = .ok (.aload_n 0, 1) := by decide +kernel
theorem dL_law_1188 : decode code 1188 = .ok (.iload_n 3, 1) := by decide +kernel
theorem dL_law_1189 : decode code 1189 = .ok (.iconst 1, 1) := by decide +kernel
theorem dL_law_1190 : decode code 1190 = .ok (.iadd, 1) := by decide +kernel
theorem dL_law_1191 : decode code 1191 = .ok (.iaload, 1) := by decide +kernel
theorem dL_law_1192 : decode code 1192 = .ok (.aload_n 0, 1) := by decide +kernel
theorem dL_law_1193 : decode code 1193 = .ok (.iload_n 3, 1) := by decide +kernel
theorem dL_law_1194 : decode code 1194 = .ok (.iconst 2, 1) := by decide +kernel
theorem dL_law_1195 : decode code 1195 = .ok (.iadd, 1) := by decide +kernel
theorem dL_law_1196 : decode code 1196 = .ok (.iaload, 1) := by decide +kernel
theorem dL_law_1197 : decode code 1197 = .ok (.invokevirtual 136, 3) := by decide +kernel
theorem dL_law_1200 : decode code 1200 = .ok (.if_icmp .eq 330, 3) := by decide +kernel
theorem dL_law_1203 : decode code 1203 = .ok (.iconst 0, 1) := by decide +kernel
theorem dL_law_1204 : decode code 1204 = .ok (.ireturn, 1) := by decide +kernel
theorem dL_law_1205 : decode code 1205 = .ok (.aload_n 1, 1) := by decide +kernel
theorem dL_law_1206 : decode code 1206 = .ok (.invokevirtual 137, 3) := by decide +kernel
theorem dL_law_1209 : decode code 1209 = .ok (.aload_n 2, 1) := by decide +kernel
theorem dL_law_1210 : decode code 1210 = .ok (.invokevirtual 141, 3) := by decide +kernel
theorem dL_law_1213 : decode code 1213 = .ok (.if_icmp .eq 317, 3) := by decide +kernel
theorem dL_law_1216 : decode code 1216 = .ok (.iconst 0, 1) := by decide +kernel
theorem dL_law_1217 : decode code 1217 = .ok (.ireturn, 1) := by decide +kernel
theorem dL_law_1218 : decode code 1218 = .ok (.aload_n 1, 1) := by decide +kernel
theorem dL_law_1219 : decode code 1219 = .ok (.aload_n 0, 1) := by decide +kernel
theorem dL_law_1220 : decode code 1220 = .ok (.iload_n 3, 1) := by decide +kernel
theorem dL_law_1221 : decode code 1221 = .ok (.iconst 1, 1) := by decide +kernel
theorem dL_law_1222 : decode code 1222 = .ok (.iadd, 1) := by decide +kernel
theorem dL_law_1223 : decode code 1223 = .ok (.iaload, 1) := by decide +kernel
theorem dL_law_1224 : decode code 1224 = .ok (.invokevirtual 142, 3) := by decide +kernel
theorem dL_law_1227 : decode code 1227 = .ok (.aload_n 2, 1) := by decide +kernel
theorem dL_law_1228 : decode code 1228 = .ok (.aload_n 0, 1) := by decide +kernel
theorem dL_law_1229 : decode code 1229 = .ok (.iload_n 3, 1) := by decide +kernel
theorem dL_law_1230 : decode code 1230 = .ok (.iconst 1, 1) := by decide +kernel
theorem dL_law_1231 : decode code 1231 = .ok (.iadd, 1) := by decide +kernel
theorem dL_law_1232 : decode code 1232 = .ok (.iaload, 1) := by decide +kernel
theorem dL_law_1233 : decode code 1233 = .ok (.invokevirtual 145, 3) := by decide +kernel
theorem dL_law_1236 : decode code 1236 = .ok (.if_icmp .eq 294, 3) := by decide +kernel
theorem dL_law_1239 : decode code 1239 = .ok (.iconst 0, 1) := by decide +kernel
theorem dL_law_1240 : decode code 1240 = .ok (.ireturn, 1) := by decide +kernel
theorem dL_law_1241 : decode code 1241 = .ok (.aload_n 1, 1) := by decide +kernel
theorem dL_law_1242 : decode code 1242 = .ok (.aload_n 0, 1) := by decide +kernel
theorem dL_law_1243 : decode code 1243 = .ok (.iload_n 3, 1) := by decide +kernel
theorem dL_law_1244 : decode code 1244 = .ok (.iconst 1, 1) := by decide +kernel
theorem dL_law_1245 : decode code 1245 = .ok (.iadd, 1) := by decide +kernel
theorem dL_law_1246 : decode code 1246 = .ok (.iaload, 1) := by decide +kernel
theorem dL_law_1247 : decode code 1247 = .ok (.aload_n 0, 1) := by decide +kernel
theorem dL_law_1248 : decode code 1248 = .ok (.iload_n 3, 1) := by decide +kernel
theorem dL_law_1249 : decode code 1249 = .ok (.iconst 2, 1) := by decide +kernel
theorem dL_law_1250 : decode code 1250 = .ok (.iadd, 1) := by decide +kernel
theorem dL_law_1251 : decode code 1251 = .ok (.iaload, 1) := by decide +kernel
theorem dL_law_1252 : decode code 1252 = .ok (.invokevirtual 146, 3) := by decide +kernel
theorem dL_law_1255 : decode code 1255 = .ok (.aload_n 2, 1) := by decide +kernel
theorem dL_law_1256 : decode code 1256 = .ok (.aload_n 0, 1) := by decide +kernel
theorem dL_law_1257 : decode code 1257 = .ok (.iload_n 3, 1) := by decide +kernel
theorem dL_law_1258 : decode code 1258 = .ok (.iconst 1, 1) := by decide +kernel
theorem dL_law_1259 : decode code 1259 = .ok (.iadd, 1) := by decide +kernel
theorem dL_law_1260 : decode code 1260 = .ok (.iaload, 1) := by decide +kernel
theorem dL_law_1261 : decode code 1261 = .ok (.aload_n 0, 1) := by decide +kernel
theorem dL_law_1262 : decode code 1262 = .ok (.iload_n 3, 1) := by decide +kernel
theorem dL_law_1263 : decode code 1263 = .ok (.iconst 2, 1) := by decide +kernel
theorem dL_law_1264 : decode code 1264 = .ok (.iadd, 1) := by decide +kernel
theorem dL_law_1265 : decode code 1265 = .ok (.iaload, 1) := by decide +kernel
theorem dL_law_1266 : decode code 1266 = .ok (.invokevirtual 149, 3) := by decide +kernel
theorem dL_law_1269 : decode code 1269 = .ok (.if_icmp .eq 261, 3) := by decide +kernel
theorem dL_law_1272 : decode code 1272 = .ok (.iconst 0, 1) := by decide +kernel
theorem dL_law_1273 : decode code 1273 = .ok (.ireturn, 1) := by decide +kernel
theorem dL_law_1274 : decode code 1274 = .ok (.aload_n 1, 1) := by decide +kernel
theorem dL_law_1275 : decode code 1275 = .ok (.aload_n 0, 1) := by decide +kernel
theorem dL_law_1276 : decode code 1276 = .ok (.iload_n 3, 1) := by decide +kernel
theorem dL_law_1277 : decode code 1277 = .ok (.iconst 1, 1) := by decide +kernel
theorem dL_law_1278 : decode code 1278 = .ok (.iadd, 1) := by decide +kernel
theorem dL_law_1279 : decode code 1279 = .ok (.iaload, 1) := by decide +kernel
theorem dL_law_1280 : decode code 1280 = .ok (.aload_n 0, 1) := by decide +kernel
theorem dL_law_1281 : decode code 1281 = .ok (.iload_n 3, 1) := by decide +kernel
theorem dL_law_1282 : decode code 1282 = .ok (.iconst 2, 1) := by decide +kernel
theorem dL_law_1283 : decode code 1283 = .ok (.iadd, 1) := by decide +kernel
theorem dL_law_1284 : decode code 1284 = .ok (.iaload, 1) := by decide +kernel
theorem dL_law_1285 : decode code 1285 = .ok (.invokevirtual 150, 3) := by decide +kernel
theorem dL_law_1288 : decode code 1288 = .ok (.aload_n 2, 1) := by decide +kernel
theorem dL_law_1289 : decode code 1289 = .ok (.aload_n 0, 1) := by decide +kernel
theorem dL_law_1290 : decode code 1290 = .ok (.iload_n 3, 1) := by decide +kernel
theorem dL_law_1291 : decode code 1291 = .ok (.iconst 1, 1) := by decide +kernel
theorem dL_law_1292 : decode code 1292 = .ok (.iadd, 1) := by decide +kernel
theorem dL_law_1293 : decode code 1293 = .ok (.iaload, 1) := by decide +kernel
theorem dL_law_1294 : decode code 1294 = .ok (.aload_n 0, 1) := by decide +kernel
theorem dL_law_1295 : decode code 1295 = .ok (.iload_n 3, 1) := by decide +kernel
theorem dL_law_1296 : decode code 1296 = .ok (.iconst 2, 1) := by decide +kernel
theorem dL_law_1297 : decode code 1297 = .ok (.iadd, 1) := by decide +kernel
theorem dL_law_1298 : decode code 1298 = .ok (.iaload, 1) := by decide +kernel
theorem dL_law_1299 : decode code 1299 = .ok (.invokevirtual 153, 3) := by decide +kernel
theorem dL_law_1302 : decode code 1302 = .ok (.if_icmp .eq 228, 3) := by decide +kernel
theorem dL_law_1305 : decode code 1305 = .ok (.iconst 0, 1) := by decide +kernel
theorem dL_law_1306 : decode code 1306 = .ok (.ireturn, 1) := by decide +kernel
theorem dL_law_1307 : decode code 1307 = .ok (.aload_n 1, 1) := by decide +kernel
theorem dL_law_1308 : decode code 1308 = .ok (.aload_n 0, 1) := by decide +kernel
theorem dL_law_1309 : decode code 1309 = .ok (.iload_n 3, 1) := by decide +kernel
theorem dL_law_1310 : decode code 1310 = .ok (.iconst 1, 1) := by decide +kernel
theorem dL_law_1311 : decode code 1311 = .ok (.iadd, 1) := by decide +kernel
theorem dL_law_1312 : decode code 1312 = .ok (.iaload, 1) := by decide +kernel
theorem dL_law_1313 : decode code 1313 = .ok (.invokevirtual 154, 3) := by decide +kernel
theorem dL_law_1316 : decode code 1316 = .ok (.aload_n 2, 1) := by decide +kernel
theorem dL_law_1317 : decode code 1317 = .ok (.aload_n 0, 1) := by decide +kernel
theorem dL_law_1318 : decode code 1318 = .ok (.iload_n 3, 1) := by decide +kernel
theorem dL_law_1319 : decode code 1319 = .ok (.iconst 1, 1) := by decide +kernel
theorem dL_law_1320 : decode code 1320 = .ok (.iadd, 1) := by decide +kernel
theorem dL_law_1321 : decode code 1321 = .ok (.iaload, 1) := by decide +kernel
theorem dL_law_1322 : decode code 1322 = .ok (.invokevirtual 157, 3) := by decide +kernel
theorem dL_law_1325 : decode code 1325 = .ok (.if_icmp .eq 205, 3) := by decide +kernel
theorem dL_law_1328 : decode code 1328 = .ok (.iconst 0, 1) := by decide +kernel
theorem dL_law_1329 : decode code 1329 = .ok (.ireturn, 1) := by decide +kernel
theorem dL_law_1330 : decode code 1330 = .ok (.aload_n 1, 1) := by decide +kernel
theorem dL_law_1331 : decode code 1331 = .ok (.aload_n 0, 1) := by decide +kernel
theorem dL_law_1332 : decode code 1332 = .ok (.iload_n 3, 1) := by decide +kernel
theorem dL_law_1333 : decode code 1333 = .ok (.iconst 1, 1) := by decide +kernel
theorem dL_law_1334 : decode code 1334 = .ok (.iadd, 1) := by decide +kernel
theorem dL_law_1335 : decode code 1335 = .ok (.iaload, 1) := by decide +kernel
theorem dL_law_1336 : decode code 1336 = .ok (.aload_n 0, 1) := by decide +kernel
theorem dL_law_1337 : decode code 1337 = .ok (.iload_n 3, 1) := by decide +kernel
theorem dL_law_1338 : decode code 1338 = .ok (.iconst 2, 1) := by decide +kernel
theorem dL_law_1339 : decode code 1339 = .ok (.iadd, 1) := by decide +kernel
theorem dL_law_1340 : decode code 1340 = .ok (.iaload, 1) := by decide +kernel
theorem dL_law_1341 : decode code 1341 = .ok (.invokevirtual 158, 3) := by decide +kernel
theorem dL_law_1344 : decode code 1344 = .ok (.aload_n 2, 1) := by decide +kernel
theorem dL_law_1345 : decode code 1345 = .ok (.aload_n 0, 1) := by decide +kernel
theorem dL_law_1346 : decode code 1346 = .ok (.iload_n 3, 1) := by decide +kernel
theorem dL_law_1347 : decode code 1347 = .ok (.iconst 1, 1) := by decide +kernel
theorem dL_law_1348 : decode code 1348 = .ok (.iadd, 1) := by decide +kernel
theorem dL_law_1349 : decode code 1349 = .ok (.iaload, 1) := by decide +kernel
theorem dL_law_1350 : decode code 1350 = .ok (.aload_n 0, 1) := by decide +kernel
theorem dL_law_1351 : decode code 1351 = .ok (.iload_n 3, 1) := by decide +kernel
theorem dL_law_1352 : decode code 1352 = .ok (.iconst 2, 1) := by decide +kernel
theorem dL_law_1353 : decode code 1353 = .ok (.iadd, 1) := by decide +kernel
theorem dL_law_1354 : decode code 1354 = .ok (.iaload, 1) := by decide +kernel
theorem dL_law_1355 : decode code 1355 = .ok (.invokevirtual 161, 3) := by decide +kernel
theorem dL_law_1358 : decode code 1358 = .ok (.if_icmp .eq 172, 3) := by decide +kernel
theorem dL_law_1361 : decode code 1361 = .ok (.iconst 0, 1) := by decide +kernel
theorem dL_law_1362 : decode code 1362 = .ok (.ireturn, 1) := by decide +kernel
theorem dL_law_1363 : decode code 1363 = .ok (.aload_n 1, 1) := by decide +kernel
theorem dL_law_1364 : decode code 1364 = .ok (.aload_n 0, 1) := by decide +kernel
theorem dL_law_1365 : decode code 1365 = .ok (.iload_n 3, 1) := by decide +kernel
theorem dL_law_1366 : decode code 1366 = .ok (.iconst 1, 1) := by decide +kernel
theorem dL_law_1367 : decode code 1367 = .ok (.iadd, 1) := by decide +kernel
theorem dL_law_1368 : decode code 1368 = .ok (.iaload, 1) := by decide +kernel
theorem dL_law_1369 : decode code 1369 = .ok (.invokevirtual 162, 3) := by decide +kernel
theorem dL_law_1372 : decode code 1372 = .ok (.aload_n 2, 1) := by decide +kernel
theorem dL_law_1373 : decode code 1373 = .ok (.aload_n 0, 1) := by decide +kernel
theorem dL_law_1374 : decode code 1374 = .ok (.iload_n 3, 1) := by decide +kernel
theorem dL_law_1375 : decode code 1375 = .ok (.iconst 1, 1) := by decide +kernel
theorem dL_law_1376 : decode code 1376 = .ok (.iadd, 1) := by decide +kernel
theorem dL_law_1377 : decode code 1377 = .ok (.iaload, 1) := by decide +kernel
theorem dL_law_1378 : decode code 1378 = .ok (.invokevirtual 165, 3) := by decide +kernel
theorem dL_law_1381 : decode code 1381 = .ok (.if_icmp .eq 149, 3) := by decide +kernel
theorem dL_law_1384 : decode code 1384 = .ok (.iconst 0, 1) := by decide +kernel
theorem dL_law_1385 : decode code 1385 = .ok (.ireturn, 1) := by decide +kernel
theorem dL_law_1386 : decode code 1386 = .ok (.aload_n 1, 1) := by decide +kernel
theorem dL_law_1387 : decode code 1387 = .ok (.aload_n 0, 1) := by decide +kernel
theorem dL_law_1388 : decode code 1388 = .ok (.iload_n 3, 1) := by decide +kernel
theorem dL_law_1389 : decode code 1389 = .ok (.iconst 1, 1) := by decide +kernel
theorem dL_law_1390 : decode code 1390 = .ok (.iadd, 1) := by decide +kernel
theorem dL_law_1391 : decode code 1391 = .ok (.iaload, 1) := by decide +kernel
theorem dL_law_1392 : decode code 1392 = .ok (.invokevirtual 166, 3) := by decide +kernel
theorem dL_law_1395 : decode code 1395 = .ok (.aload_n 2, 1) := by decide +kernel
theorem dL_law_1396 : decode code 1396 = .ok (.aload_n 0, 1) := by decide +kernel
theorem dL_law_1397 : decode code 1397 = .ok (.iload_n 3, 1) := by decide +kernel
theorem dL_law_1398 : decode code 1398 = .ok (.iconst 1, 1) := by decide +kernel
theorem dL_law_1399 : decode code 1399 = .ok (.iadd, 1) := by decide +kernel
theorem dL_law_1400 : decode code 1400 = .ok (.iaload, 1) := by decide +kernel
theorem dL_law_1401 : decode code 1401 = .ok (.invokevirtual 169, 3) := by decide +kernel
theorem dL_law_1404 : decode code 1404 = .ok (.if_icmp .eq 126, 3) := by decide +kernel
theorem dL_law_1407 : decode code 1407 = .ok (.iconst 0, 1) := by decide +kernel
theorem dL_law_1408 : decode code 1408 = .ok (.ireturn, 1) := by decide +kernel
theorem dL_law_1409 : decode code 1409 = .ok (.aload_n 1, 1) := by decide +kernel
theorem dL_law_1410 : decode code 1410 = .ok (.aload_n 0, 1) := by decide +kernel
theorem dL_law_1411 : decode code 1411 = .ok (.iload_n 3, 1) := by decide +kernel
theorem dL_law_1412 : decode code 1412 = .ok (.iconst 1, 1) := by decide +kernel
theorem dL_law_1413 : decode code 1413 = .ok (.iadd, 1) := by decide +kernel
theorem dL_law_1414 : decode code 1414 = .ok (.iaload, 1) := by decide +kernel
theorem dL_law_1415 : decode code 1415 = .ok (.invokevirtual 170, 3) := by decide +kernel
theorem dL_law_1418 : decode code 1418 = .ok (.aload_n 2, 1) := by decide +kernel
theorem dL_law_1419 : decode code 1419 = .ok (.aload_n 0, 1) := by decide +kernel
theorem dL_law_1420 : decode code 1420 = .ok (.iload_n 3, 1) := by decide +kernel
theorem dL_law_1421 : decode code 1421 = .ok (.iconst 1, 1) := by decide +kernel
theorem dL_law_1422 : decode code 1422 = .ok (.iadd, 1) := by decide +kernel
theorem dL_law_1423 : decode code 1423 = .ok (.iaload, 1) := by decide +kernel
theorem dL_law_1424 : decode code 1424 = .ok (.invokevirtual 173, 3) := by decide +kernel
theorem dL_law_1427 : decode code 1427 = .ok (.if_icmp .eq 103, 3) := by decide +kernel
theorem dL_law_1430 : decode code 1430 = .ok (.iconst 0, 1) := by decide +kernel
theorem dL_law_1431 : decode code 1431 = .ok (.ireturn, 1) := by decide +kernel
theorem dL_law_1432 : decode code 1432 = .ok (.aload_n 1, 1) := by decide +kernel
theorem dL_law_1433 : decode code 1433 = .ok (.aload_n 0, 1) := by decide +kernel
theorem dL_law_1434 : decode code 1434 = .ok (.iload_n 3, 1) := by decide +kernel
theorem dL_law_1435 : decode code 1435 = .ok (.iconst 1, 1) := by decide +kernel
theorem dL_law_1436 : decode code 1436 = .ok (.iadd, 1) := by decide +kernel
theorem dL_law_1437 : decode code 1437 = .ok (.iaload, 1) := by decide +kernel
theorem dL_law_1438 : decode code 1438 = .ok (.invokevirtual 174, 3) := by decide +kernel
theorem dL_law_1441 : decode code 1441 = .ok (.aload_n 2, 1) := by decide +kernel
theorem dL_law_1442 : decode code 1442 = .ok (.aload_n 0, 1) := by decide +kernel
theorem dL_law_1443 : decode code 1443 = .ok (.iload_n 3, 1) := by decide +kernel
theorem dL_law_1444 : decode code 1444 = .ok (.iconst 1, 1) := by decide +kernel
theorem dL_law_1445 : decode code 1445 = .ok (.iadd, 1) := by decide +kernel
theorem dL_law_1446 : decode code 1446 = .ok (.iaload, 1) := by decide +kernel
theorem dL_law_1447 : decode code 1447 = .ok (.invokevirtual 177, 3) := by decide +kernel
theorem dL_law_1450 : decode code 1450 = .ok (.if_icmp .eq 80, 3) := by decide +kernel
theorem dL_law_1453 : decode code 1453 = .ok (.iconst 0, 1) := by decide +kernel
theorem dL_law_1454 : decode code 1454 = .ok (.ireturn, 1) := by decide +kernel
theorem dL_law_1455 : decode code 1455 = .ok (.aload_n 1, 1) := by decide +kernel
theorem dL_law_1456 : decode code 1456 = .ok (.invokevirtual 178, 3) := by decide +kernel
theorem dL_law_1459 : decode code 1459 = .ok (.aload_n 2, 1) := by decide +kernel
theorem dL_law_1460 : decode code 1460 = .ok (.invokevirtual 182, 3) := by decide +kernel
theorem dL_law_1463 : decode code 1463 = .ok (.if_icmp .eq 67, 3) := by decide +kernel
theorem dL_law_1466 : decode code 1466 = .ok (.iconst 0, 1) := by decide +kernel
theorem dL_law_1467 : decode code 1467 = .ok (.ireturn, 1) := by decide +kernel
theorem dL_law_1468 : decode code 1468 = .ok (.aload_n 1, 1) := by decide +kernel
theorem dL_law_1469 : decode code 1469 = .ok (.aload_n 0, 1) := by decide +kernel
theorem dL_law_1470 : decode code 1470 = .ok (.iload_n 3, 1) := by decide +kernel
theorem dL_law_1471 : decode code 1471 = .ok (.iconst 1, 1) := by decide +kernel
theorem dL_law_1472 : decode code 1472 = .ok (.iadd, 1) := by decide +kernel
theorem dL_law_1473 : decode code 1473 = .ok (.iaload, 1) := by decide +kernel
theorem dL_law_1474 : decode code 1474 = .ok (.ifCond .eq 7, 3) := by decide +kernel
theorem dL_law_1477 : decode code 1477 = .ok (.iconst 1, 1) := by decide +kernel
theorem dL_law_1478 : decode code 1478 = .ok (.goto 4, 3) := by decide +kernel
theorem dL_law_1481 : decode code 1481 = .ok (.iconst 0, 1) := by decide +kernel
theorem dL_law_1482 : decode code 1482 = .ok (.invokevirtual 183, 3) := by decide +kernel
theorem dL_law_1485 : decode code 1485 = .ok (.aload_n 2, 1) := by decide +kernel
theorem dL_law_1486 : decode code 1486 = .ok (.aload_n 0, 1) := by decide +kernel
theorem dL_law_1487 : decode code 1487 = .ok (.iload_n 3, 1) := by decide +kernel
theorem dL_law_1488 : decode code 1488 = .ok (.iconst 1, 1) := by decide +kernel
theorem dL_law_1489 : decode code 1489 = .ok (.iadd, 1) := by decide +kernel
theorem dL_law_1490 : decode code 1490 = .ok (.iaload, 1) := by decide +kernel
theorem dL_law_1491 : decode code 1491 = .ok (.ifCond .eq 7, 3) := by decide +kernel
theorem dL_law_1494 : decode code 1494 = .ok (.iconst 1, 1) := by decide +kernel
theorem dL_law_1495 : decode code 1495 = .ok (.goto 4, 3) := by decide +kernel
theorem dL_law_1498 : decode code 1498 = .ok (.iconst 0, 1) := by decide +kernel
theorem dL_law_1499 : decode code 1499 = .ok (.invokevirtual 187, 3) := by decide +kernel
theorem dL_law_1502 : decode code 1502 = .ok (.if_icmp .eq 28, 3) := by decide +kernel
theorem dL_law_1505 : decode code 1505 = .ok (.iconst 0, 1) := by decide +kernel
theorem dL_law_1506 : decode code 1506 = .ok (.ireturn, 1) := by decide +kernel
theorem dL_law_1507 : decode code 1507 = .ok (.aload_n 1, 1) := by decide +kernel
theorem dL_law_1508 : decode code 1508 = .ok (.aload_n 0, 1) := by decide +kernel
theorem dL_law_1509 : decode code 1509 = .ok (.iload_n 3, 1) := by decide +kernel
theorem dL_law_1510 : decode code 1510 = .ok (.iconst 1, 1) := by decide +kernel
theorem dL_law_1511 : decode code 1511 = .ok (.iadd, 1) := by decide +kernel
theorem dL_law_1512 : decode code 1512 = .ok (.iaload, 1) := by decide +kernel
theorem dL_law_1513 : decode code 1513 = .ok (.invokevirtual 188, 3) := by decide +kernel
theorem dL_law_1516 : decode code 1516 = .ok (.aload_n 2, 1) := by decide +kernel
theorem dL_law_1517 : decode code 1517 = .ok (.aload_n 0, 1) := by decide +kernel
theorem dL_law_1518 : decode code 1518 = .ok (.iload_n 3, 1) := by decide +kernel
theorem dL_law_1519 : decode code 1519 = .ok (.iconst 1, 1) := by decide +kernel
theorem dL_law_1520 : decode code 1520 = .ok (.iadd, 1) := by decide +kernel
theorem dL_law_1521 : decode code 1521 = .ok (.iaload, 1) := by decide +kernel
theorem dL_law_1522 : decode code 1522 = .ok (.invokevirtual 191, 3) := by decide +kernel
theorem dL_law_1525 : decode code 1525 = .ok (.if_icmp .eq 5, 3) := by decide +kernel
theorem dL_law_1528 : decode code 1528 = .ok (.iconst 0, 1) := by decide +kernel
theorem dL_law_1529 : decode code 1529 = .ok (.ireturn, 1) := by decide +kernel
theorem dL_law_1530 : decode code 1530 = .ok (.iinc 3 6, 3) := by decide +kernel
theorem dL_law_1533 : decode code 1533 = .ok (.goto (-1515), 3) := by decide +kernel
theorem dL_law_1536 : decode code 1536 = .ok (.iconst 1, 1) := by decide +kernel
theorem dL_law_1537 : decode code 1537 = .ok (.ireturn, 1) := by decide +kernel

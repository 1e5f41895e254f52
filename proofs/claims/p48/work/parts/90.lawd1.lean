theorem dL_pick_0 : decode cL_pick 0 = .ok (.aload_n 0, 1) := by decide +kernel
theorem dL_pick_1 : decode cL_pick 1 = .ok (.iload_n 1, 1) := by decide +kernel
theorem dL_pick_2 : decode cL_pick 2 = .ok (.invokestatic 9, 3) := by decide +kernel
theorem dL_pick_5 : decode cL_pick 5 = .ok (.bipush 8, 2) := by decide +kernel
theorem dL_pick_7 : decode cL_pick 7 = .ok (.iushr, 1) := by decide +kernel
theorem dL_pick_8 : decode cL_pick 8 = .ok (.iload_n 2, 1) := by decide +kernel
theorem dL_pick_9 : decode cL_pick 9 = .ok (.irem, 1) := by decide +kernel
theorem dL_pick_10 : decode cL_pick 10 = .ok (.ireturn, 1) := by decide +kernel
theorem dL_told_0 : decode cL_told 0 = .ok (.iload_n 0, 1) := by decide +kernel
theorem dL_told_1 : decode cL_told 1 = .ok (.ifCond .eq 7, 3) := by decide +kernel
theorem dL_told_4 : decode cL_told 4 = .ok (.iconst 1, 1) := by decide +kernel
theorem dL_told_5 : decode cL_told 5 = .ok (.goto 4, 3) := by decide +kernel
theorem dL_told_8 : decode cL_told 8 = .ok (.iconst 0, 1) := by decide +kernel
theorem dL_told_9 : decode cL_told 9 = .ok (.ireturn, 1) := by decide +kernel
theorem dL_plain_0 : decode cL_plain 0 = .ok (.iload_n 1, 1) := by decide +kernel
theorem dL_plain_1 : decode cL_plain 1 = .ok (.tableswitch 113 0 7 #[47, 56, 63, 70, 80, 86, 97, 106], 47) := by decide +kernel
theorem dL_plain_48 : decode cL_plain 48 = .ok (.aload_n 0, 1) := by decide +kernel
theorem dL_plain_49 : decode cL_plain 49 = .ok (.iload_n 2, 1) := by decide +kernel
theorem dL_plain_50 : decode cL_plain 50 = .ok (.iload_n 3, 1) := by decide +kernel
theorem dL_plain_51 : decode cL_plain 51 = .ok (.iload 4, 2) := by decide +kernel
theorem dL_plain_53 : decode cL_plain 53 = .ok (.invokevirtual 15, 3) := by decide +kernel
theorem dL_plain_56 : decode cL_plain 56 = .ok (.ireturn, 1) := by decide +kernel
theorem dL_plain_57 : decode cL_plain 57 = .ok (.aload_n 0, 1) := by decide +kernel
theorem dL_plain_58 : decode cL_plain 58 = .ok (.iload_n 2, 1) := by decide +kernel
theorem dL_plain_59 : decode cL_plain 59 = .ok (.iload_n 3, 1) := by decide +kernel
theorem dL_plain_60 : decode cL_plain 60 = .ok (.invokevirtual 21, 3) := by decide +kernel
theorem dL_plain_63 : decode cL_plain 63 = .ok (.ireturn, 1) := by decide +kernel
theorem dL_plain_64 : decode cL_plain 64 = .ok (.aload_n 0, 1) := by decide +kernel
theorem dL_plain_65 : decode cL_plain 65 = .ok (.iload_n 2, 1) := by decide +kernel
theorem dL_plain_66 : decode cL_plain 66 = .ok (.iload_n 3, 1) := by decide +kernel
theorem dL_plain_67 : decode cL_plain 67 = .ok (.invokevirtual 25, 3) := by decide +kernel
theorem dL_plain_70 : decode cL_plain 70 = .ok (.ireturn, 1) := by decide +kernel
theorem dL_plain_71 : decode cL_plain 71 = .ok (.aload_n 0, 1) := by decide +kernel
theorem dL_plain_72 : decode cL_plain 72 = .ok (.iload_n 2, 1) := by decide +kernel
theorem dL_plain_73 : decode cL_plain 73 = .ok (.iload_n 3, 1) := by decide +kernel
theorem dL_plain_74 : decode cL_plain 74 = .ok (.invokevirtual 28, 3) := by decide +kernel
theorem dL_plain_77 : decode cL_plain 77 = .ok (.invokestatic 32, 3) := by decide +kernel
theorem dL_plain_80 : decode cL_plain 80 = .ok (.ireturn, 1) := by decide +kernel
theorem dL_plain_81 : decode cL_plain 81 = .ok (.aload_n 0, 1) := by decide +kernel
theorem dL_plain_82 : decode cL_plain 82 = .ok (.iload_n 2, 1) := by decide +kernel
theorem dL_plain_83 : decode cL_plain 83 = .ok (.invokevirtual 36, 3) := by decide +kernel
theorem dL_plain_86 : decode cL_plain 86 = .ok (.ireturn, 1) := by decide +kernel
theorem dL_plain_87 : decode cL_plain 87 = .ok (.aload_n 0, 1) := by decide +kernel
theorem dL_plain_88 : decode cL_plain 88 = .ok (.iload_n 2, 1) := by decide +kernel
theorem dL_plain_89 : decode cL_plain 89 = .ok (.iload_n 3, 1) := by decide +kernel
theorem dL_plain_90 : decode cL_plain 90 = .ok (.iload 4, 2) := by decide +kernel
theorem dL_plain_92 : decode cL_plain 92 = .ok (.iload 5, 2) := by decide +kernel
theorem dL_plain_94 : decode cL_plain 94 = .ok (.invokevirtual 40, 3) := by decide +kernel
theorem dL_plain_97 : decode cL_plain 97 = .ok (.ireturn, 1) := by decide +kernel
theorem dL_plain_98 : decode cL_plain 98 = .ok (.aload_n 0, 1) := by decide +kernel
theorem dL_plain_99 : decode cL_plain 99 = .ok (.iload 4, 2) := by decide +kernel
theorem dL_plain_101 : decode cL_plain 101 = .ok (.iload_n 2, 1) := by decide +kernel
theorem dL_plain_102 : decode cL_plain 102 = .ok (.iload_n 3, 1) := by decide +kernel
theorem dL_plain_103 : decode cL_plain 103 = .ok (.invokevirtual 44, 3) := by decide +kernel
theorem dL_plain_106 : decode cL_plain 106 = .ok (.ireturn, 1) := by decide +kernel
theorem dL_plain_107 : decode cL_plain 107 = .ok (.aload_n 0, 1) := by decide +kernel
theorem dL_plain_108 : decode cL_plain 108 = .ok (.iload_n 2, 1) := by decide +kernel
theorem dL_plain_109 : decode cL_plain 109 = .ok (.iload_n 3, 1) := by decide +kernel
theorem dL_plain_110 : decode cL_plain 110 = .ok (.invokevirtual 47, 3) := by decide +kernel
theorem dL_plain_113 : decode cL_plain 113 = .ok (.ireturn, 1) := by decide +kernel
theorem dL_plain_114 : decode cL_plain 114 = .ok (.aload_n 0, 1) := by decide +kernel
theorem dL_plain_115 : decode cL_plain 115 = .ok (.invokevirtual 50, 3) := by decide +kernel
theorem dL_plain_118 : decode cL_plain 118 = .ok (.ireturn, 1) := by decide +kernel
theorem dL_deed_0 : decode cL_deed 0 = .ok (.aload_n 0, 1) := by decide +kernel
theorem dL_deed_1 : decode cL_deed 1 = .ok (.iload_n 1, 1) := by decide +kernel
theorem dL_deed_2 : decode cL_deed 2 = .ok (.iload_n 2, 1) := by decide +kernel
theorem dL_deed_3 : decode cL_deed 3 = .ok (.iload_n 3, 1) := by decide +kernel
theorem dL_deed_4 : decode cL_deed 4 = .ok (.iload 4, 2) := by decide +kernel
theorem dL_deed_6 : decode cL_deed 6 = .ok (.iload 5, 2) := by decide +kernel
theorem dL_deed_8 : decode cL_deed 8 = .ok (.invokestatic 54, 3) := by decide +kernel
theorem dL_deed_11 : decode cL_deed 11 = .ok (.ireturn, 1) := by decide +kernel
theorem dL_deed_12 : decode cL_deed 12 = .ok (.astore 6, 2) := by decide +kernel
theorem dL_deed_14 : decode cL_deed 14 = .ok (.sipush (-2002), 3) := by decide +kernel
theorem dL_deed_17 : decode cL_deed 17 = .ok (.ireturn, 1) := by decide +kernel
theorem dL_deed_18 : decode cL_deed 18 = .ok (.astore 6, 2) := by decide +kernel
theorem dL_deed_20 : decode cL_deed 20 = .ok (.sipush (-2003), 3) := by decide +kernel
theorem dL_deed_23 : decode cL_deed 23 = .ok (.ireturn, 1) := by decide +kernel
theorem dL_deed_24 : decode cL_deed 24 = .ok (.astore 6, 2) := by decide +kernel
theorem dL_deed_26 : decode cL_deed 26 = .ok (.sipush (-2005), 3) := by decide +kernel
theorem dL_deed_29 : decode cL_deed 29 = .ok (.ireturn, 1) := by decide +kernel
theorem dL_deed_30 : decode cL_deed 30 = .ok (.astore 6, 2) := by decide +kernel
theorem dL_deed_32 : decode cL_deed 32 = .ok (.sipush (-2001), 3) := by decide +kernel
theorem dL_deed_35 : decode cL_deed 35 = .ok (.ireturn, 1) := by decide +kernel
theorem dL_deed_36 : decode cL_deed 36 = .ok (.astore 6, 2) := by decide +kernel
theorem dL_deed_38 : decode cL_deed 38 = .ok (.sipush (-2004), 3) := by decide +kernel
theorem dL_deed_41 : decode cL_deed 41 = .ok (.ireturn, 1) := by decide +kernel
theorem dL_asked_0 : decode cL_asked 0 = .ok (.iload_n 1, 1) := by decide +kernel
theorem dL_asked_1 : decode cL_asked 1 = .ok (.tableswitch 128 0 9 #[55, 62, 69, 75, 84, 93, 104, 110, 117, 123], 55) := by decide +kernel
theorem dL_asked_56 : decode cL_asked 56 = .ok (.aload_n 0, 1) := by decide +kernel
theorem dL_asked_57 : decode cL_asked 57 = .ok (.iload_n 2, 1) := by decide +kernel
theorem dL_asked_58 : decode cL_asked 58 = .ok (.iload_n 3, 1) := by decide +kernel
theorem dL_asked_59 : decode cL_asked 59 = .ok (.invokevirtual 68, 3) := by decide +kernel
theorem dL_asked_62 : decode cL_asked 62 = .ok (.ireturn, 1) := by decide +kernel
theorem dL_asked_63 : decode cL_asked 63 = .ok (.aload_n 0, 1) := by decide +kernel
theorem dL_asked_64 : decode cL_asked 64 = .ok (.iload_n 2, 1) := by decide +kernel
theorem dL_asked_65 : decode cL_asked 65 = .ok (.iload_n 3, 1) := by decide +kernel
theorem dL_asked_66 : decode cL_asked 66 = .ok (.invokevirtual 71, 3) := by decide +kernel
theorem dL_asked_69 : decode cL_asked 69 = .ok (.ireturn, 1) := by decide +kernel
theorem dL_asked_70 : decode cL_asked 70 = .ok (.aload_n 0, 1) := by decide +kernel
theorem dL_asked_71 : decode cL_asked 71 = .ok (.iload_n 2, 1) := by decide +kernel
theorem dL_asked_72 : decode cL_asked 72 = .ok (.invokevirtual 74, 3) := by decide +kernel
theorem dL_asked_75 : decode cL_asked 75 = .ok (.ireturn, 1) := by decide +kernel
theorem dL_asked_76 : decode cL_asked 76 = .ok (.aload_n 0, 1) := by decide +kernel
theorem dL_asked_77 : decode cL_asked 77 = .ok (.iload_n 2, 1) := by decide +kernel
theorem dL_asked_78 : decode cL_asked 78 = .ok (.iload_n 3, 1) := by decide +kernel
theorem dL_asked_79 : decode cL_asked 79 = .ok (.iload 4, 2) := by decide +kernel
theorem dL_asked_81 : decode cL_asked 81 = .ok (.invokevirtual 77, 3) := by decide +kernel
theorem dL_asked_84 : decode cL_asked 84 = .ok (.ireturn, 1) := by decide +kernel
theorem dL_asked_85 : decode cL_asked 85 = .ok (.aload_n 0, 1) := by decide +kernel
theorem dL_asked_86 : decode cL_asked 86 = .ok (.iload_n 2, 1) := by decide +kernel
theorem dL_asked_87 : decode cL_asked 87 = .ok (.iload_n 3, 1) := by decide +kernel
theorem dL_asked_88 : decode cL_asked 88 = .ok (.iload 4, 2) := by decide +kernel
theorem dL_asked_90 : decode cL_asked 90 = .ok (.invokevirtual 80, 3) := by decide +kernel
theorem dL_asked_93 : decode cL_asked 93 = .ok (.ireturn, 1) := by decide +kernel
theorem dL_asked_94 : decode cL_asked 94 = .ok (.aload_n 0, 1) := by decide +kernel
theorem dL_asked_95 : decode cL_asked 95 = .ok (.iload_n 2, 1) := by decide +kernel
theorem dL_asked_96 : decode cL_asked 96 = .ok (.iload_n 3, 1) := by decide +kernel
theorem dL_asked_97 : decode cL_asked 97 = .ok (.iload 4, 2) := by decide +kernel
theorem dL_asked_99 : decode cL_asked 99 = .ok (.iload 5, 2) := by decide +kernel
theorem dL_asked_101 : decode cL_asked 101 = .ok (.invokevirtual 83, 3) := by decide +kernel
theorem dL_asked_104 : decode cL_asked 104 = .ok (.ireturn, 1) := by decide +kernel
theorem dL_asked_105 : decode cL_asked 105 = .ok (.aload_n 0, 1) := by decide +kernel
theorem dL_asked_106 : decode cL_asked 106 = .ok (.iload_n 2, 1) := by decide +kernel
theorem dL_asked_107 : decode cL_asked 107 = .ok (.invokevirtual 86, 3) := by decide +kernel
theorem dL_asked_110 : decode cL_asked 110 = .ok (.ireturn, 1) := by decide +kernel
theorem dL_asked_111 : decode cL_asked 111 = .ok (.aload_n 0, 1) := by decide +kernel
theorem dL_asked_112 : decode cL_asked 112 = .ok (.iload_n 2, 1) := by decide +kernel
theorem dL_asked_113 : decode cL_asked 113 = .ok (.iload_n 3, 1) := by decide +kernel
theorem dL_asked_114 : decode cL_asked 114 = .ok (.invokevirtual 89, 3) := by decide +kernel
theorem dL_asked_117 : decode cL_asked 117 = .ok (.ireturn, 1) := by decide +kernel
theorem dL_asked_118 : decode cL_asked 118 = .ok (.aload_n 0, 1) := by decide +kernel
theorem dL_asked_119 : decode cL_asked 119 = .ok (.iload_n 2, 1) := by decide +kernel
theorem dL_asked_120 : decode cL_asked 120 = .ok (.invokevirtual 92, 3) := by decide +kernel
theorem dL_asked_123 : decode cL_asked 123 = .ok (.ireturn, 1) := by decide +kernel
theorem dL_asked_124 : decode cL_asked 124 = .ok (.aload_n 0, 1) := by decide +kernel
theorem dL_asked_125 : decode cL_asked 125 = .ok (.invokevirtual 95, 3) := by decide +kernel
theorem dL_asked_128 : decode cL_asked 128 = .ok (.ireturn, 1) := by decide +kernel
theorem dL_asked_129 : decode cL_asked 129 = .ok (.aload_n 0, 1) := by decide +kernel
theorem dL_asked_130 : decode cL_asked 130 = .ok (.invokevirtual 98, 3) := by decide +kernel
theorem dL_asked_133 : decode cL_asked 133 = .ok (.ireturn, 1) := by decide +kernel
theorem dL_ask_0 : decode cL_ask 0 = .ok (.aload_n 0, 1) := by decide +kernel
theorem dL_ask_1 : decode cL_ask 1 = .ok (.iload_n 1, 1) := by decide +kernel
theorem dL_ask_2 : decode cL_ask 2 = .ok (.iload_n 2, 1) := by decide +kernel
theorem dL_ask_3 : decode cL_ask 3 = .ok (.iload_n 3, 1) := by decide +kernel
theorem dL_ask_4 : decode cL_ask 4 = .ok (.iload 4, 2) := by decide +kernel
theorem dL_ask_6 : decode cL_ask 6 = .ok (.iload 5, 2) := by decide +kernel
theorem dL_ask_8 : decode cL_ask 8 = .ok (.invokestatic 101, 3) := by decide +kernel
theorem dL_ask_11 : decode cL_ask 11 = .ok (.ireturn, 1) := by decide +kernel
theorem dL_ask_12 : decode cL_ask 12 = .ok (.astore 6, 2) := by decide +kernel
theorem dL_ask_14 : decode cL_ask 14 = .ok (.sipush (-2002), 3) := by decide +kernel
theorem dL_ask_17 : decode cL_ask 17 = .ok (.ireturn, 1) := by decide +kernel
theorem dL_ask_18 : decode cL_ask 18 = .ok (.astore 6, 2) := by decide +kernel
theorem dL_ask_20 : decode cL_ask 20 = .ok (.sipush (-2003), 3) := by decide +kernel
theorem dL_ask_23 : decode cL_ask 23 = .ok (.ireturn, 1) := by decide +kernel
theorem dL_ask_24 : decode cL_ask 24 = .ok (.astore 6, 2) := by decide +kernel
theorem dL_ask_26 : decode cL_ask 26 = .ok (.sipush (-2004), 3) := by decide +kernel
theorem dL_ask_29 : decode cL_ask 29 = .ok (.ireturn, 1) := by decide +kernel
theorem dL_lay_0 : decode cL_lay 0 = .ok (.aload_n 0, 1) := by decide +kernel
theorem dL_lay_1 : decode cL_lay 1 = .ok (.iconst 4, 1) := by decide +kernel
theorem dL_lay_2 : decode cL_lay 2 = .ok (.iconst 1, 1) := by decide +kernel
theorem dL_lay_3 : decode cL_lay 3 = .ok (.aload_n 1, 1) := by decide +kernel
theorem dL_lay_4 : decode cL_lay 4 = .ok (.iconst 0, 1) := by decide +kernel
theorem dL_lay_5 : decode cL_lay 5 = .ok (.iconst 4, 1) := by decide +kernel
theorem dL_lay_6 : decode cL_lay 6 = .ok (.invokestatic 104, 3) := by decide +kernel
theorem dL_lay_9 : decode cL_lay 9 = .ok (.iadd, 1) := by decide +kernel
theorem dL_lay_10 : decode cL_lay 10 = .ok (.iconst 0, 1) := by decide +kernel
theorem dL_lay_11 : decode cL_lay 11 = .ok (.iconst 0, 1) := by decide +kernel
theorem dL_lay_12 : decode cL_lay 12 = .ok (.iconst 0, 1) := by decide +kernel
theorem dL_lay_13 : decode cL_lay 13 = .ok (.invokestatic 108, 3) := by decide +kernel
theorem dL_lay_16 : decode cL_lay 16 = .ok (.istore_n 2, 1) := by decide +kernel
theorem dL_lay_17 : decode cL_lay 17 = .ok (.iconst 0, 1) := by decide +kernel
theorem dL_lay_18 : decode cL_lay 18 = .ok (.istore_n 3, 1) := by decide +kernel
theorem dL_lay_19 : decode cL_lay 19 = .ok (.iload_n 3, 1) := by decide +kernel
theorem dL_lay_20 : decode cL_lay 20 = .ok (.bipush 30, 2) := by decide +kernel
theorem dL_lay_22 : decode cL_lay 22 = .ok (.if_icmp .ge 45, 3) := by decide +kernel
theorem dL_lay_25 : decode cL_lay 25 = .ok (.iload_n 2, 1) := by decide +kernel
theorem dL_lay_26 : decode cL_lay 26 = .ok (.aload_n 1, 1) := by decide +kernel
theorem dL_lay_27 : decode cL_lay 27 = .ok (.bipush 11, 2) := by decide +kernel
theorem dL_lay_29 : decode cL_lay 29 = .ok (.iload_n 3, 1) := by decide +kernel
theorem dL_lay_30 : decode cL_lay 30 = .ok (.iadd, 1) := by decide +kernel
theorem dL_lay_31 : decode cL_lay 31 = .ok (.iconst 2, 1) := by decide +kernel
theorem dL_lay_32 : decode cL_lay 32 = .ok (.invokestatic 104, 3) := by decide +kernel
theorem dL_lay_35 : decode cL_lay 35 = .ok (.aload_n 0, 1) := by decide +kernel
theorem dL_lay_36 : decode cL_lay 36 = .ok (.iconst 0, 1) := by decide +kernel
theorem dL_lay_37 : decode cL_lay 37 = .ok (.iload_n 3, 1) := by decide +kernel
theorem dL_lay_38 : decode cL_lay 38 = .ok (.bipush 6, 2) := by decide +kernel
theorem dL_lay_40 : decode cL_lay 40 = .ok (.idiv, 1) := by decide +kernel
theorem dL_lay_41 : decode cL_lay 41 = .ok (.iload_n 3, 1) := by decide +kernel
theorem dL_lay_42 : decode cL_lay 42 = .ok (.bipush 6, 2) := by decide +kernel
theorem dL_lay_44 : decode cL_lay 44 = .ok (.irem, 1) := by decide +kernel
theorem dL_lay_45 : decode cL_lay 45 = .ok (.aload_n 1, 1) := by decide +kernel
theorem dL_lay_46 : decode cL_lay 46 = .ok (.bipush 51, 2) := by decide +kernel
theorem dL_lay_48 : decode cL_lay 48 = .ok (.iload_n 3, 1) := by decide +kernel
theorem dL_lay_49 : decode cL_lay 49 = .ok (.iadd, 1) := by decide +kernel
theorem dL_lay_50 : decode cL_lay 50 = .ok (.iconst 4, 1) := by decide +kernel
theorem dL_lay_51 : decode cL_lay 51 = .ok (.invokestatic 104, 3) := by decide +kernel
theorem dL_lay_54 : decode cL_lay 54 = .ok (.iconst 0, 1) := by decide +kernel
theorem dL_lay_55 : decode cL_lay 55 = .ok (.invokestatic 108, 3) := by decide +kernel
theorem dL_lay_58 : decode cL_lay 58 = .ok (.imul, 1) := by decide +kernel
theorem dL_lay_59 : decode cL_lay 59 = .ok (.iadd, 1) := by decide +kernel
theorem dL_lay_60 : decode cL_lay 60 = .ok (.istore_n 2, 1) := by decide +kernel
theorem dL_lay_61 : decode cL_lay 61 = .ok (.iinc 3 1, 3) := by decide +kernel
theorem dL_lay_64 : decode cL_lay 64 = .ok (.goto (-45), 3) := by decide +kernel
theorem dL_lay_67 : decode cL_lay 67 = .ok (.iconst 0, 1) := by decide +kernel
theorem dL_lay_68 : decode cL_lay 68 = .ok (.istore_n 3, 1) := by decide +kernel
theorem dL_lay_69 : decode cL_lay 69 = .ok (.iload_n 3, 1) := by decide +kernel
theorem dL_lay_70 : decode cL_lay 70 = .ok (.aload_n 1, 1) := by decide +kernel
theorem dL_lay_71 : decode cL_lay 71 = .ok (.iconst 1, 1) := by decide +kernel
theorem dL_lay_72 : decode cL_lay 72 = .ok (.bipush 40, 2) := by decide +kernel
theorem dL_lay_74 : decode cL_lay 74 = .ok (.invokestatic 104, 3) := by decide +kernel
theorem dL_lay_77 : decode cL_lay 77 = .ok (.if_icmp .ge 39, 3) := by decide +kernel
theorem dL_lay_80 : decode cL_lay 80 = .ok (.iload_n 2, 1) := by decide +kernel
theorem dL_lay_81 : decode cL_lay 81 = .ok (.aload_n 0, 1) := by decide +kernel
theorem dL_lay_82 : decode cL_lay 82 = .ok (.iconst 1, 1) := by decide +kernel
theorem dL_lay_83 : decode cL_lay 83 = .ok (.aload_n 1, 1) := by decide +kernel
theorem dL_lay_84 : decode cL_lay 84 = .ok (.bipush 91, 2) := by decide +kernel
theorem dL_lay_86 : decode cL_lay 86 = .ok (.iload_n 3, 1) := by decide +kernel
theorem dL_lay_87 : decode cL_lay 87 = .ok (.iadd, 1) := by decide +kernel
theorem dL_lay_88 : decode cL_lay 88 = .ok (.iconst 5, 1) := by decide +kernel
theorem dL_lay_89 : decode cL_lay 89 = .ok (.invokestatic 104, 3) := by decide +kernel
theorem dL_lay_92 : decode cL_lay 92 = .ok (.aload_n 1, 1) := by decide +kernel
theorem dL_lay_93 : decode cL_lay 93 = .ok (.sipush 141, 3) := by decide +kernel
theorem dL_lay_96 : decode cL_lay 96 = .ok (.iload_n 3, 1) := by decide +kernel
theorem dL_lay_97 : decode cL_lay 97 = .ok (.iadd, 1) := by decide +kernel
theorem dL_lay_98 : decode cL_lay 98 = .ok (.bipush 6, 2) := by decide +kernel
theorem dL_lay_100 : decode cL_lay 100 = .ok (.invokestatic 104, 3) := by decide +kernel
theorem dL_lay_103 : decode cL_lay 103 = .ok (.iconst 0, 1) := by decide +kernel
theorem dL_lay_104 : decode cL_lay 104 = .ok (.iconst 0, 1) := by decide +kernel
theorem dL_lay_105 : decode cL_lay 105 = .ok (.invokestatic 108, 3) := by decide +kernel
theorem dL_lay_108 : decode cL_lay 108 = .ok (.iadd, 1) := by decide +kernel
theorem dL_lay_109 : decode cL_lay 109 = .ok (.istore_n 2, 1) := by decide +kernel
theorem dL_lay_110 : decode cL_lay 110 = .ok (.iinc 3 1, 3) := by decide +kernel
theorem dL_lay_113 : decode cL_lay 113 = .ok (.goto (-44), 3) := by decide +kernel
theorem dL_lay_116 : decode cL_lay 116 = .ok (.iconst 0, 1) := by decide +kernel
theorem dL_lay_117 : decode cL_lay 117 = .ok (.istore_n 3, 1) := by decide +kernel
theorem dL_lay_118 : decode cL_lay 118 = .ok (.iload_n 3, 1) := by decide +kernel
theorem dL_lay_119 : decode cL_lay 119 = .ok (.aload_n 1, 1) := by decide +kernel
theorem dL_lay_120 : decode cL_lay 120 = .ok (.iconst 2, 1) := by decide +kernel
theorem dL_lay_121 : decode cL_lay 121 = .ok (.iconst 5, 1) := by decide +kernel
theorem dL_lay_122 : decode cL_lay 122 = .ok (.invokestatic 104, 3) := by decide +kernel
theorem dL_lay_125 : decode cL_lay 125 = .ok (.if_icmp .ge 106, 3) := by decide +kernel
theorem dL_lay_128 : decode cL_lay 128 = .ok (.iload_n 2, 1) := by decide +kernel
theorem dL_lay_129 : decode cL_lay 129 = .ok (.aload_n 0, 1) := by decide +kernel
theorem dL_lay_130 : decode cL_lay 130 = .ok (.iconst 5, 1) := by decide +kernel
theorem dL_lay_131 : decode cL_lay 131 = .ok (.aload_n 1, 1) := by decide +kernel
theorem dL_lay_132 : decode cL_lay 132 = .ok (.sipush 191, 3) := by decide +kernel
theorem dL_lay_135 : decode cL_lay 135 = .ok (.iload_n 3, 1) := by decide +kernel
theorem dL_lay_136 : decode cL_lay 136 = .ok (.iadd, 1) := by decide +kernel
theorem dL_lay_137 : decode cL_lay 137 = .ok (.iconst 5, 1) := by decide +kernel
theorem dL_lay_138 : decode cL_lay 138 = .ok (.invokestatic 104, 3) := by decide +kernel
theorem dL_lay_141 : decode cL_lay 141 = .ok (.aload_n 1, 1) := by decide +kernel
theorem dL_lay_142 : decode cL_lay 142 = .ok (.sipush 196, 3) := by decide +kernel
theorem dL_lay_145 : decode cL_lay 145 = .ok (.iload_n 3, 1) := by decide +kernel
theorem dL_lay_146 : decode cL_lay 146 = .ok (.iadd, 1) := by decide +kernel
theorem dL_lay_147 : decode cL_lay 147 = .ok (.bipush 6, 2) := by decide +kernel
theorem dL_lay_149 : decode cL_lay 149 = .ok (.invokestatic 104, 3) := by decide +kernel
theorem dL_lay_152 : decode cL_lay 152 = .ok (.iconst 2, 1) := by decide +kernel
theorem dL_lay_153 : decode cL_lay 153 = .ok (.aload_n 1, 1) := by decide +kernel
theorem dL_lay_154 : decode cL_lay 154 = .ok (.sipush 201, 3) := by decide +kernel
theorem dL_lay_157 : decode cL_lay 157 = .ok (.iload_n 3, 1) := by decide +kernel
theorem dL_lay_158 : decode cL_lay 158 = .ok (.iadd, 1) := by decide +kernel
theorem dL_lay_159 : decode cL_lay 159 = .ok (.bipush 8, 2) := by decide +kernel
theorem dL_lay_161 : decode cL_lay 161 = .ok (.invokestatic 104, 3) := by decide +kernel
theorem dL_lay_164 : decode cL_lay 164 = .ok (.iadd, 1) := by decide +kernel
theorem dL_lay_165 : decode cL_lay 165 = .ok (.iconst 1, 1) := by decide +kernel
theorem dL_lay_166 : decode cL_lay 166 = .ok (.aload_n 1, 1) := by decide +kernel
theorem dL_lay_167 : decode cL_lay 167 = .ok (.sipush 206, 3) := by decide +kernel
theorem dL_lay_170 : decode cL_lay 170 = .ok (.iload_n 3, 1) := by decide +kernel
theorem dL_lay_171 : decode cL_lay 171 = .ok (.iadd, 1) := by decide +kernel
theorem dL_lay_172 : decode cL_lay 172 = .ok (.bipush 6, 2) := by decide +kernel
theorem dL_lay_174 : decode cL_lay 174 = .ok (.invokestatic 104, 3) := by decide +kernel
theorem dL_lay_177 : decode cL_lay 177 = .ok (.iadd, 1) := by decide +kernel
theorem dL_lay_178 : decode cL_lay 178 = .ok (.invokestatic 108, 3) := by decide +kernel
theorem dL_lay_181 : decode cL_lay 181 = .ok (.iadd, 1) := by decide +kernel
theorem dL_lay_182 : decode cL_lay 182 = .ok (.istore_n 2, 1) := by decide +kernel
theorem dL_lay_183 : decode cL_lay 183 = .ok (.iload_n 2, 1) := by decide +kernel
theorem dL_lay_184 : decode cL_lay 184 = .ok (.aload_n 1, 1) := by decide +kernel
theorem dL_lay_185 : decode cL_lay 185 = .ok (.sipush 211, 3) := by decide +kernel
theorem dL_lay_188 : decode cL_lay 188 = .ok (.iload_n 3, 1) := by decide +kernel
theorem dL_lay_189 : decode cL_lay 189 = .ok (.iadd, 1) := by decide +kernel
theorem dL_lay_190 : decode cL_lay 190 = .ok (.iconst 2, 1) := by decide +kernel
theorem dL_lay_191 : decode cL_lay 191 = .ok (.invokestatic 104, 3) := by decide +kernel
theorem dL_lay_194 : decode cL_lay 194 = .ok (.aload_n 0, 1) := by decide +kernel
theorem dL_lay_195 : decode cL_lay 195 = .ok (.iconst 3, 1) := by decide +kernel
theorem dL_lay_196 : decode cL_lay 196 = .ok (.aload_n 1, 1) := by decide +kernel
theorem dL_lay_197 : decode cL_lay 197 = .ok (.sipush 216, 3) := by decide +kernel
theorem dL_lay_200 : decode cL_lay 200 = .ok (.iload_n 3, 1) := by decide +kernel
theorem dL_lay_201 : decode cL_lay 201 = .ok (.iadd, 1) := by decide +kernel
theorem dL_lay_202 : decode cL_lay 202 = .ok (.iconst 5, 1) := by decide +kernel
theorem dL_lay_203 : decode cL_lay 203 = .ok (.invokestatic 104, 3) := by decide +kernel
theorem dL_lay_206 : decode cL_lay 206 = .ok (.aload_n 1, 1) := by decide +kernel
theorem dL_lay_207 : decode cL_lay 207 = .ok (.sipush 221, 3) := by decide +kernel
theorem dL_lay_210 : decode cL_lay 210 = .ok (.iload_n 3, 1) := by decide +kernel
theorem dL_lay_211 : decode cL_lay 211 = .ok (.iadd, 1) := by decide +kernel
theorem dL_lay_212 : decode cL_lay 212 = .ok (.bipush 6, 2) := by decide +kernel
theorem dL_lay_214 : decode cL_lay 214 = .ok (.invokestatic 104, 3) := by decide +kernel
theorem dL_lay_217 : decode cL_lay 217 = .ok (.iconst 0, 1) := by decide +kernel
theorem dL_lay_218 : decode cL_lay 218 = .ok (.iconst 0, 1) := by decide +kernel
theorem dL_lay_219 : decode cL_lay 219 = .ok (.invokestatic 108, 3) := by decide +kernel
theorem dL_lay_222 : decode cL_lay 222 = .ok (.imul, 1) := by decide +kernel
theorem dL_lay_223 : decode cL_lay 223 = .ok (.iadd, 1) := by decide +kernel
theorem dL_lay_224 : decode cL_lay 224 = .ok (.istore_n 2, 1) := by decide +kernel
theorem dL_lay_225 : decode cL_lay 225 = .ok (.iinc 3 1, 3) := by decide +kernel
theorem dL_lay_228 : decode cL_lay 228 = .ok (.goto (-110), 3) := by decide +kernel
theorem dL_lay_231 : decode cL_lay 231 = .ok (.iconst 0, 1) := by decide +kernel
theorem dL_lay_232 : decode cL_lay 232 = .ok (.istore_n 3, 1) := by decide +kernel
theorem dL_lay_233 : decode cL_lay 233 = .ok (.iload_n 3, 1) := by decide +kernel
theorem dL_lay_234 : decode cL_lay 234 = .ok (.aload_n 1, 1) := by decide +kernel
theorem dL_lay_235 : decode cL_lay 235 = .ok (.iconst 3, 1) := by decide +kernel
theorem dL_lay_236 : decode cL_lay 236 = .ok (.bipush 20, 2) := by decide +kernel
theorem dL_lay_238 : decode cL_lay 238 = .ok (.invokestatic 104, 3) := by decide +kernel
theorem dL_lay_241 : decode cL_lay 241 = .ok (.if_icmp .ge 50, 3) := by decide +kernel
theorem dL_lay_244 : decode cL_lay 244 = .ok (.iload_n 2, 1) := by decide +kernel
theorem dL_lay_245 : decode cL_lay 245 = .ok (.aload_n 0, 1) := by decide +kernel
theorem dL_lay_246 : decode cL_lay 246 = .ok (.bipush 6, 2) := by decide +kernel
theorem dL_lay_248 : decode cL_lay 248 = .ok (.aload_n 1, 1) := by decide +kernel
theorem dL_lay_249 : decode cL_lay 249 = .ok (.sipush 231, 3) := by decide +kernel
theorem dL_lay_252 : decode cL_lay 252 = .ok (.iload_n 3, 1) := by decide +kernel
theorem dL_lay_253 : decode cL_lay 253 = .ok (.iadd, 1) := by decide +kernel
theorem dL_lay_254 : decode cL_lay 254 = .ok (.iconst 5, 1) := by decide +kernel
theorem dL_lay_255 : decode cL_lay 255 = .ok (.invokestatic 104, 3) := by decide +kernel
theorem dL_lay_258 : decode cL_lay 258 = .ok (.aload_n 1, 1) := by decide +kernel
theorem dL_lay_259 : decode cL_lay 259 = .ok (.sipush 251, 3) := by decide +kernel
theorem dL_lay_262 : decode cL_lay 262 = .ok (.iload_n 3, 1) := by decide +kernel
theorem dL_lay_263 : decode cL_lay 263 = .ok (.iadd, 1) := by decide +kernel
theorem dL_lay_264 : decode cL_lay 264 = .ok (.bipush 6, 2) := by decide +kernel
theorem dL_lay_266 : decode cL_lay 266 = .ok (.invokestatic 104, 3) := by decide +kernel
theorem dL_lay_269 : decode cL_lay 269 = .ok (.aload_n 1, 1) := by decide +kernel
theorem dL_lay_270 : decode cL_lay 270 = .ok (.sipush 271, 3) := by decide +kernel
theorem dL_lay_273 : decode cL_lay 273 = .ok (.iload_n 3, 1) := by decide +kernel
theorem dL_lay_274 : decode cL_lay 274 = .ok (.iadd, 1) := by decide +kernel
theorem dL_lay_275 : decode cL_lay 275 = .ok (.iconst 3, 1) := by decide +kernel
theorem dL_lay_276 : decode cL_lay 276 = .ok (.invokestatic 104, 3) := by decide +kernel
theorem dL_lay_279 : decode cL_lay 279 = .ok (.iconst 0, 1) := by decide +kernel
theorem dL_lay_280 : decode cL_lay 280 = .ok (.invokestatic 108, 3) := by decide +kernel
theorem dL_lay_283 : decode cL_lay 283 = .ok (.iadd, 1) := by decide +kernel
theorem dL_lay_284 : decode cL_lay 284 = .ok (.istore_n 2, 1) := by decide +kernel
theorem dL_lay_285 : decode cL_lay 285 = .ok (.iinc 3 1, 3) := by decide +kernel
theorem dL_lay_288 : decode cL_lay 288 = .ok (.goto (-55), 3) := by decide +kernel
theorem dL_lay_291 : decode cL_lay 291 = .ok (.return_, 1) := by decide +kernel
theorem dL_any_0 : decode cL_any 0 = .ok (.aload_n 1, 1) := by decide +kernel
theorem dL_any_1 : decode cL_any 1 = .ok (.iload_n 2, 1) := by decide +kernel
theorem dL_any_2 : decode cL_any 2 = .ok (.iconst 1, 1) := by decide +kernel
theorem dL_any_3 : decode cL_any 3 = .ok (.iadd, 1) := by decide +kernel
theorem dL_any_4 : decode cL_any 4 = .ok (.iconst 5, 1) := by decide +kernel
theorem dL_any_5 : decode cL_any 5 = .ok (.invokestatic 104, 3) := by decide +kernel
theorem dL_any_8 : decode cL_any 8 = .ok (.istore_n 3, 1) := by decide +kernel
theorem dL_any_9 : decode cL_any 9 = .ok (.aload_n 1, 1) := by decide +kernel
theorem dL_any_10 : decode cL_any 10 = .ok (.iload_n 2, 1) := by decide +kernel
theorem dL_any_11 : decode cL_any 11 = .ok (.iconst 2, 1) := by decide +kernel
theorem dL_any_12 : decode cL_any 12 = .ok (.iadd, 1) := by decide +kernel
theorem dL_any_13 : decode cL_any 13 = .ok (.bipush 6, 2) := by decide +kernel
theorem dL_any_15 : decode cL_any 15 = .ok (.invokestatic 104, 3) := by decide +kernel
theorem dL_any_18 : decode cL_any 18 = .ok (.istore 4, 2) := by decide +kernel
theorem dL_any_20 : decode cL_any 20 = .ok (.aload_n 1, 1) := by decide +kernel
theorem dL_any_21 : decode cL_any 21 = .ok (.iload_n 2, 1) := by decide +kernel
theorem dL_any_22 : decode cL_any 22 = .ok (.bipush 24, 2) := by decide +kernel
theorem dL_any_24 : decode cL_any 24 = .ok (.invokestatic 104, 3) := by decide +kernel
theorem dL_any_27 : decode cL_any 27 = .ok (.tableswitch 224 0 16 #[81, 81, 99, 99, 99, 110, 110, 129, 160, 160, 160, 160, 186, 186, 213, 213, 213], 81) := by decide +kernel
theorem dL_any_108 : decode cL_any 108 = .ok (.aload_n 0, 1) := by decide +kernel
theorem dL_any_109 : decode cL_any 109 = .ok (.iconst 0, 1) := by decide +kernel
theorem dL_any_110 : decode cL_any 110 = .ok (.iload_n 3, 1) := by decide +kernel
theorem dL_any_111 : decode cL_any 111 = .ok (.iload 4, 2) := by decide +kernel
theorem dL_any_113 : decode cL_any 113 = .ok (.aload_n 1, 1) := by decide +kernel
theorem dL_any_114 : decode cL_any 114 = .ok (.iload_n 2, 1) := by decide +kernel
theorem dL_any_115 : decode cL_any 115 = .ok (.iconst 3, 1) := by decide +kernel
theorem dL_any_116 : decode cL_any 116 = .ok (.iadd, 1) := by decide +kernel
theorem dL_any_117 : decode cL_any 117 = .ok (.iconst 4, 1) := by decide +kernel
theorem dL_any_118 : decode cL_any 118 = .ok (.invokestatic 104, 3) := by decide +kernel
theorem dL_any_121 : decode cL_any 121 = .ok (.iconst 0, 1) := by decide +kernel
theorem dL_any_122 : decode cL_any 122 = .ok (.invokestatic 108, 3) := by decide +kernel
theorem dL_any_125 : decode cL_any 125 = .ok (.ireturn, 1) := by decide +kernel
theorem dL_any_126 : decode cL_any 126 = .ok (.aload_n 0, 1) := by decide +kernel
theorem dL_any_127 : decode cL_any 127 = .ok (.iconst 3, 1) := by decide +kernel
theorem dL_any_128 : decode cL_any 128 = .ok (.iload_n 3, 1) := by decide +kernel
theorem dL_any_129 : decode cL_any 129 = .ok (.iload 4, 2) := by decide +kernel
theorem dL_any_131 : decode cL_any 131 = .ok (.iconst 0, 1) := by decide +kernel
theorem dL_any_132 : decode cL_any 132 = .ok (.iconst 0, 1) := by decide +kernel
theorem dL_any_133 : decode cL_any 133 = .ok (.invokestatic 108, 3) := by decide +kernel
theorem dL_any_136 : decode cL_any 136 = .ok (.ireturn, 1) := by decide +kernel
theorem dL_any_137 : decode cL_any 137 = .ok (.aload_n 0, 1) := by decide +kernel
theorem dL_any_138 : decode cL_any 138 = .ok (.iconst 4, 1) := by decide +kernel
theorem dL_any_139 : decode cL_any 139 = .ok (.iconst 1, 1) := by decide +kernel
theorem dL_any_140 : decode cL_any 140 = .ok (.aload_n 1, 1) := by decide +kernel
theorem dL_any_141 : decode cL_any 141 = .ok (.iload_n 2, 1) := by decide +kernel
theorem dL_any_142 : decode cL_any 142 = .ok (.iconst 3, 1) := by decide +kernel
theorem dL_any_143 : decode cL_any 143 = .ok (.iadd, 1) := by decide +kernel
theorem dL_any_144 : decode cL_any 144 = .ok (.iconst 4, 1) := by decide +kernel
theorem dL_any_145 : decode cL_any 145 = .ok (.invokestatic 104, 3) := by decide +kernel
theorem dL_any_148 : decode cL_any 148 = .ok (.iadd, 1) := by decide +kernel
theorem dL_any_149 : decode cL_any 149 = .ok (.iconst 0, 1) := by decide +kernel
theorem dL_any_150 : decode cL_any 150 = .ok (.iconst 0, 1) := by decide +kernel
theorem dL_any_151 : decode cL_any 151 = .ok (.iconst 0, 1) := by decide +kernel
theorem dL_any_152 : decode cL_any 152 = .ok (.invokestatic 108, 3) := by decide +kernel
theorem dL_any_155 : decode cL_any 155 = .ok (.ireturn, 1) := by decide +kernel
theorem dL_any_156 : decode cL_any 156 = .ok (.aload_n 0, 1) := by decide +kernel
theorem dL_any_157 : decode cL_any 157 = .ok (.iconst 5, 1) := by decide +kernel
theorem dL_any_158 : decode cL_any 158 = .ok (.iload_n 3, 1) := by decide +kernel
theorem dL_any_159 : decode cL_any 159 = .ok (.iload 4, 2) := by decide +kernel
theorem dL_any_161 : decode cL_any 161 = .ok (.iconst 2, 1) := by decide +kernel
theorem dL_any_162 : decode cL_any 162 = .ok (.aload_n 1, 1) := by decide +kernel
theorem dL_any_163 : decode cL_any 163 = .ok (.iload_n 2, 1) := by decide +kernel
theorem dL_any_164 : decode cL_any 164 = .ok (.iconst 3, 1) := by decide +kernel
theorem dL_any_165 : decode cL_any 165 = .ok (.iadd, 1) := by decide +kernel
theorem dL_any_166 : decode cL_any 166 = .ok (.bipush 8, 2) := by decide +kernel
theorem dL_any_168 : decode cL_any 168 = .ok (.invokestatic 104, 3) := by decide +kernel
theorem dL_any_171 : decode cL_any 171 = .ok (.iadd, 1) := by decide +kernel
theorem dL_any_172 : decode cL_any 172 = .ok (.iconst 1, 1) := by decide +kernel
theorem dL_any_173 : decode cL_any 173 = .ok (.aload_n 1, 1) := by decide +kernel
theorem dL_any_174 : decode cL_any 174 = .ok (.iload_n 2, 1) := by decide +kernel
theorem dL_any_175 : decode cL_any 175 = .ok (.iconst 4, 1) := by decide +kernel
theorem dL_any_176 : decode cL_any 176 = .ok (.iadd, 1) := by decide +kernel
theorem dL_any_177 : decode cL_any 177 = .ok (.bipush 6, 2) := by decide +kernel
theorem dL_any_179 : decode cL_any 179 = .ok (.invokestatic 104, 3) := by decide +kernel
theorem dL_any_182 : decode cL_any 182 = .ok (.iadd, 1) := by decide +kernel
theorem dL_any_183 : decode cL_any 183 = .ok (.invokestatic 108, 3) := by decide +kernel
theorem dL_any_186 : decode cL_any 186 = .ok (.ireturn, 1) := by decide +kernel
theorem dL_any_187 : decode cL_any 187 = .ok (.aload_n 0, 1) := by decide +kernel
theorem dL_any_188 : decode cL_any 188 = .ok (.bipush 6, 2) := by decide +kernel
theorem dL_any_190 : decode cL_any 190 = .ok (.iload_n 3, 1) := by decide +kernel
theorem dL_any_191 : decode cL_any 191 = .ok (.iload 4, 2) := by decide +kernel
theorem dL_any_193 : decode cL_any 193 = .ok (.aload_n 1, 1) := by decide +kernel
theorem dL_any_194 : decode cL_any 194 = .ok (.iload_n 2, 1) := by decide +kernel
theorem dL_any_195 : decode cL_any 195 = .ok (.iconst 3, 1) := by decide +kernel
theorem dL_any_196 : decode cL_any 196 = .ok (.iadd, 1) := by decide +kernel
theorem dL_any_197 : decode cL_any 197 = .ok (.iconst 1, 1) := by decide +kernel
theorem dL_any_198 : decode cL_any 198 = .ok (.aload_n 0, 1) := by decide +kernel
theorem dL_any_199 : decode cL_any 199 = .ok (.invokevirtual 111, 3) := by decide +kernel
theorem dL_any_202 : decode cL_any 202 = .ok (.invokestatic 114, 3) := by decide +kernel
theorem dL_any_205 : decode cL_any 205 = .ok (.invokestatic 104, 3) := by decide +kernel
theorem dL_any_208 : decode cL_any 208 = .ok (.iconst 0, 1) := by decide +kernel
theorem dL_any_209 : decode cL_any 209 = .ok (.invokestatic 108, 3) := by decide +kernel
theorem dL_any_212 : decode cL_any 212 = .ok (.ireturn, 1) := by decide +kernel
theorem dL_any_213 : decode cL_any 213 = .ok (.aload_n 0, 1) := by decide +kernel
theorem dL_any_214 : decode cL_any 214 = .ok (.bipush 7, 2) := by decide +kernel
theorem dL_any_216 : decode cL_any 216 = .ok (.aload_n 1, 1) := by decide +kernel
theorem dL_any_217 : decode cL_any 217 = .ok (.iload_n 2, 1) := by decide +kernel
theorem dL_any_218 : decode cL_any 218 = .ok (.iconst 3, 1) := by decide +kernel
theorem dL_any_219 : decode cL_any 219 = .ok (.iadd, 1) := by decide +kernel
theorem dL_any_220 : decode cL_any 220 = .ok (.iconst 4, 1) := by decide +kernel
theorem dL_any_221 : decode cL_any 221 = .ok (.invokestatic 104, 3) := by decide +kernel
theorem dL_any_224 : decode cL_any 224 = .ok (.iconst 1, 1) := by decide +kernel
theorem dL_any_225 : decode cL_any 225 = .ok (.aload_n 1, 1) := by decide +kernel
theorem dL_any_226 : decode cL_any 226 = .ok (.iload_n 2, 1) := by decide +kernel
theorem dL_any_227 : decode cL_any 227 = .ok (.iconst 4, 1) := by decide +kernel
theorem dL_any_228 : decode cL_any 228 = .ok (.iadd, 1) := by decide +kernel
theorem dL_any_229 : decode cL_any 229 = .ok (.iconst 3, 1) := by decide +kernel
theorem dL_any_230 : decode cL_any 230 = .ok (.invokestatic 104, 3) := by decide +kernel
theorem dL_any_233 : decode cL_any 233 = .ok (.iadd, 1) := by decide +kernel
theorem dL_any_234 : decode cL_any 234 = .ok (.iconst 0, 1) := by decide +kernel
theorem dL_any_235 : decode cL_any 235 = .ok (.iconst 0, 1) := by decide +kernel
theorem dL_any_236 : decode cL_any 236 = .ok (.invokestatic 108, 3) := by decide +kernel
theorem dL_any_239 : decode cL_any 239 = .ok (.ireturn, 1) := by decide +kernel
theorem dL_any_240 : decode cL_any 240 = .ok (.aload_n 0, 1) := by decide +kernel
theorem dL_any_241 : decode cL_any 241 = .ok (.iconst 2, 1) := by decide +kernel
theorem dL_any_242 : decode cL_any 242 = .ok (.iload_n 3, 1) := by decide +kernel
theorem dL_any_243 : decode cL_any 243 = .ok (.iload 4, 2) := by decide +kernel
theorem dL_any_245 : decode cL_any 245 = .ok (.iconst 0, 1) := by decide +kernel
theorem dL_any_246 : decode cL_any 246 = .ok (.iconst 0, 1) := by decide +kernel
theorem dL_any_247 : decode cL_any 247 = .ok (.invokestatic 108, 3) := by decide +kernel
theorem dL_any_250 : decode cL_any 250 = .ok (.ireturn, 1) := by decide +kernel
theorem dL_any_251 : decode cL_any 251 = .ok (.aload_n 0, 1) := by decide +kernel
theorem dL_any_252 : decode cL_any 252 = .ok (.iconst 1, 1) := by decide +kernel
theorem dL_any_253 : decode cL_any 253 = .ok (.iload_n 3, 1) := by decide +kernel
theorem dL_any_254 : decode cL_any 254 = .ok (.iload 4, 2) := by decide +kernel
theorem dL_any_256 : decode cL_any 256 = .ok (.iconst 0, 1) := by decide +kernel
theorem dL_any_257 : decode cL_any 257 = .ok (.iconst 0, 1) := by decide +kernel
theorem dL_any_258 : decode cL_any 258 = .ok (.invokestatic 108, 3) := by decide +kernel
theorem dL_any_261 : decode cL_any 261 = .ok (.ireturn, 1) := by decide +kernel
theorem dL_looks_0 : decode cL_looks 0 = .ok (.bipush 31, 2) := by decide +kernel
theorem dL_looks_2 : decode cL_looks 2 = .ok (.bipush 31, 2) := by decide +kernel
theorem dL_looks_4 : decode cL_looks 4 = .ok (.bipush 31, 2) := by decide +kernel
theorem dL_looks_6 : decode cL_looks 6 = .ok (.bipush 31, 2) := by decide +kernel
theorem dL_looks_8 : decode cL_looks 8 = .ok (.aload_n 0, 1) := by decide +kernel
theorem dL_looks_9 : decode cL_looks 9 = .ok (.invokevirtual 119, 3) := by decide +kernel
theorem dL_looks_12 : decode cL_looks 12 = .ok (.imul, 1) := by decide +kernel
theorem dL_looks_13 : decode cL_looks 13 = .ok (.aload_n 0, 1) := by decide +kernel
theorem dL_looks_14 : decode cL_looks 14 = .ok (.invokevirtual 122, 3) := by decide +kernel
theorem dL_looks_17 : decode cL_looks 17 = .ok (.iadd, 1) := by decide +kernel
theorem dL_looks_18 : decode cL_looks 18 = .ok (.imul, 1) := by decide +kernel
theorem dL_looks_19 : decode cL_looks 19 = .ok (.aload_n 0, 1) := by decide +kernel
theorem dL_looks_20 : decode cL_looks 20 = .ok (.invokevirtual 125, 3) := by decide +kernel
theorem dL_looks_23 : decode cL_looks 23 = .ok (.iadd, 1) := by decide +kernel
theorem dL_looks_24 : decode cL_looks 24 = .ok (.imul, 1) := by decide +kernel
theorem dL_looks_25 : decode cL_looks 25 = .ok (.aload_n 0, 1) := by decide +kernel
theorem dL_looks_26 : decode cL_looks 26 = .ok (.invokevirtual 128, 3) := by decide +kernel
theorem dL_looks_29 : decode cL_looks 29 = .ok (.l2i, 1) := by decide +kernel
theorem dL_looks_30 : decode cL_looks 30 = .ok (.iadd, 1) := by decide +kernel
theorem dL_looks_31 : decode cL_looks 31 = .ok (.imul, 1) := by decide +kernel
theorem dL_looks_32 : decode cL_looks 32 = .ok (.aload_n 0, 1) := by decide +kernel
theorem dL_looks_33 : decode cL_looks 33 = .ok (.invokevirtual 111, 3) := by decide +kernel
theorem dL_looks_36 : decode cL_looks 36 = .ok (.iadd, 1) := by decide +kernel
theorem dL_looks_37 : decode cL_looks 37 = .ok (.istore_n 1, 1) := by decide +kernel
theorem dL_looks_38 : decode cL_looks 38 = .ok (.iconst 0, 1) := by decide +kernel
theorem dL_looks_39 : decode cL_looks 39 = .ok (.istore_n 2, 1) := by decide +kernel
theorem dL_looks_40 : decode cL_looks 40 = .ok (.iload_n 2, 1) := by decide +kernel
theorem dL_looks_41 : decode cL_looks 41 = .ok (.bipush 30, 2) := by decide +kernel
theorem dL_looks_43 : decode cL_looks 43 = .ok (.if_icmp .ge 119, 3) := by decide +kernel
theorem dL_looks_46 : decode cL_looks 46 = .ok (.bipush 31, 2) := by decide +kernel
theorem dL_looks_48 : decode cL_looks 48 = .ok (.bipush 31, 2) := by decide +kernel
theorem dL_looks_50 : decode cL_looks 50 = .ok (.bipush 31, 2) := by decide +kernel
theorem dL_looks_52 : decode cL_looks 52 = .ok (.iload_n 1, 1) := by decide +kernel
theorem dL_looks_53 : decode cL_looks 53 = .ok (.imul, 1) := by decide +kernel
theorem dL_looks_54 : decode cL_looks 54 = .ok (.aload_n 0, 1) := by decide +kernel
theorem dL_looks_55 : decode cL_looks 55 = .ok (.iload_n 2, 1) := by decide +kernel
theorem dL_looks_56 : decode cL_looks 56 = .ok (.bipush 6, 2) := by decide +kernel
theorem dL_looks_58 : decode cL_looks 58 = .ok (.idiv, 1) := by decide +kernel
theorem dL_looks_59 : decode cL_looks 59 = .ok (.iload_n 2, 1) := by decide +kernel
theorem dL_looks_60 : decode cL_looks 60 = .ok (.bipush 6, 2) := by decide +kernel
theorem dL_looks_62 : decode cL_looks 62 = .ok (.irem, 1) := by decide +kernel
theorem dL_looks_63 : decode cL_looks 63 = .ok (.invokevirtual 68, 3) := by decide +kernel
theorem dL_looks_66 : decode cL_looks 66 = .ok (.iadd, 1) := by decide +kernel
theorem dL_looks_67 : decode cL_looks 67 = .ok (.imul, 1) := by decide +kernel
theorem dL_looks_68 : decode cL_looks 68 = .ok (.aload_n 0, 1) := by decide +kernel
theorem dL_looks_69 : decode cL_looks 69 = .ok (.iload_n 2, 1) := by decide +kernel
theorem dL_looks_70 : decode cL_looks 70 = .ok (.bipush 6, 2) := by decide +kernel
theorem dL_looks_72 : decode cL_looks 72 = .ok (.idiv, 1) := by decide +kernel
theorem dL_looks_73 : decode cL_looks 73 = .ok (.iload_n 2, 1) := by decide +kernel
theorem dL_looks_74 : decode cL_looks 74 = .ok (.bipush 6, 2) := by decide +kernel
theorem dL_looks_76 : decode cL_looks 76 = .ok (.irem, 1) := by decide +kernel
theorem dL_looks_77 : decode cL_looks 77 = .ok (.invokevirtual 132, 3) := by decide +kernel
theorem dL_looks_80 : decode cL_looks 80 = .ok (.iadd, 1) := by decide +kernel
theorem dL_looks_81 : decode cL_looks 81 = .ok (.imul, 1) := by decide +kernel
theorem dL_looks_82 : decode cL_looks 82 = .ok (.aload_n 0, 1) := by decide +kernel
theorem dL_looks_83 : decode cL_looks 83 = .ok (.iload_n 2, 1) := by decide +kernel
theorem dL_looks_84 : decode cL_looks 84 = .ok (.bipush 6, 2) := by decide +kernel
theorem dL_looks_86 : decode cL_looks 86 = .ok (.idiv, 1) := by decide +kernel
theorem dL_looks_87 : decode cL_looks 87 = .ok (.iload_n 2, 1) := by decide +kernel
theorem dL_looks_88 : decode cL_looks 88 = .ok (.bipush 6, 2) := by decide +kernel
theorem dL_looks_90 : decode cL_looks 90 = .ok (.irem, 1) := by decide +kernel
theorem dL_looks_91 : decode cL_looks 91 = .ok (.invokevirtual 135, 3) := by decide +kernel
theorem dL_looks_94 : decode cL_looks 94 = .ok (.invokestatic 32, 3) := by decide +kernel
theorem dL_looks_97 : decode cL_looks 97 = .ok (.iadd, 1) := by decide +kernel
theorem dL_looks_98 : decode cL_looks 98 = .ok (.istore_n 1, 1) := by decide +kernel
theorem dL_looks_99 : decode cL_looks 99 = .ok (.bipush 31, 2) := by decide +kernel
theorem dL_looks_101 : decode cL_looks 101 = .ok (.bipush 31, 2) := by decide +kernel
theorem dL_looks_103 : decode cL_looks 103 = .ok (.bipush 31, 2) := by decide +kernel
theorem dL_looks_105 : decode cL_looks 105 = .ok (.iload_n 1, 1) := by decide +kernel
theorem dL_looks_106 : decode cL_looks 106 = .ok (.imul, 1) := by decide +kernel
theorem dL_looks_107 : decode cL_looks 107 = .ok (.aload_n 0, 1) := by decide +kernel
theorem dL_looks_108 : decode cL_looks 108 = .ok (.iload_n 2, 1) := by decide +kernel
theorem dL_looks_109 : decode cL_looks 109 = .ok (.bipush 6, 2) := by decide +kernel
theorem dL_looks_111 : decode cL_looks 111 = .ok (.idiv, 1) := by decide +kernel
theorem dL_looks_112 : decode cL_looks 112 = .ok (.iload_n 2, 1) := by decide +kernel
theorem dL_looks_113 : decode cL_looks 113 = .ok (.bipush 6, 2) := by decide +kernel
theorem dL_looks_115 : decode cL_looks 115 = .ok (.irem, 1) := by decide +kernel
theorem dL_looks_116 : decode cL_looks 116 = .ok (.invokevirtual 138, 3) := by decide +kernel
theorem dL_looks_119 : decode cL_looks 119 = .ok (.iadd, 1) := by decide +kernel
theorem dL_looks_120 : decode cL_looks 120 = .ok (.imul, 1) := by decide +kernel
theorem dL_looks_121 : decode cL_looks 121 = .ok (.aload_n 0, 1) := by decide +kernel
theorem dL_looks_122 : decode cL_looks 122 = .ok (.iconst 1, 1) := by decide +kernel
theorem dL_looks_123 : decode cL_looks 123 = .ok (.iload_n 2, 1) := by decide +kernel
theorem dL_looks_124 : decode cL_looks 124 = .ok (.bipush 6, 2) := by decide +kernel
theorem dL_looks_126 : decode cL_looks 126 = .ok (.idiv, 1) := by decide +kernel
theorem dL_looks_127 : decode cL_looks 127 = .ok (.iload_n 2, 1) := by decide +kernel
theorem dL_looks_128 : decode cL_looks 128 = .ok (.bipush 6, 2) := by decide +kernel
theorem dL_looks_130 : decode cL_looks 130 = .ok (.irem, 1) := by decide +kernel
theorem dL_looks_131 : decode cL_looks 131 = .ok (.iconst 0, 1) := by decide +kernel
theorem dL_looks_132 : decode cL_looks 132 = .ok (.iconst 0, 1) := by decide +kernel
theorem dL_looks_133 : decode cL_looks 133 = .ok (.invokestatic 141, 3) := by decide +kernel
theorem dL_looks_136 : decode cL_looks 136 = .ok (.iadd, 1) := by decide +kernel
theorem dL_looks_137 : decode cL_looks 137 = .ok (.imul, 1) := by decide +kernel
theorem dL_looks_138 : decode cL_looks 138 = .ok (.aload_n 0, 1) := by decide +kernel
theorem dL_looks_139 : decode cL_looks 139 = .ok (.bipush 7, 2) := by decide +kernel
theorem dL_looks_141 : decode cL_looks 141 = .ok (.iload_n 2, 1) := by decide +kernel
theorem dL_looks_142 : decode cL_looks 142 = .ok (.bipush 6, 2) := by decide +kernel
theorem dL_looks_144 : decode cL_looks 144 = .ok (.idiv, 1) := by decide +kernel
theorem dL_looks_145 : decode cL_looks 145 = .ok (.iload_n 2, 1) := by decide +kernel
theorem dL_looks_146 : decode cL_looks 146 = .ok (.bipush 6, 2) := by decide +kernel
theorem dL_looks_148 : decode cL_looks 148 = .ok (.irem, 1) := by decide +kernel
theorem dL_looks_149 : decode cL_looks 149 = .ok (.iconst 0, 1) := by decide +kernel
theorem dL_looks_150 : decode cL_looks 150 = .ok (.iconst 0, 1) := by decide +kernel
theorem dL_looks_151 : decode cL_looks 151 = .ok (.invokestatic 141, 3) := by decide +kernel
theorem dL_looks_154 : decode cL_looks 154 = .ok (.iadd, 1) := by decide +kernel
theorem dL_looks_155 : decode cL_looks 155 = .ok (.istore_n 1, 1) := by decide +kernel
theorem dL_looks_156 : decode cL_looks 156 = .ok (.iinc 2 1, 3) := by decide +kernel
theorem dL_looks_159 : decode cL_looks 159 = .ok (.goto (-119), 3) := by decide +kernel
theorem dL_looks_162 : decode cL_looks 162 = .ok (.iconst 0, 1) := by decide +kernel
theorem dL_looks_163 : decode cL_looks 163 = .ok (.istore_n 2, 1) := by decide +kernel
theorem dL_looks_164 : decode cL_looks 164 = .ok (.iload_n 2, 1) := by decide +kernel
theorem dL_looks_165 : decode cL_looks 165 = .ok (.iconst 4, 1) := by decide +kernel
theorem dL_looks_166 : decode cL_looks 166 = .ok (.if_icmp .ge 20, 3) := by decide +kernel
theorem dL_looks_169 : decode cL_looks 169 = .ok (.bipush 31, 2) := by decide +kernel
theorem dL_looks_171 : decode cL_looks 171 = .ok (.iload_n 1, 1) := by decide +kernel
theorem dL_looks_172 : decode cL_looks 172 = .ok (.imul, 1) := by decide +kernel
theorem dL_looks_173 : decode cL_looks 173 = .ok (.aload_n 0, 1) := by decide +kernel
theorem dL_looks_174 : decode cL_looks 174 = .ok (.iload_n 2, 1) := by decide +kernel
theorem dL_looks_175 : decode cL_looks 175 = .ok (.invokevirtual 92, 3) := by decide +kernel
theorem dL_looks_178 : decode cL_looks 178 = .ok (.iadd, 1) := by decide +kernel
theorem dL_looks_179 : decode cL_looks 179 = .ok (.istore_n 1, 1) := by decide +kernel
theorem dL_looks_180 : decode cL_looks 180 = .ok (.iinc 2 1, 3) := by decide +kernel
theorem dL_looks_183 : decode cL_looks 183 = .ok (.goto (-19), 3) := by decide +kernel
theorem dL_looks_186 : decode cL_looks 186 = .ok (.iconst 0, 1) := by decide +kernel
theorem dL_looks_187 : decode cL_looks 187 = .ok (.istore_n 2, 1) := by decide +kernel
theorem dL_looks_188 : decode cL_looks 188 = .ok (.iload_n 2, 1) := by decide +kernel
theorem dL_looks_189 : decode cL_looks 189 = .ok (.iconst 5, 1) := by decide +kernel

/-! DECODE ROWS -/
theorem d_Md_init_0 : decode b_Md_init 0 = .ok (.aload_n 0, 1) := by decide +kernel
theorem d_Md_init_1 : decode b_Md_init 1 = .ok (.invokespecial 1, 3) := by decide +kernel
theorem d_Md_init_4 : decode b_Md_init 4 = .ok (.aload_n 0, 1) := by decide +kernel
theorem d_Md_init_5 : decode b_Md_init 5 = .ok (.bipush 16, 2) := by decide +kernel
theorem d_Md_init_7 : decode b_Md_init 7 = .ok (.newarray .long, 2) := by decide +kernel
theorem d_Md_init_9 : decode b_Md_init 9 = .ok (.putfield 7, 3) := by decide +kernel
theorem d_Md_init_12 : decode b_Md_init 12 = .ok (.aload_n 0, 1) := by decide +kernel
theorem d_Md_init_13 : decode b_Md_init 13 = .ok (.bipush 16, 2) := by decide +kernel
theorem d_Md_init_15 : decode b_Md_init 15 = .ok (.newarray .long, 2) := by decide +kernel
theorem d_Md_init_17 : decode b_Md_init 17 = .ok (.putfield 13, 3) := by decide +kernel
theorem d_Md_init_20 : decode b_Md_init 20 = .ok (.aload_n 0, 1) := by decide +kernel
theorem d_Md_init_21 : decode b_Md_init 21 = .ok (.bipush 60, 2) := by decide +kernel
theorem d_Md_init_23 : decode b_Md_init 23 = .ok (.newarray .int, 2) := by decide +kernel
theorem d_Md_init_25 : decode b_Md_init 25 = .ok (.putfield 16, 3) := by decide +kernel
theorem d_Md_init_28 : decode b_Md_init 28 = .ok (.aload_n 0, 1) := by decide +kernel
theorem d_Md_init_29 : decode b_Md_init 29 = .ok (.bipush 60, 2) := by decide +kernel
theorem d_Md_init_31 : decode b_Md_init 31 = .ok (.newarray .int, 2) := by decide +kernel
theorem d_Md_init_33 : decode b_Md_init 33 = .ok (.putfield 20, 3) := by decide +kernel
theorem d_Md_init_36 : decode b_Md_init 36 = .ok (.aload_n 0, 1) := by decide +kernel
theorem d_Md_init_37 : decode b_Md_init 37 = .ok (.bipush 60, 2) := by decide +kernel
theorem d_Md_init_39 : decode b_Md_init 39 = .ok (.newarray .int, 2) := by decide +kernel
theorem d_Md_init_41 : decode b_Md_init 41 = .ok (.putfield 23, 3) := by decide +kernel
theorem d_Md_init_44 : decode b_Md_init 44 = .ok (.aload_n 0, 1) := by decide +kernel
theorem d_Md_init_45 : decode b_Md_init 45 = .ok (.bipush 60, 2) := by decide +kernel
theorem d_Md_init_47 : decode b_Md_init 47 = .ok (.newarray .long, 2) := by decide +kernel
theorem d_Md_init_49 : decode b_Md_init 49 = .ok (.putfield 26, 3) := by decide +kernel
theorem d_Md_init_52 : decode b_Md_init 52 = .ok (.aload_n 0, 1) := by decide +kernel
theorem d_Md_init_53 : decode b_Md_init 53 = .ok (.bipush 60, 2) := by decide +kernel
theorem d_Md_init_55 : decode b_Md_init 55 = .ok (.newarray .long, 2) := by decide +kernel
theorem d_Md_init_57 : decode b_Md_init 57 = .ok (.putfield 29, 3) := by decide +kernel
theorem d_Md_init_60 : decode b_Md_init 60 = .ok (.aload_n 0, 1) := by decide +kernel
theorem d_Md_init_61 : decode b_Md_init 61 = .ok (.bipush 60, 2) := by decide +kernel
theorem d_Md_init_63 : decode b_Md_init 63 = .ok (.newarray .int, 2) := by decide +kernel
theorem d_Md_init_65 : decode b_Md_init 65 = .ok (.putfield 32, 3) := by decide +kernel
theorem d_Md_init_68 : decode b_Md_init 68 = .ok (.aload_n 0, 1) := by decide +kernel
theorem d_Md_init_69 : decode b_Md_init 69 = .ok (.bipush 60, 2) := by decide +kernel
theorem d_Md_init_71 : decode b_Md_init 71 = .ok (.newarray .int, 2) := by decide +kernel
theorem d_Md_init_73 : decode b_Md_init 73 = .ok (.putfield 35, 3) := by decide +kernel
theorem d_Md_init_76 : decode b_Md_init 76 = .ok (.aload_n 0, 1) := by decide +kernel
theorem d_Md_init_77 : decode b_Md_init 77 = .ok (.bipush 60, 2) := by decide +kernel
theorem d_Md_init_79 : decode b_Md_init 79 = .ok (.newarray .int, 2) := by decide +kernel
theorem d_Md_init_81 : decode b_Md_init 81 = .ok (.putfield 38, 3) := by decide +kernel
theorem d_Md_init_84 : decode b_Md_init 84 = .ok (.aload_n 0, 1) := by decide +kernel
theorem d_Md_init_85 : decode b_Md_init 85 = .ok (.bipush 60, 2) := by decide +kernel
theorem d_Md_init_87 : decode b_Md_init 87 = .ok (.newarray .long, 2) := by decide +kernel
theorem d_Md_init_89 : decode b_Md_init 89 = .ok (.putfield 41, 3) := by decide +kernel
theorem d_Md_init_92 : decode b_Md_init 92 = .ok (.aload_n 0, 1) := by decide +kernel
theorem d_Md_init_93 : decode b_Md_init 93 = .ok (.bipush 60, 2) := by decide +kernel
theorem d_Md_init_95 : decode b_Md_init 95 = .ok (.newarray .int, 2) := by decide +kernel
theorem d_Md_init_97 : decode b_Md_init 97 = .ok (.putfield 44, 3) := by decide +kernel
theorem d_Md_init_100 : decode b_Md_init 100 = .ok (.aload_n 0, 1) := by decide +kernel
theorem d_Md_init_101 : decode b_Md_init 101 = .ok (.iload_n 1, 1) := by decide +kernel
theorem d_Md_init_102 : decode b_Md_init 102 = .ok (.iconst 1, 1) := by decide +kernel
theorem d_Md_init_103 : decode b_Md_init 103 = .ok (.if_icmp .ge 7, 3) := by decide +kernel
theorem d_Md_init_106 : decode b_Md_init 106 = .ok (.iconst 1, 1) := by decide +kernel
theorem d_Md_init_107 : decode b_Md_init 107 = .ok (.goto 17, 3) := by decide +kernel
theorem d_Md_init_110 : decode b_Md_init 110 = .ok (.iload_n 1, 1) := by decide +kernel
theorem d_Md_init_111 : decode b_Md_init 111 = .ok (.sipush 5000, 3) := by decide +kernel
theorem d_Md_init_114 : decode b_Md_init 114 = .ok (.if_icmp .le 9, 3) := by decide +kernel
theorem d_Md_init_117 : decode b_Md_init 117 = .ok (.sipush 5000, 3) := by decide +kernel
theorem d_Md_init_120 : decode b_Md_init 120 = .ok (.goto 4, 3) := by decide +kernel
theorem d_Md_init_123 : decode b_Md_init 123 = .ok (.iload_n 1, 1) := by decide +kernel
theorem d_Md_init_124 : decode b_Md_init 124 = .ok (.putfield 47, 3) := by decide +kernel
theorem d_Md_init_127 : decode b_Md_init 127 = .ok (.aload_n 0, 1) := by decide +kernel
theorem d_Md_init_128 : decode b_Md_init 128 = .ok (.iload_n 2, 1) := by decide +kernel
theorem d_Md_init_129 : decode b_Md_init 129 = .ok (.iconst 1, 1) := by decide +kernel
theorem d_Md_init_130 : decode b_Md_init 130 = .ok (.if_icmp .ge 7, 3) := by decide +kernel
theorem d_Md_init_133 : decode b_Md_init 133 = .ok (.iconst 1, 1) := by decide +kernel
theorem d_Md_init_134 : decode b_Md_init 134 = .ok (.goto 17, 3) := by decide +kernel
theorem d_Md_init_137 : decode b_Md_init 137 = .ok (.iload_n 2, 1) := by decide +kernel
theorem d_Md_init_138 : decode b_Md_init 138 = .ok (.sipush 5000, 3) := by decide +kernel
theorem d_Md_init_141 : decode b_Md_init 141 = .ok (.if_icmp .le 9, 3) := by decide +kernel
theorem d_Md_init_144 : decode b_Md_init 144 = .ok (.sipush 5000, 3) := by decide +kernel
theorem d_Md_init_147 : decode b_Md_init 147 = .ok (.goto 4, 3) := by decide +kernel
theorem d_Md_init_150 : decode b_Md_init 150 = .ok (.iload_n 2, 1) := by decide +kernel
theorem d_Md_init_151 : decode b_Md_init 151 = .ok (.putfield 51, 3) := by decide +kernel
theorem d_Md_init_154 : decode b_Md_init 154 = .ok (.return_, 1) := by decide +kernel
theorem d_Md_thrown_0 : decode b_Md_thrown 0 = .ok (.aload_n 0, 1) := by decide +kernel
theorem d_Md_thrown_1 : decode b_Md_thrown 1 = .ok (.getfield 54, 3) := by decide +kernel
theorem d_Md_thrown_4 : decode b_Md_thrown 4 = .ok (.ireturn, 1) := by decide +kernel
theorem d_Md_account_0 : decode b_Md_account 0 = .ok (.lload_n 1, 1) := by decide +kernel
theorem d_Md_account_1 : decode b_Md_account 1 = .ok (.ldc2_w 70, 3) := by decide +kernel
theorem d_Md_account_4 : decode b_Md_account 4 = .ok (.lcmp, 1) := by decide +kernel
theorem d_Md_account_5 : decode b_Md_account 5 = .ok (.ifCond .lt 29, 3) := by decide +kernel
theorem d_Md_account_8 : decode b_Md_account 8 = .ok (.lload_n 1, 1) := by decide +kernel
theorem d_Md_account_9 : decode b_Md_account 9 = .ok (.ldc2_w 58, 3) := by decide +kernel
theorem d_Md_account_12 : decode b_Md_account 12 = .ok (.lcmp, 1) := by decide +kernel
theorem d_Md_account_13 : decode b_Md_account 13 = .ok (.ifCond .gt 21, 3) := by decide +kernel
theorem d_Md_account_16 : decode b_Md_account 16 = .ok (.lload_n 3, 1) := by decide +kernel
theorem d_Md_account_17 : decode b_Md_account 17 = .ok (.ldc2_w 70, 3) := by decide +kernel
theorem d_Md_account_20 : decode b_Md_account 20 = .ok (.lcmp, 1) := by decide +kernel
theorem d_Md_account_21 : decode b_Md_account 21 = .ok (.ifCond .lt 13, 3) := by decide +kernel
theorem d_Md_account_24 : decode b_Md_account 24 = .ok (.lload_n 3, 1) := by decide +kernel
theorem d_Md_account_25 : decode b_Md_account 25 = .ok (.lconst 0, 1) := by decide +kernel
theorem d_Md_account_26 : decode b_Md_account 26 = .ok (.lcmp, 1) := by decide +kernel
theorem d_Md_account_27 : decode b_Md_account 27 = .ok (.ifCond .gt 7, 3) := by decide +kernel
theorem d_Md_account_30 : decode b_Md_account 30 = .ok (.iconst 1, 1) := by decide +kernel
theorem d_Md_account_31 : decode b_Md_account 31 = .ok (.goto 4, 3) := by decide +kernel
theorem d_Md_account_34 : decode b_Md_account 34 = .ok (.iconst 0, 1) := by decide +kernel
theorem d_Md_account_35 : decode b_Md_account 35 = .ok (.istore 5, 2) := by decide +kernel
theorem d_Md_account_37 : decode b_Md_account 37 = .ok (.aload_n 0, 1) := by decide +kernel
theorem d_Md_account_38 : decode b_Md_account 38 = .ok (.iload 5, 2) := by decide +kernel
theorem d_Md_account_40 : decode b_Md_account 40 = .ok (.ifCond .ne 7, 3) := by decide +kernel
theorem d_Md_account_43 : decode b_Md_account 43 = .ok (.iconst 1, 1) := by decide +kernel
theorem d_Md_account_44 : decode b_Md_account 44 = .ok (.goto 17, 3) := by decide +kernel
theorem d_Md_account_47 : decode b_Md_account 47 = .ok (.aload_n 0, 1) := by decide +kernel
theorem d_Md_account_48 : decode b_Md_account 48 = .ok (.getfield 72, 3) := by decide +kernel
theorem d_Md_account_51 : decode b_Md_account 51 = .ok (.bipush 16, 2) := by decide +kernel
theorem d_Md_account_53 : decode b_Md_account 53 = .ok (.if_icmp .ne 7, 3) := by decide +kernel
theorem d_Md_account_56 : decode b_Md_account 56 = .ok (.iconst 2, 1) := by decide +kernel
theorem d_Md_account_57 : decode b_Md_account 57 = .ok (.goto 4, 3) := by decide +kernel
theorem d_Md_account_60 : decode b_Md_account 60 = .ok (.iconst 0, 1) := by decide +kernel
theorem d_Md_account_61 : decode b_Md_account 61 = .ok (.putfield 54, 3) := by decide +kernel
theorem d_Md_account_64 : decode b_Md_account 64 = .ok (.aload_n 0, 1) := by decide +kernel
theorem d_Md_account_65 : decode b_Md_account 65 = .ok (.getfield 54, 3) := by decide +kernel
theorem d_Md_account_68 : decode b_Md_account 68 = .ok (.ifCond .le 5, 3) := by decide +kernel
theorem d_Md_account_71 : decode b_Md_account 71 = .ok (.iconst 0, 1) := by decide +kernel
theorem d_Md_account_72 : decode b_Md_account 72 = .ok (.ireturn, 1) := by decide +kernel
theorem d_Md_account_73 : decode b_Md_account 73 = .ok (.aload_n 0, 1) := by decide +kernel
theorem d_Md_account_74 : decode b_Md_account 74 = .ok (.getfield 7, 3) := by decide +kernel
theorem d_Md_account_77 : decode b_Md_account 77 = .ok (.aload_n 0, 1) := by decide +kernel
theorem d_Md_account_78 : decode b_Md_account 78 = .ok (.getfield 72, 3) := by decide +kernel
theorem d_Md_account_81 : decode b_Md_account 81 = .ok (.lload_n 1, 1) := by decide +kernel
theorem d_Md_account_82 : decode b_Md_account 82 = .ok (.lastore, 1) := by decide +kernel
theorem d_Md_account_83 : decode b_Md_account 83 = .ok (.aload_n 0, 1) := by decide +kernel
theorem d_Md_account_84 : decode b_Md_account 84 = .ok (.getfield 13, 3) := by decide +kernel
theorem d_Md_account_87 : decode b_Md_account 87 = .ok (.aload_n 0, 1) := by decide +kernel
theorem d_Md_account_88 : decode b_Md_account 88 = .ok (.getfield 72, 3) := by decide +kernel
theorem d_Md_account_91 : decode b_Md_account 91 = .ok (.lload_n 3, 1) := by decide +kernel
theorem d_Md_account_92 : decode b_Md_account 92 = .ok (.lastore, 1) := by decide +kernel
theorem d_Md_account_93 : decode b_Md_account 93 = .ok (.aload_n 0, 1) := by decide +kernel
theorem d_Md_account_94 : decode b_Md_account 94 = .ok (.dup, 1) := by decide +kernel
theorem d_Md_account_95 : decode b_Md_account 95 = .ok (.getfield 72, 3) := by decide +kernel
theorem d_Md_account_98 : decode b_Md_account 98 = .ok (.iconst 1, 1) := by decide +kernel
theorem d_Md_account_99 : decode b_Md_account 99 = .ok (.iadd, 1) := by decide +kernel
theorem d_Md_account_100 : decode b_Md_account 100 = .ok (.putfield 72, 3) := by decide +kernel
theorem d_Md_account_103 : decode b_Md_account 103 = .ok (.aload_n 0, 1) := by decide +kernel
theorem d_Md_account_104 : decode b_Md_account 104 = .ok (.getfield 72, 3) := by decide +kernel
theorem d_Md_account_107 : decode b_Md_account 107 = .ok (.iconst 1, 1) := by decide +kernel
theorem d_Md_account_108 : decode b_Md_account 108 = .ok (.isub, 1) := by decide +kernel
theorem d_Md_account_109 : decode b_Md_account 109 = .ok (.ireturn, 1) := by decide +kernel
theorem d_Md_ask_0 : decode b_Md_ask 0 = .ok (.aload_n 0, 1) := by decide +kernel
theorem d_Md_ask_1 : decode b_Md_ask 1 = .ok (.iload_n 1, 1) := by decide +kernel
theorem d_Md_ask_2 : decode b_Md_ask 2 = .ok (.invokestatic 75, 3) := by decide +kernel
theorem d_Md_ask_5 : decode b_Md_ask 5 = .ok (.ifCond .eq 26, 3) := by decide +kernel
theorem d_Md_ask_8 : decode b_Md_ask 8 = .ok (.iload_n 2, 1) := by decide +kernel
theorem d_Md_ask_9 : decode b_Md_ask 9 = .ok (.ifCond .lt 22, 3) := by decide +kernel
theorem d_Md_ask_12 : decode b_Md_ask 12 = .ok (.iload_n 2, 1) := by decide +kernel
theorem d_Md_ask_13 : decode b_Md_ask 13 = .ok (.aload_n 0, 1) := by decide +kernel
theorem d_Md_ask_14 : decode b_Md_ask 14 = .ok (.getfield 72, 3) := by decide +kernel
theorem d_Md_ask_17 : decode b_Md_ask 17 = .ok (.if_icmp .ge 14, 3) := by decide +kernel
theorem d_Md_ask_20 : decode b_Md_ask 20 = .ok (.lload_n 3, 1) := by decide +kernel
theorem d_Md_ask_21 : decode b_Md_ask 21 = .ok (.invokestatic 79, 3) := by decide +kernel
theorem d_Md_ask_24 : decode b_Md_ask 24 = .ok (.ifCond .eq 7, 3) := by decide +kernel
theorem d_Md_ask_27 : decode b_Md_ask 27 = .ok (.iconst 1, 1) := by decide +kernel
theorem d_Md_ask_28 : decode b_Md_ask 28 = .ok (.goto 4, 3) := by decide +kernel
theorem d_Md_ask_31 : decode b_Md_ask 31 = .ok (.iconst 0, 1) := by decide +kernel
theorem d_Md_ask_32 : decode b_Md_ask 32 = .ok (.invokevirtual 83, 3) := by decide +kernel
theorem d_Md_ask_35 : decode b_Md_ask 35 = .ok (.ifCond .ne 5, 3) := by decide +kernel
theorem d_Md_ask_38 : decode b_Md_ask 38 = .ok (.lconst 0, 1) := by decide +kernel
theorem d_Md_ask_39 : decode b_Md_ask 39 = .ok (.lreturn, 1) := by decide +kernel
theorem d_Md_ask_40 : decode b_Md_ask 40 = .ok (.aload_n 0, 1) := by decide +kernel
theorem d_Md_ask_41 : decode b_Md_ask 41 = .ok (.iload_n 1, 1) := by decide +kernel
theorem d_Md_ask_42 : decode b_Md_ask 42 = .ok (.invokevirtual 87, 3) := by decide +kernel
theorem d_Md_ask_45 : decode b_Md_ask 45 = .ok (.ifCond .ge 12, 3) := by decide +kernel
theorem d_Md_ask_48 : decode b_Md_ask 48 = .ok (.aload_n 0, 1) := by decide +kernel
theorem d_Md_ask_49 : decode b_Md_ask 49 = .ok (.getfield 60, 3) := by decide +kernel
theorem d_Md_ask_52 : decode b_Md_ask 52 = .ok (.bipush 60, 2) := by decide +kernel
theorem d_Md_ask_54 : decode b_Md_ask 54 = .ok (.if_icmp .ne 21, 3) := by decide +kernel
theorem d_Md_ask_57 : decode b_Md_ask 57 = .ok (.aload_n 0, 1) := by decide +kernel
theorem d_Md_ask_58 : decode b_Md_ask 58 = .ok (.iload_n 1, 1) := by decide +kernel
theorem d_Md_ask_59 : decode b_Md_ask 59 = .ok (.invokevirtual 87, 3) := by decide +kernel
theorem d_Md_ask_62 : decode b_Md_ask 62 = .ok (.ifCond .lt 9, 3) := by decide +kernel
theorem d_Md_ask_65 : decode b_Md_ask 65 = .ok (.ldc2_w 91, 3) := by decide +kernel
theorem d_Md_ask_68 : decode b_Md_ask 68 = .ok (.goto 6, 3) := by decide +kernel
theorem d_Md_ask_71 : decode b_Md_ask 71 = .ok (.ldc2_w 93, 3) := by decide +kernel
theorem d_Md_ask_74 : decode b_Md_ask 74 = .ok (.lreturn, 1) := by decide +kernel
theorem d_Md_ask_75 : decode b_Md_ask 75 = .ok (.aload_n 0, 1) := by decide +kernel
theorem d_Md_ask_76 : decode b_Md_ask 76 = .ok (.iload_n 2, 1) := by decide +kernel
theorem d_Md_ask_77 : decode b_Md_ask 77 = .ok (.invokevirtual 95, 3) := by decide +kernel
theorem d_Md_ask_80 : decode b_Md_ask 80 = .ok (.lstore 6, 2) := by decide +kernel
theorem d_Md_ask_82 : decode b_Md_ask 82 = .ok (.lload_n 3, 1) := by decide +kernel
theorem d_Md_ask_83 : decode b_Md_ask 83 = .ok (.lload 6, 2) := by decide +kernel
theorem d_Md_ask_85 : decode b_Md_ask 85 = .ok (.lcmp, 1) := by decide +kernel
theorem d_Md_ask_86 : decode b_Md_ask 86 = .ok (.ifCond .gt 7, 3) := by decide +kernel
theorem d_Md_ask_89 : decode b_Md_ask 89 = .ok (.iconst 1, 1) := by decide +kernel
theorem d_Md_ask_90 : decode b_Md_ask 90 = .ok (.goto 4, 3) := by decide +kernel
theorem d_Md_ask_93 : decode b_Md_ask 93 = .ok (.iconst 0, 1) := by decide +kernel
theorem d_Md_ask_94 : decode b_Md_ask 94 = .ok (.istore 8, 2) := by decide +kernel
theorem d_Md_ask_96 : decode b_Md_ask 96 = .ok (.iload 8, 2) := by decide +kernel
theorem d_Md_ask_98 : decode b_Md_ask 98 = .ok (.ifCond .ne 19, 3) := by decide +kernel
theorem d_Md_ask_101 : decode b_Md_ask 101 = .ok (.iload 5, 2) := by decide +kernel
theorem d_Md_ask_103 : decode b_Md_ask 103 = .ok (.ifCond .eq 10, 3) := by decide +kernel
theorem d_Md_ask_106 : decode b_Md_ask 106 = .ok (.lload 6, 2) := by decide +kernel
theorem d_Md_ask_108 : decode b_Md_ask 108 = .ok (.lconst 0, 1) := by decide +kernel
theorem d_Md_ask_109 : decode b_Md_ask 109 = .ok (.lcmp, 1) := by decide +kernel
theorem d_Md_ask_110 : decode b_Md_ask 110 = .ok (.ifCond .gt 7, 3) := by decide +kernel
theorem d_Md_ask_113 : decode b_Md_ask 113 = .ok (.ldc2_w 98, 3) := by decide +kernel
theorem d_Md_ask_116 : decode b_Md_ask 116 = .ok (.lreturn, 1) := by decide +kernel
theorem d_Md_ask_117 : decode b_Md_ask 117 = .ok (.aload_n 0, 1) := by decide +kernel
theorem d_Md_ask_118 : decode b_Md_ask 118 = .ok (.iload_n 1, 1) := by decide +kernel
theorem d_Md_ask_119 : decode b_Md_ask 119 = .ok (.iload_n 2, 1) := by decide +kernel
theorem d_Md_ask_120 : decode b_Md_ask 120 = .ok (.invokevirtual 100, 3) := by decide +kernel
theorem d_Md_ask_123 : decode b_Md_ask 123 = .ok (.istore 9, 2) := by decide +kernel
theorem d_Md_ask_125 : decode b_Md_ask 125 = .ok (.aload_n 0, 1) := by decide +kernel
theorem d_Md_ask_126 : decode b_Md_ask 126 = .ok (.getfield 23, 3) := by decide +kernel
theorem d_Md_ask_129 : decode b_Md_ask 129 = .ok (.iload 9, 2) := by decide +kernel
theorem d_Md_ask_131 : decode b_Md_ask 131 = .ok (.iconst 1, 1) := by decide +kernel
theorem d_Md_ask_132 : decode b_Md_ask 132 = .ok (.iastore, 1) := by decide +kernel
theorem d_Md_ask_133 : decode b_Md_ask 133 = .ok (.aload_n 0, 1) := by decide +kernel
theorem d_Md_ask_134 : decode b_Md_ask 134 = .ok (.getfield 26, 3) := by decide +kernel
theorem d_Md_ask_137 : decode b_Md_ask 137 = .ok (.iload 9, 2) := by decide +kernel
theorem d_Md_ask_139 : decode b_Md_ask 139 = .ok (.iload 8, 2) := by decide +kernel
theorem d_Md_ask_141 : decode b_Md_ask 141 = .ok (.ifCond .eq 7, 3) := by decide +kernel
theorem d_Md_ask_144 : decode b_Md_ask 144 = .ok (.lload_n 3, 1) := by decide +kernel
theorem d_Md_ask_145 : decode b_Md_ask 145 = .ok (.goto 5, 3) := by decide +kernel
theorem d_Md_ask_148 : decode b_Md_ask 148 = .ok (.lload 6, 2) := by decide +kernel
theorem d_Md_ask_150 : decode b_Md_ask 150 = .ok (.lastore, 1) := by decide +kernel
theorem d_Md_ask_151 : decode b_Md_ask 151 = .ok (.aload_n 0, 1) := by decide +kernel
theorem d_Md_ask_152 : decode b_Md_ask 152 = .ok (.getfield 32, 3) := by decide +kernel
theorem d_Md_ask_155 : decode b_Md_ask 155 = .ok (.iload 9, 2) := by decide +kernel
theorem d_Md_ask_157 : decode b_Md_ask 157 = .ok (.aload_n 0, 1) := by decide +kernel
theorem d_Md_ask_158 : decode b_Md_ask 158 = .ok (.getfield 104, 3) := by decide +kernel
theorem d_Md_ask_161 : decode b_Md_ask 161 = .ok (.aload_n 0, 1) := by decide +kernel
theorem d_Md_ask_162 : decode b_Md_ask 162 = .ok (.getfield 47, 3) := by decide +kernel
theorem d_Md_ask_165 : decode b_Md_ask 165 = .ok (.iadd, 1) := by decide +kernel
theorem d_Md_ask_166 : decode b_Md_ask 166 = .ok (.iastore, 1) := by decide +kernel
theorem d_Md_ask_167 : decode b_Md_ask 167 = .ok (.aload_n 0, 1) := by decide +kernel
theorem d_Md_ask_168 : decode b_Md_ask 168 = .ok (.getfield 26, 3) := by decide +kernel
theorem d_Md_ask_171 : decode b_Md_ask 171 = .ok (.iload 9, 2) := by decide +kernel
theorem d_Md_ask_173 : decode b_Md_ask 173 = .ok (.laload, 1) := by decide +kernel
theorem d_Md_ask_174 : decode b_Md_ask 174 = .ok (.lreturn, 1) := by decide +kernel
theorem d_Md_isKey_0 : decode b_Md_isKey 0 = .ok (.iload_n 0, 1) := by decide +kernel
theorem d_Md_isKey_1 : decode b_Md_isKey 1 = .ok (.ifCond .lt 13, 3) := by decide +kernel
theorem d_Md_isKey_4 : decode b_Md_isKey 4 = .ok (.iload_n 0, 1) := by decide +kernel
theorem d_Md_isKey_5 : decode b_Md_isKey 5 = .ok (.ldc 57, 2) := by decide +kernel
theorem d_Md_isKey_7 : decode b_Md_isKey 7 = .ok (.if_icmp .gt 7, 3) := by decide +kernel
theorem d_Md_isKey_10 : decode b_Md_isKey 10 = .ok (.iconst 1, 1) := by decide +kernel
theorem d_Md_isKey_11 : decode b_Md_isKey 11 = .ok (.goto 4, 3) := by decide +kernel
theorem d_Md_isKey_14 : decode b_Md_isKey 14 = .ok (.iconst 0, 1) := by decide +kernel
theorem d_Md_isKey_15 : decode b_Md_isKey 15 = .ok (.ireturn, 1) := by decide +kernel
theorem d_Md_isAmount_0 : decode b_Md_isAmount 0 = .ok (.lload_n 0, 1) := by decide +kernel
theorem d_Md_isAmount_1 : decode b_Md_isAmount 1 = .ok (.lconst 1, 1) := by decide +kernel
theorem d_Md_isAmount_2 : decode b_Md_isAmount 2 = .ok (.lcmp, 1) := by decide +kernel
theorem d_Md_isAmount_3 : decode b_Md_isAmount 3 = .ok (.ifCond .lt 15, 3) := by decide +kernel
theorem d_Md_isAmount_6 : decode b_Md_isAmount 6 = .ok (.lload_n 0, 1) := by decide +kernel
theorem d_Md_isAmount_7 : decode b_Md_isAmount 7 = .ok (.ldc2_w 58, 3) := by decide +kernel
theorem d_Md_isAmount_10 : decode b_Md_isAmount 10 = .ok (.lcmp, 1) := by decide +kernel
theorem d_Md_isAmount_11 : decode b_Md_isAmount 11 = .ok (.ifCond .gt 7, 3) := by decide +kernel
theorem d_Md_isAmount_14 : decode b_Md_isAmount 14 = .ok (.iconst 1, 1) := by decide +kernel
theorem d_Md_isAmount_15 : decode b_Md_isAmount 15 = .ok (.goto 4, 3) := by decide +kernel
theorem d_Md_isAmount_18 : decode b_Md_isAmount 18 = .ok (.iconst 0, 1) := by decide +kernel
theorem d_Md_isAmount_19 : decode b_Md_isAmount 19 = .ok (.ireturn, 1) := by decide +kernel
theorem d_Md_goes_0 : decode b_Md_goes 0 = .ok (.aload_n 0, 1) := by decide +kernel
theorem d_Md_goes_1 : decode b_Md_goes 1 = .ok (.iload_n 1, 1) := by decide +kernel
theorem d_Md_goes_2 : decode b_Md_goes 2 = .ok (.ifCond .eq 7, 3) := by decide +kernel
theorem d_Md_goes_5 : decode b_Md_goes 5 = .ok (.iconst 0, 1) := by decide +kernel
theorem d_Md_goes_6 : decode b_Md_goes 6 = .ok (.goto 4, 3) := by decide +kernel
theorem d_Md_goes_9 : decode b_Md_goes 9 = .ok (.iconst 1, 1) := by decide +kernel
theorem d_Md_goes_10 : decode b_Md_goes 10 = .ok (.putfield 54, 3) := by decide +kernel
theorem d_Md_goes_13 : decode b_Md_goes 13 = .ok (.iload_n 1, 1) := by decide +kernel
theorem d_Md_goes_14 : decode b_Md_goes 14 = .ok (.ireturn, 1) := by decide +kernel
theorem d_Md_place_0 : decode b_Md_place 0 = .ok (.iconst (-1), 1) := by decide +kernel
theorem d_Md_place_1 : decode b_Md_place 1 = .ok (.istore_n 2, 1) := by decide +kernel
theorem d_Md_place_2 : decode b_Md_place 2 = .ok (.iconst 0, 1) := by decide +kernel
theorem d_Md_place_3 : decode b_Md_place 3 = .ok (.istore_n 3, 1) := by decide +kernel
theorem d_Md_place_4 : decode b_Md_place 4 = .ok (.iload_n 3, 1) := by decide +kernel
theorem d_Md_place_5 : decode b_Md_place 5 = .ok (.aload_n 0, 1) := by decide +kernel
theorem d_Md_place_6 : decode b_Md_place 6 = .ok (.getfield 60, 3) := by decide +kernel
theorem d_Md_place_9 : decode b_Md_place 9 = .ok (.if_icmp .ge 25, 3) := by decide +kernel
theorem d_Md_place_12 : decode b_Md_place 12 = .ok (.aload_n 0, 1) := by decide +kernel
theorem d_Md_place_13 : decode b_Md_place 13 = .ok (.getfield 16, 3) := by decide +kernel
theorem d_Md_place_16 : decode b_Md_place 16 = .ok (.iload_n 3, 1) := by decide +kernel
theorem d_Md_place_17 : decode b_Md_place 17 = .ok (.iaload, 1) := by decide +kernel
theorem d_Md_place_18 : decode b_Md_place 18 = .ok (.iload_n 1, 1) := by decide +kernel
theorem d_Md_place_19 : decode b_Md_place 19 = .ok (.if_icmp .ne 7, 3) := by decide +kernel
theorem d_Md_place_22 : decode b_Md_place 22 = .ok (.iload_n 3, 1) := by decide +kernel
theorem d_Md_place_23 : decode b_Md_place 23 = .ok (.goto 4, 3) := by decide +kernel
theorem d_Md_place_26 : decode b_Md_place 26 = .ok (.iload_n 2, 1) := by decide +kernel
theorem d_Md_place_27 : decode b_Md_place 27 = .ok (.istore_n 2, 1) := by decide +kernel
theorem d_Md_place_28 : decode b_Md_place 28 = .ok (.iinc 3 1, 3) := by decide +kernel
theorem d_Md_place_31 : decode b_Md_place 31 = .ok (.goto (-27), 3) := by decide +kernel
theorem d_Md_place_34 : decode b_Md_place 34 = .ok (.iload_n 2, 1) := by decide +kernel
theorem d_Md_place_35 : decode b_Md_place 35 = .ok (.ireturn, 1) := by decide +kernel
theorem d_Md_freeOf_0 : decode b_Md_freeOf 0 = .ok (.aload_n 0, 1) := by decide +kernel
theorem d_Md_freeOf_1 : decode b_Md_freeOf 1 = .ok (.getfield 7, 3) := by decide +kernel
theorem d_Md_freeOf_4 : decode b_Md_freeOf 4 = .ok (.iload_n 1, 1) := by decide +kernel
theorem d_Md_freeOf_5 : decode b_Md_freeOf 5 = .ok (.laload, 1) := by decide +kernel
theorem d_Md_freeOf_6 : decode b_Md_freeOf 6 = .ok (.aload_n 0, 1) := by decide +kernel
theorem d_Md_freeOf_7 : decode b_Md_freeOf 7 = .ok (.getfield 13, 3) := by decide +kernel
theorem d_Md_freeOf_10 : decode b_Md_freeOf 10 = .ok (.iload_n 1, 1) := by decide +kernel
theorem d_Md_freeOf_11 : decode b_Md_freeOf 11 = .ok (.laload, 1) := by decide +kernel
theorem d_Md_freeOf_12 : decode b_Md_freeOf 12 = .ok (.lsub, 1) := by decide +kernel
theorem d_Md_freeOf_13 : decode b_Md_freeOf 13 = .ok (.aload_n 0, 1) := by decide +kernel
theorem d_Md_freeOf_14 : decode b_Md_freeOf 14 = .ok (.iload_n 1, 1) := by decide +kernel
theorem d_Md_freeOf_15 : decode b_Md_freeOf 15 = .ok (.invokevirtual 63, 3) := by decide +kernel
theorem d_Md_freeOf_18 : decode b_Md_freeOf 18 = .ok (.lsub, 1) := by decide +kernel
theorem d_Md_freeOf_19 : decode b_Md_freeOf 19 = .ok (.aload_n 0, 1) := by decide +kernel
theorem d_Md_freeOf_20 : decode b_Md_freeOf 20 = .ok (.iload_n 1, 1) := by decide +kernel
theorem d_Md_freeOf_21 : decode b_Md_freeOf 21 = .ok (.invokevirtual 67, 3) := by decide +kernel
theorem d_Md_freeOf_24 : decode b_Md_freeOf 24 = .ok (.lsub, 1) := by decide +kernel
theorem d_Md_freeOf_25 : decode b_Md_freeOf 25 = .ok (.lreturn, 1) := by decide +kernel
theorem d_Md_heldOf_0 : decode b_Md_heldOf 0 = .ok (.lconst 0, 1) := by decide +kernel
theorem d_Md_heldOf_1 : decode b_Md_heldOf 1 = .ok (.lstore_n 2, 1) := by decide +kernel
theorem d_Md_heldOf_2 : decode b_Md_heldOf 2 = .ok (.iconst 0, 1) := by decide +kernel
theorem d_Md_heldOf_3 : decode b_Md_heldOf 3 = .ok (.istore 4, 2) := by decide +kernel
theorem d_Md_heldOf_5 : decode b_Md_heldOf 5 = .ok (.iload 4, 2) := by decide +kernel
theorem d_Md_heldOf_7 : decode b_Md_heldOf 7 = .ok (.aload_n 0, 1) := by decide +kernel
theorem d_Md_heldOf_8 : decode b_Md_heldOf 8 = .ok (.getfield 60, 3) := by decide +kernel
theorem d_Md_heldOf_11 : decode b_Md_heldOf 11 = .ok (.if_icmp .ge 34, 3) := by decide +kernel
theorem d_Md_heldOf_14 : decode b_Md_heldOf 14 = .ok (.lload_n 2, 1) := by decide +kernel
theorem d_Md_heldOf_15 : decode b_Md_heldOf 15 = .ok (.aload_n 0, 1) := by decide +kernel
theorem d_Md_heldOf_16 : decode b_Md_heldOf 16 = .ok (.getfield 20, 3) := by decide +kernel
theorem d_Md_heldOf_19 : decode b_Md_heldOf 19 = .ok (.iload 4, 2) := by decide +kernel
theorem d_Md_heldOf_21 : decode b_Md_heldOf 21 = .ok (.iaload, 1) := by decide +kernel
theorem d_Md_heldOf_22 : decode b_Md_heldOf 22 = .ok (.iload_n 1, 1) := by decide +kernel
theorem d_Md_heldOf_23 : decode b_Md_heldOf 23 = .ok (.if_icmp .ne 13, 3) := by decide +kernel
theorem d_Md_heldOf_26 : decode b_Md_heldOf 26 = .ok (.aload_n 0, 1) := by decide +kernel
theorem d_Md_heldOf_27 : decode b_Md_heldOf 27 = .ok (.getfield 26, 3) := by decide +kernel
theorem d_Md_heldOf_30 : decode b_Md_heldOf 30 = .ok (.iload 4, 2) := by decide +kernel
theorem d_Md_heldOf_32 : decode b_Md_heldOf 32 = .ok (.laload, 1) := by decide +kernel
theorem d_Md_heldOf_33 : decode b_Md_heldOf 33 = .ok (.goto 4, 3) := by decide +kernel
theorem d_Md_heldOf_36 : decode b_Md_heldOf 36 = .ok (.lconst 0, 1) := by decide +kernel
theorem d_Md_heldOf_37 : decode b_Md_heldOf 37 = .ok (.ladd, 1) := by decide +kernel
theorem d_Md_heldOf_38 : decode b_Md_heldOf 38 = .ok (.lstore_n 2, 1) := by decide +kernel
theorem d_Md_heldOf_39 : decode b_Md_heldOf 39 = .ok (.iinc 4 1, 3) := by decide +kernel
theorem d_Md_heldOf_42 : decode b_Md_heldOf 42 = .ok (.goto (-37), 3) := by decide +kernel
theorem d_Md_heldOf_45 : decode b_Md_heldOf 45 = .ok (.lload_n 2, 1) := by decide +kernel
theorem d_Md_heldOf_46 : decode b_Md_heldOf 46 = .ok (.lreturn, 1) := by decide +kernel
theorem d_Md_lockedOf_0 : decode b_Md_lockedOf 0 = .ok (.lconst 0, 1) := by decide +kernel
theorem d_Md_lockedOf_1 : decode b_Md_lockedOf 1 = .ok (.lstore_n 2, 1) := by decide +kernel
theorem d_Md_lockedOf_2 : decode b_Md_lockedOf 2 = .ok (.iconst 0, 1) := by decide +kernel
theorem d_Md_lockedOf_3 : decode b_Md_lockedOf 3 = .ok (.istore 4, 2) := by decide +kernel
theorem d_Md_lockedOf_5 : decode b_Md_lockedOf 5 = .ok (.iload 4, 2) := by decide +kernel
theorem d_Md_lockedOf_7 : decode b_Md_lockedOf 7 = .ok (.aload_n 0, 1) := by decide +kernel
theorem d_Md_lockedOf_8 : decode b_Md_lockedOf 8 = .ok (.getfield 60, 3) := by decide +kernel
theorem d_Md_lockedOf_11 : decode b_Md_lockedOf 11 = .ok (.if_icmp .ge 56, 3) := by decide +kernel
theorem d_Md_lockedOf_14 : decode b_Md_lockedOf 14 = .ok (.lload_n 2, 1) := by decide +kernel
theorem d_Md_lockedOf_15 : decode b_Md_lockedOf 15 = .ok (.aload_n 0, 1) := by decide +kernel
theorem d_Md_lockedOf_16 : decode b_Md_lockedOf 16 = .ok (.getfield 20, 3) := by decide +kernel
theorem d_Md_lockedOf_19 : decode b_Md_lockedOf 19 = .ok (.iload 4, 2) := by decide +kernel
theorem d_Md_lockedOf_21 : decode b_Md_lockedOf 21 = .ok (.iaload, 1) := by decide +kernel
theorem d_Md_lockedOf_22 : decode b_Md_lockedOf 22 = .ok (.iload_n 1, 1) := by decide +kernel
theorem d_Md_lockedOf_23 : decode b_Md_lockedOf 23 = .ok (.if_icmp .ne 35, 3) := by decide +kernel
theorem d_Md_lockedOf_26 : decode b_Md_lockedOf 26 = .ok (.aload_n 0, 1) := by decide +kernel
theorem d_Md_lockedOf_27 : decode b_Md_lockedOf 27 = .ok (.getfield 38, 3) := by decide +kernel
theorem d_Md_lockedOf_30 : decode b_Md_lockedOf 30 = .ok (.iload 4, 2) := by decide +kernel
theorem d_Md_lockedOf_32 : decode b_Md_lockedOf 32 = .ok (.iaload, 1) := by decide +kernel
theorem d_Md_lockedOf_33 : decode b_Md_lockedOf 33 = .ok (.iconst 1, 1) := by decide +kernel
theorem d_Md_lockedOf_34 : decode b_Md_lockedOf 34 = .ok (.if_icmp .eq 14, 3) := by decide +kernel
theorem d_Md_lockedOf_37 : decode b_Md_lockedOf 37 = .ok (.aload_n 0, 1) := by decide +kernel
theorem d_Md_lockedOf_38 : decode b_Md_lockedOf 38 = .ok (.getfield 38, 3) := by decide +kernel
theorem d_Md_lockedOf_41 : decode b_Md_lockedOf 41 = .ok (.iload 4, 2) := by decide +kernel
theorem d_Md_lockedOf_43 : decode b_Md_lockedOf 43 = .ok (.iaload, 1) := by decide +kernel
theorem d_Md_lockedOf_44 : decode b_Md_lockedOf 44 = .ok (.iconst 2, 1) := by decide +kernel
theorem d_Md_lockedOf_45 : decode b_Md_lockedOf 45 = .ok (.if_icmp .ne 13, 3) := by decide +kernel
theorem d_Md_lockedOf_48 : decode b_Md_lockedOf 48 = .ok (.aload_n 0, 1) := by decide +kernel
theorem d_Md_lockedOf_49 : decode b_Md_lockedOf 49 = .ok (.getfield 41, 3) := by decide +kernel
theorem d_Md_lockedOf_52 : decode b_Md_lockedOf 52 = .ok (.iload 4, 2) := by decide +kernel
theorem d_Md_lockedOf_54 : decode b_Md_lockedOf 54 = .ok (.laload, 1) := by decide +kernel
theorem d_Md_lockedOf_55 : decode b_Md_lockedOf 55 = .ok (.goto 4, 3) := by decide +kernel
theorem d_Md_lockedOf_58 : decode b_Md_lockedOf 58 = .ok (.lconst 0, 1) := by decide +kernel
theorem d_Md_lockedOf_59 : decode b_Md_lockedOf 59 = .ok (.ladd, 1) := by decide +kernel
theorem d_Md_lockedOf_60 : decode b_Md_lockedOf 60 = .ok (.lstore_n 2, 1) := by decide +kernel
theorem d_Md_lockedOf_61 : decode b_Md_lockedOf 61 = .ok (.iinc 4 1, 3) := by decide +kernel
theorem d_Md_lockedOf_64 : decode b_Md_lockedOf 64 = .ok (.goto (-59), 3) := by decide +kernel
theorem d_Md_lockedOf_67 : decode b_Md_lockedOf 67 = .ok (.lload_n 2, 1) := by decide +kernel
theorem d_Md_lockedOf_68 : decode b_Md_lockedOf 68 = .ok (.lreturn, 1) := by decide +kernel
theorem d_Md_come_0 : decode b_Md_come 0 = .ok (.aload_n 0, 1) := by decide +kernel
theorem d_Md_come_1 : decode b_Md_come 1 = .ok (.getfield 60, 3) := by decide +kernel
theorem d_Md_come_4 : decode b_Md_come 4 = .ok (.istore_n 3, 1) := by decide +kernel
theorem d_Md_come_5 : decode b_Md_come 5 = .ok (.aload_n 0, 1) := by decide +kernel
theorem d_Md_come_6 : decode b_Md_come 6 = .ok (.getfield 16, 3) := by decide +kernel
theorem d_Md_come_9 : decode b_Md_come 9 = .ok (.iload_n 3, 1) := by decide +kernel
theorem d_Md_come_10 : decode b_Md_come 10 = .ok (.iload_n 1, 1) := by decide +kernel
theorem d_Md_come_11 : decode b_Md_come 11 = .ok (.iastore, 1) := by decide +kernel
theorem d_Md_come_12 : decode b_Md_come 12 = .ok (.aload_n 0, 1) := by decide +kernel
theorem d_Md_come_13 : decode b_Md_come 13 = .ok (.getfield 20, 3) := by decide +kernel
theorem d_Md_come_16 : decode b_Md_come 16 = .ok (.iload_n 3, 1) := by decide +kernel
theorem d_Md_come_17 : decode b_Md_come 17 = .ok (.iload_n 2, 1) := by decide +kernel
theorem d_Md_come_18 : decode b_Md_come 18 = .ok (.iastore, 1) := by decide +kernel
theorem d_Md_come_19 : decode b_Md_come 19 = .ok (.aload_n 0, 1) := by decide +kernel
theorem d_Md_come_20 : decode b_Md_come 20 = .ok (.getfield 23, 3) := by decide +kernel
theorem d_Md_come_23 : decode b_Md_come 23 = .ok (.iload_n 3, 1) := by decide +kernel
theorem d_Md_come_24 : decode b_Md_come 24 = .ok (.iconst 2, 1) := by decide +kernel
theorem d_Md_come_25 : decode b_Md_come 25 = .ok (.iastore, 1) := by decide +kernel
theorem d_Md_come_26 : decode b_Md_come 26 = .ok (.aload_n 0, 1) := by decide +kernel
theorem d_Md_come_27 : decode b_Md_come 27 = .ok (.getfield 26, 3) := by decide +kernel
theorem d_Md_come_30 : decode b_Md_come 30 = .ok (.iload_n 3, 1) := by decide +kernel
theorem d_Md_come_31 : decode b_Md_come 31 = .ok (.lconst 0, 1) := by decide +kernel
theorem d_Md_come_32 : decode b_Md_come 32 = .ok (.lastore, 1) := by decide +kernel
theorem d_Md_come_33 : decode b_Md_come 33 = .ok (.aload_n 0, 1) := by decide +kernel
theorem d_Md_come_34 : decode b_Md_come 34 = .ok (.getfield 29, 3) := by decide +kernel
theorem d_Md_come_37 : decode b_Md_come 37 = .ok (.iload_n 3, 1) := by decide +kernel
theorem d_Md_come_38 : decode b_Md_come 38 = .ok (.lconst 0, 1) := by decide +kernel
theorem d_Md_come_39 : decode b_Md_come 39 = .ok (.lastore, 1) := by decide +kernel
theorem d_Md_come_40 : decode b_Md_come 40 = .ok (.aload_n 0, 1) := by decide +kernel
theorem d_Md_come_41 : decode b_Md_come 41 = .ok (.getfield 32, 3) := by decide +kernel
theorem d_Md_come_44 : decode b_Md_come 44 = .ok (.iload_n 3, 1) := by decide +kernel
theorem d_Md_come_45 : decode b_Md_come 45 = .ok (.iconst 0, 1) := by decide +kernel
theorem d_Md_come_46 : decode b_Md_come 46 = .ok (.iastore, 1) := by decide +kernel
theorem d_Md_come_47 : decode b_Md_come 47 = .ok (.aload_n 0, 1) := by decide +kernel
theorem d_Md_come_48 : decode b_Md_come 48 = .ok (.getfield 35, 3) := by decide +kernel
theorem d_Md_come_51 : decode b_Md_come 51 = .ok (.iload_n 3, 1) := by decide +kernel
theorem d_Md_come_52 : decode b_Md_come 52 = .ok (.iconst (-1), 1) := by decide +kernel
theorem d_Md_come_53 : decode b_Md_come 53 = .ok (.iastore, 1) := by decide +kernel
theorem d_Md_come_54 : decode b_Md_come 54 = .ok (.aload_n 0, 1) := by decide +kernel
theorem d_Md_come_55 : decode b_Md_come 55 = .ok (.getfield 38, 3) := by decide +kernel
theorem d_Md_come_58 : decode b_Md_come 58 = .ok (.iload_n 3, 1) := by decide +kernel
theorem d_Md_come_59 : decode b_Md_come 59 = .ok (.iconst 0, 1) := by decide +kernel
theorem d_Md_come_60 : decode b_Md_come 60 = .ok (.iastore, 1) := by decide +kernel
theorem d_Md_come_61 : decode b_Md_come 61 = .ok (.aload_n 0, 1) := by decide +kernel
theorem d_Md_come_62 : decode b_Md_come 62 = .ok (.getfield 41, 3) := by decide +kernel
theorem d_Md_come_65 : decode b_Md_come 65 = .ok (.iload_n 3, 1) := by decide +kernel
theorem d_Md_come_66 : decode b_Md_come 66 = .ok (.lconst 0, 1) := by decide +kernel
theorem d_Md_come_67 : decode b_Md_come 67 = .ok (.lastore, 1) := by decide +kernel
theorem d_Md_come_68 : decode b_Md_come 68 = .ok (.aload_n 0, 1) := by decide +kernel
theorem d_Md_come_69 : decode b_Md_come 69 = .ok (.getfield 44, 3) := by decide +kernel
theorem d_Md_come_72 : decode b_Md_come 72 = .ok (.iload_n 3, 1) := by decide +kernel
theorem d_Md_come_73 : decode b_Md_come 73 = .ok (.iconst (-1), 1) := by decide +kernel
theorem d_Md_come_74 : decode b_Md_come 74 = .ok (.iastore, 1) := by decide +kernel
theorem d_Md_come_75 : decode b_Md_come 75 = .ok (.aload_n 0, 1) := by decide +kernel
theorem d_Md_come_76 : decode b_Md_come 76 = .ok (.dup, 1) := by decide +kernel
theorem d_Md_come_77 : decode b_Md_come 77 = .ok (.getfield 60, 3) := by decide +kernel
theorem d_Md_come_80 : decode b_Md_come 80 = .ok (.iconst 1, 1) := by decide +kernel
theorem d_Md_come_81 : decode b_Md_come 81 = .ok (.iadd, 1) := by decide +kernel
theorem d_Md_come_82 : decode b_Md_come 82 = .ok (.putfield 60, 3) := by decide +kernel
theorem d_Md_come_85 : decode b_Md_come 85 = .ok (.iload_n 3, 1) := by decide +kernel
theorem d_Md_come_86 : decode b_Md_come 86 = .ok (.ireturn, 1) := by decide +kernel
theorem d_Md_clear_0 : decode b_Md_clear 0 = .ok (.aload_n 0, 1) := by decide +kernel
theorem d_Md_clear_1 : decode b_Md_clear 1 = .ok (.iload_n 1, 1) := by decide +kernel
theorem d_Md_clear_2 : decode b_Md_clear 2 = .ok (.invokestatic 75, 3) := by decide +kernel
theorem d_Md_clear_5 : decode b_Md_clear 5 = .ok (.ifCond .eq 14, 3) := by decide +kernel
theorem d_Md_clear_8 : decode b_Md_clear 8 = .ok (.lload_n 2, 1) := by decide +kernel
theorem d_Md_clear_9 : decode b_Md_clear 9 = .ok (.invokestatic 79, 3) := by decide +kernel
theorem d_Md_clear_12 : decode b_Md_clear 12 = .ok (.ifCond .eq 7, 3) := by decide +kernel
theorem d_Md_clear_15 : decode b_Md_clear 15 = .ok (.iconst 1, 1) := by decide +kernel
theorem d_Md_clear_16 : decode b_Md_clear 16 = .ok (.goto 4, 3) := by decide +kernel
theorem d_Md_clear_19 : decode b_Md_clear 19 = .ok (.iconst 0, 1) := by decide +kernel
theorem d_Md_clear_20 : decode b_Md_clear 20 = .ok (.invokevirtual 83, 3) := by decide +kernel
theorem d_Md_clear_23 : decode b_Md_clear 23 = .ok (.ifCond .ne 5, 3) := by decide +kernel
theorem d_Md_clear_26 : decode b_Md_clear 26 = .ok (.lconst 0, 1) := by decide +kernel
theorem d_Md_clear_27 : decode b_Md_clear 27 = .ok (.lreturn, 1) := by decide +kernel
theorem d_Md_clear_28 : decode b_Md_clear 28 = .ok (.aload_n 0, 1) := by decide +kernel
theorem d_Md_clear_29 : decode b_Md_clear 29 = .ok (.iload_n 1, 1) := by decide +kernel
theorem d_Md_clear_30 : decode b_Md_clear 30 = .ok (.invokevirtual 87, 3) := by decide +kernel
theorem d_Md_clear_33 : decode b_Md_clear 33 = .ok (.istore 5, 2) := by decide +kernel
theorem d_Md_clear_35 : decode b_Md_clear 35 = .ok (.iload 5, 2) := by decide +kernel
theorem d_Md_clear_37 : decode b_Md_clear 37 = .ok (.ifCond .ge 7, 3) := by decide +kernel
theorem d_Md_clear_40 : decode b_Md_clear 40 = .ok (.ldc2_w 107, 3) := by decide +kernel
theorem d_Md_clear_43 : decode b_Md_clear 43 = .ok (.lreturn, 1) := by decide +kernel
theorem d_Md_clear_44 : decode b_Md_clear 44 = .ok (.aload_n 0, 1) := by decide +kernel
theorem d_Md_clear_45 : decode b_Md_clear 45 = .ok (.getfield 23, 3) := by decide +kernel
theorem d_Md_clear_48 : decode b_Md_clear 48 = .ok (.iload 5, 2) := by decide +kernel
theorem d_Md_clear_50 : decode b_Md_clear 50 = .ok (.iaload, 1) := by decide +kernel
theorem d_Md_clear_51 : decode b_Md_clear 51 = .ok (.iconst 1, 1) := by decide +kernel
theorem d_Md_clear_52 : decode b_Md_clear 52 = .ok (.if_icmp .eq 7, 3) := by decide +kernel
theorem d_Md_clear_55 : decode b_Md_clear 55 = .ok (.ldc2_w 109, 3) := by decide +kernel
theorem d_Md_clear_58 : decode b_Md_clear 58 = .ok (.lreturn, 1) := by decide +kernel
theorem d_Md_clear_59 : decode b_Md_clear 59 = .ok (.lload_n 2, 1) := by decide +kernel
theorem d_Md_clear_60 : decode b_Md_clear 60 = .ok (.aload_n 0, 1) := by decide +kernel
theorem d_Md_clear_61 : decode b_Md_clear 61 = .ok (.getfield 26, 3) := by decide +kernel
theorem d_Md_clear_64 : decode b_Md_clear 64 = .ok (.iload 5, 2) := by decide +kernel
theorem d_Md_clear_66 : decode b_Md_clear 66 = .ok (.laload, 1) := by decide +kernel
theorem d_Md_clear_67 : decode b_Md_clear 67 = .ok (.lcmp, 1) := by decide +kernel
theorem d_Md_clear_68 : decode b_Md_clear 68 = .ok (.ifCond .le 7, 3) := by decide +kernel
theorem d_Md_clear_71 : decode b_Md_clear 71 = .ok (.ldc2_w 111, 3) := by decide +kernel
theorem d_Md_clear_74 : decode b_Md_clear 74 = .ok (.lreturn, 1) := by decide +kernel
theorem d_Md_clear_75 : decode b_Md_clear 75 = .ok (.aload_n 0, 1) := by decide +kernel
theorem d_Md_clear_76 : decode b_Md_clear 76 = .ok (.getfield 26, 3) := by decide +kernel
theorem d_Md_clear_79 : decode b_Md_clear 79 = .ok (.iload 5, 2) := by decide +kernel
theorem d_Md_clear_81 : decode b_Md_clear 81 = .ok (.dup2, 1) := by decide +kernel
theorem d_Md_clear_82 : decode b_Md_clear 82 = .ok (.laload, 1) := by decide +kernel
theorem d_Md_clear_83 : decode b_Md_clear 83 = .ok (.lload_n 2, 1) := by decide +kernel
theorem d_Md_clear_84 : decode b_Md_clear 84 = .ok (.lsub, 1) := by decide +kernel
theorem d_Md_clear_85 : decode b_Md_clear 85 = .ok (.lastore, 1) := by decide +kernel
theorem d_Md_clear_86 : decode b_Md_clear 86 = .ok (.aload_n 0, 1) := by decide +kernel
theorem d_Md_clear_87 : decode b_Md_clear 87 = .ok (.getfield 29, 3) := by decide +kernel
theorem d_Md_clear_90 : decode b_Md_clear 90 = .ok (.iload 5, 2) := by decide +kernel
theorem d_Md_clear_92 : decode b_Md_clear 92 = .ok (.dup2, 1) := by decide +kernel
theorem d_Md_clear_93 : decode b_Md_clear 93 = .ok (.laload, 1) := by decide +kernel
theorem d_Md_clear_94 : decode b_Md_clear 94 = .ok (.lload_n 2, 1) := by decide +kernel
theorem d_Md_clear_95 : decode b_Md_clear 95 = .ok (.ladd, 1) := by decide +kernel
theorem d_Md_clear_96 : decode b_Md_clear 96 = .ok (.lastore, 1) := by decide +kernel
theorem d_Md_clear_97 : decode b_Md_clear 97 = .ok (.aload_n 0, 1) := by decide +kernel
theorem d_Md_clear_98 : decode b_Md_clear 98 = .ok (.getfield 7, 3) := by decide +kernel
theorem d_Md_clear_101 : decode b_Md_clear 101 = .ok (.aload_n 0, 1) := by decide +kernel
theorem d_Md_clear_102 : decode b_Md_clear 102 = .ok (.getfield 20, 3) := by decide +kernel
theorem d_Md_clear_105 : decode b_Md_clear 105 = .ok (.iload 5, 2) := by decide +kernel
theorem d_Md_clear_107 : decode b_Md_clear 107 = .ok (.iaload, 1) := by decide +kernel
theorem d_Md_clear_108 : decode b_Md_clear 108 = .ok (.dup2, 1) := by decide +kernel
theorem d_Md_clear_109 : decode b_Md_clear 109 = .ok (.laload, 1) := by decide +kernel
theorem d_Md_clear_110 : decode b_Md_clear 110 = .ok (.lload_n 2, 1) := by decide +kernel
theorem d_Md_clear_111 : decode b_Md_clear 111 = .ok (.lsub, 1) := by decide +kernel
theorem d_Md_clear_112 : decode b_Md_clear 112 = .ok (.lastore, 1) := by decide +kernel
theorem d_Md_clear_113 : decode b_Md_clear 113 = .ok (.iload 4, 2) := by decide +kernel
theorem d_Md_clear_115 : decode b_Md_clear 115 = .ok (.ifCond .eq 15, 3) := by decide +kernel
theorem d_Md_clear_118 : decode b_Md_clear 118 = .ok (.aload_n 0, 1) := by decide +kernel
theorem d_Md_clear_119 : decode b_Md_clear 119 = .ok (.getfield 26, 3) := by decide +kernel
theorem d_Md_clear_122 : decode b_Md_clear 122 = .ok (.iload 5, 2) := by decide +kernel
theorem d_Md_clear_124 : decode b_Md_clear 124 = .ok (.laload, 1) := by decide +kernel
theorem d_Md_clear_125 : decode b_Md_clear 125 = .ok (.lconst 0, 1) := by decide +kernel
theorem d_Md_clear_126 : decode b_Md_clear 126 = .ok (.lcmp, 1) := by decide +kernel
theorem d_Md_clear_127 : decode b_Md_clear 127 = .ok (.ifCond .ne 9, 3) := by decide +kernel
theorem d_Md_clear_130 : decode b_Md_clear 130 = .ok (.aload_n 0, 1) := by decide +kernel
theorem d_Md_clear_131 : decode b_Md_clear 131 = .ok (.iload 5, 2) := by decide +kernel
theorem d_Md_clear_133 : decode b_Md_clear 133 = .ok (.invokevirtual 113, 3) := by decide +kernel
theorem d_Md_clear_136 : decode b_Md_clear 136 = .ok (.aload_n 0, 1) := by decide +kernel
theorem d_Md_clear_137 : decode b_Md_clear 137 = .ok (.getfield 26, 3) := by decide +kernel
theorem d_Md_clear_140 : decode b_Md_clear 140 = .ok (.iload 5, 2) := by decide +kernel
theorem d_Md_clear_142 : decode b_Md_clear 142 = .ok (.laload, 1) := by decide +kernel
theorem d_Md_clear_143 : decode b_Md_clear 143 = .ok (.lreturn, 1) := by decide +kernel
theorem d_Md_ends_0 : decode b_Md_ends 0 = .ok (.aload_n 0, 1) := by decide +kernel
theorem d_Md_ends_1 : decode b_Md_ends 1 = .ok (.getfield 29, 3) := by decide +kernel
theorem d_Md_ends_4 : decode b_Md_ends 4 = .ok (.iload_n 1, 1) := by decide +kernel
theorem d_Md_ends_5 : decode b_Md_ends 5 = .ok (.laload, 1) := by decide +kernel
theorem d_Md_ends_6 : decode b_Md_ends 6 = .ok (.lconst 0, 1) := by decide +kernel
theorem d_Md_ends_7 : decode b_Md_ends 7 = .ok (.lcmp, 1) := by decide +kernel
theorem d_Md_ends_8 : decode b_Md_ends 8 = .ok (.ifCond .le 7, 3) := by decide +kernel
theorem d_Md_ends_11 : decode b_Md_ends 11 = .ok (.iconst 1, 1) := by decide +kernel
theorem d_Md_ends_12 : decode b_Md_ends 12 = .ok (.goto 4, 3) := by decide +kernel
theorem d_Md_ends_15 : decode b_Md_ends 15 = .ok (.iconst 0, 1) := by decide +kernel
theorem d_Md_ends_16 : decode b_Md_ends 16 = .ok (.istore_n 2, 1) := by decide +kernel
theorem d_Md_ends_17 : decode b_Md_ends 17 = .ok (.aload_n 0, 1) := by decide +kernel
theorem d_Md_ends_18 : decode b_Md_ends 18 = .ok (.getfield 26, 3) := by decide +kernel
theorem d_Md_ends_21 : decode b_Md_ends 21 = .ok (.iload_n 1, 1) := by decide +kernel
theorem d_Md_ends_22 : decode b_Md_ends 22 = .ok (.lconst 0, 1) := by decide +kernel
theorem d_Md_ends_23 : decode b_Md_ends 23 = .ok (.lastore, 1) := by decide +kernel
theorem d_Md_ends_24 : decode b_Md_ends 24 = .ok (.aload_n 0, 1) := by decide +kernel
theorem d_Md_ends_25 : decode b_Md_ends 25 = .ok (.getfield 32, 3) := by decide +kernel
theorem d_Md_ends_28 : decode b_Md_ends 28 = .ok (.iload_n 1, 1) := by decide +kernel
theorem d_Md_ends_29 : decode b_Md_ends 29 = .ok (.iconst 0, 1) := by decide +kernel
theorem d_Md_ends_30 : decode b_Md_ends 30 = .ok (.iastore, 1) := by decide +kernel
theorem d_Md_ends_31 : decode b_Md_ends 31 = .ok (.aload_n 0, 1) := by decide +kernel
theorem d_Md_ends_32 : decode b_Md_ends 32 = .ok (.getfield 23, 3) := by decide +kernel
theorem d_Md_ends_35 : decode b_Md_ends 35 = .ok (.iload_n 1, 1) := by decide +kernel
theorem d_Md_ends_36 : decode b_Md_ends 36 = .ok (.iload_n 2, 1) := by decide +kernel
theorem d_Md_ends_37 : decode b_Md_ends 37 = .ok (.ifCond .eq 7, 3) := by decide +kernel
theorem d_Md_ends_40 : decode b_Md_ends 40 = .ok (.iconst 3, 1) := by decide +kernel
theorem d_Md_ends_41 : decode b_Md_ends 41 = .ok (.goto 4, 3) := by decide +kernel
theorem d_Md_ends_44 : decode b_Md_ends 44 = .ok (.iconst 2, 1) := by decide +kernel
theorem d_Md_ends_45 : decode b_Md_ends 45 = .ok (.iastore, 1) := by decide +kernel
theorem d_Md_ends_46 : decode b_Md_ends 46 = .ok (.aload_n 0, 1) := by decide +kernel
theorem d_Md_ends_47 : decode b_Md_ends 47 = .ok (.getfield 35, 3) := by decide +kernel
theorem d_Md_ends_50 : decode b_Md_ends 50 = .ok (.iload_n 1, 1) := by decide +kernel
theorem d_Md_ends_51 : decode b_Md_ends 51 = .ok (.iload_n 2, 1) := by decide +kernel
theorem d_Md_ends_52 : decode b_Md_ends 52 = .ok (.ifCond .eq 10, 3) := by decide +kernel
theorem d_Md_ends_55 : decode b_Md_ends 55 = .ok (.aload_n 0, 1) := by decide +kernel
theorem d_Md_ends_56 : decode b_Md_ends 56 = .ok (.getfield 104, 3) := by decide +kernel
theorem d_Md_ends_59 : decode b_Md_ends 59 = .ok (.goto 4, 3) := by decide +kernel
theorem d_Md_ends_62 : decode b_Md_ends 62 = .ok (.iconst (-1), 1) := by decide +kernel
theorem d_Md_ends_63 : decode b_Md_ends 63 = .ok (.iastore, 1) := by decide +kernel
theorem d_Md_ends_64 : decode b_Md_ends 64 = .ok (.return_, 1) := by decide +kernel
theorem d_Md_undo_0 : decode b_Md_undo 0 = .ok (.aload_n 0, 1) := by decide +kernel
theorem d_Md_undo_1 : decode b_Md_undo 1 = .ok (.iload_n 1, 1) := by decide +kernel
theorem d_Md_undo_2 : decode b_Md_undo 2 = .ok (.invokestatic 75, 3) := by decide +kernel
theorem d_Md_undo_5 : decode b_Md_undo 5 = .ok (.ifCond .eq 13, 3) := by decide +kernel
theorem d_Md_undo_8 : decode b_Md_undo 8 = .ok (.lload_n 2, 1) := by decide +kernel
theorem d_Md_undo_9 : decode b_Md_undo 9 = .ok (.lconst 0, 1) := by decide +kernel
theorem d_Md_undo_10 : decode b_Md_undo 10 = .ok (.lcmp, 1) := by decide +kernel
theorem d_Md_undo_11 : decode b_Md_undo 11 = .ok (.ifCond .lt 7, 3) := by decide +kernel
theorem d_Md_undo_14 : decode b_Md_undo 14 = .ok (.iconst 1, 1) := by decide +kernel
theorem d_Md_undo_15 : decode b_Md_undo 15 = .ok (.goto 4, 3) := by decide +kernel
theorem d_Md_undo_18 : decode b_Md_undo 18 = .ok (.iconst 0, 1) := by decide +kernel
theorem d_Md_undo_19 : decode b_Md_undo 19 = .ok (.invokevirtual 83, 3) := by decide +kernel
theorem d_Md_undo_22 : decode b_Md_undo 22 = .ok (.ifCond .ne 5, 3) := by decide +kernel
theorem d_Md_undo_25 : decode b_Md_undo 25 = .ok (.lconst 0, 1) := by decide +kernel
theorem d_Md_undo_26 : decode b_Md_undo 26 = .ok (.lreturn, 1) := by decide +kernel
theorem d_Md_undo_27 : decode b_Md_undo 27 = .ok (.aload_n 0, 1) := by decide +kernel
theorem d_Md_undo_28 : decode b_Md_undo 28 = .ok (.iload_n 1, 1) := by decide +kernel
theorem d_Md_undo_29 : decode b_Md_undo 29 = .ok (.invokevirtual 87, 3) := by decide +kernel
theorem d_Md_undo_32 : decode b_Md_undo 32 = .ok (.istore 5, 2) := by decide +kernel
theorem d_Md_undo_34 : decode b_Md_undo 34 = .ok (.iload 5, 2) := by decide +kernel
theorem d_Md_undo_36 : decode b_Md_undo 36 = .ok (.ifCond .ge 29, 3) := by decide +kernel
theorem d_Md_undo_39 : decode b_Md_undo 39 = .ok (.iload 4, 2) := by decide +kernel
theorem d_Md_undo_41 : decode b_Md_undo 41 = .ok (.ifCond .eq 20, 3) := by decide +kernel
theorem d_Md_undo_44 : decode b_Md_undo 44 = .ok (.aload_n 0, 1) := by decide +kernel
theorem d_Md_undo_45 : decode b_Md_undo 45 = .ok (.getfield 60, 3) := by decide +kernel
theorem d_Md_undo_48 : decode b_Md_undo 48 = .ok (.bipush 60, 2) := by decide +kernel
theorem d_Md_undo_50 : decode b_Md_undo 50 = .ok (.if_icmp .ge 11, 3) := by decide +kernel
theorem d_Md_undo_53 : decode b_Md_undo 53 = .ok (.aload_n 0, 1) := by decide +kernel
theorem d_Md_undo_54 : decode b_Md_undo 54 = .ok (.iload_n 1, 1) := by decide +kernel
theorem d_Md_undo_55 : decode b_Md_undo 55 = .ok (.iconst (-1), 1) := by decide +kernel
theorem d_Md_undo_56 : decode b_Md_undo 56 = .ok (.invokevirtual 100, 3) := by decide +kernel
theorem d_Md_undo_59 : decode b_Md_undo 59 = .ok (.istore 5, 2) := by decide +kernel
theorem d_Md_undo_61 : decode b_Md_undo 61 = .ok (.ldc2_w 107, 3) := by decide +kernel
theorem d_Md_undo_64 : decode b_Md_undo 64 = .ok (.lreturn, 1) := by decide +kernel
theorem d_Md_undo_65 : decode b_Md_undo 65 = .ok (.aload_n 0, 1) := by decide +kernel
theorem d_Md_undo_66 : decode b_Md_undo 66 = .ok (.getfield 23, 3) := by decide +kernel
theorem d_Md_undo_69 : decode b_Md_undo 69 = .ok (.iload 5, 2) := by decide +kernel
theorem d_Md_undo_71 : decode b_Md_undo 71 = .ok (.iaload, 1) := by decide +kernel
theorem d_Md_undo_72 : decode b_Md_undo 72 = .ok (.iconst 3, 1) := by decide +kernel
theorem d_Md_undo_73 : decode b_Md_undo 73 = .ok (.if_icmp .eq 15, 3) := by decide +kernel
theorem d_Md_undo_76 : decode b_Md_undo 76 = .ok (.aload_n 0, 1) := by decide +kernel
theorem d_Md_undo_77 : decode b_Md_undo 77 = .ok (.getfield 29, 3) := by decide +kernel
theorem d_Md_undo_80 : decode b_Md_undo 80 = .ok (.iload 5, 2) := by decide +kernel
theorem d_Md_undo_82 : decode b_Md_undo 82 = .ok (.laload, 1) := by decide +kernel
theorem d_Md_undo_83 : decode b_Md_undo 83 = .ok (.lconst 0, 1) := by decide +kernel
theorem d_Md_undo_84 : decode b_Md_undo 84 = .ok (.lcmp, 1) := by decide +kernel
theorem d_Md_undo_85 : decode b_Md_undo 85 = .ok (.ifCond .le 7, 3) := by decide +kernel
theorem d_Md_undo_88 : decode b_Md_undo 88 = .ok (.ldc2_w 109, 3) := by decide +kernel
theorem d_Md_undo_91 : decode b_Md_undo 91 = .ok (.lreturn, 1) := by decide +kernel
theorem d_Md_undo_92 : decode b_Md_undo 92 = .ok (.aload_n 0, 1) := by decide +kernel
theorem d_Md_undo_93 : decode b_Md_undo 93 = .ok (.getfield 23, 3) := by decide +kernel
theorem d_Md_undo_96 : decode b_Md_undo 96 = .ok (.iload 5, 2) := by decide +kernel
theorem d_Md_undo_98 : decode b_Md_undo 98 = .ok (.iaload, 1) := by decide +kernel
theorem d_Md_undo_99 : decode b_Md_undo 99 = .ok (.iconst 1, 1) := by decide +kernel
theorem d_Md_undo_100 : decode b_Md_undo 100 = .ok (.if_icmp .ne 38, 3) := by decide +kernel
theorem d_Md_undo_103 : decode b_Md_undo 103 = .ok (.lload_n 2, 1) := by decide +kernel
theorem d_Md_undo_104 : decode b_Md_undo 104 = .ok (.lconst 0, 1) := by decide +kernel
theorem d_Md_undo_105 : decode b_Md_undo 105 = .ok (.lcmp, 1) := by decide +kernel
theorem d_Md_undo_106 : decode b_Md_undo 106 = .ok (.ifCond .le 26, 3) := by decide +kernel
theorem d_Md_undo_109 : decode b_Md_undo 109 = .ok (.lload_n 2, 1) := by decide +kernel
theorem d_Md_undo_110 : decode b_Md_undo 110 = .ok (.aload_n 0, 1) := by decide +kernel
theorem d_Md_undo_111 : decode b_Md_undo 111 = .ok (.getfield 26, 3) := by decide +kernel
theorem d_Md_undo_114 : decode b_Md_undo 114 = .ok (.iload 5, 2) := by decide +kernel
theorem d_Md_undo_116 : decode b_Md_undo 116 = .ok (.laload, 1) := by decide +kernel
theorem d_Md_undo_117 : decode b_Md_undo 117 = .ok (.lcmp, 1) := by decide +kernel
theorem d_Md_undo_118 : decode b_Md_undo 118 = .ok (.ifCond .ge 14, 3) := by decide +kernel
theorem d_Md_undo_121 : decode b_Md_undo 121 = .ok (.aload_n 0, 1) := by decide +kernel
theorem d_Md_undo_122 : decode b_Md_undo 122 = .ok (.getfield 26, 3) := by decide +kernel
theorem d_Md_undo_125 : decode b_Md_undo 125 = .ok (.iload 5, 2) := by decide +kernel
theorem d_Md_undo_127 : decode b_Md_undo 127 = .ok (.lload_n 2, 1) := by decide +kernel
theorem d_Md_undo_128 : decode b_Md_undo 128 = .ok (.lastore, 1) := by decide +kernel
theorem d_Md_undo_129 : decode b_Md_undo 129 = .ok (.goto 9, 3) := by decide +kernel
theorem d_Md_undo_132 : decode b_Md_undo 132 = .ok (.aload_n 0, 1) := by decide +kernel
theorem d_Md_undo_133 : decode b_Md_undo 133 = .ok (.iload 5, 2) := by decide +kernel
theorem d_Md_undo_135 : decode b_Md_undo 135 = .ok (.invokevirtual 113, 3) := by decide +kernel
theorem d_Md_undo_138 : decode b_Md_undo 138 = .ok (.aload_n 0, 1) := by decide +kernel
theorem d_Md_undo_139 : decode b_Md_undo 139 = .ok (.getfield 26, 3) := by decide +kernel
theorem d_Md_undo_142 : decode b_Md_undo 142 = .ok (.iload 5, 2) := by decide +kernel
theorem d_Md_undo_144 : decode b_Md_undo 144 = .ok (.laload, 1) := by decide +kernel
theorem d_Md_undo_145 : decode b_Md_undo 145 = .ok (.lreturn, 1) := by decide +kernel
theorem d_Md_ticks_0 : decode b_Md_ticks 0 = .ok (.iload_n 1, 1) := by decide +kernel
theorem d_Md_ticks_1 : decode b_Md_ticks 1 = .ok (.iconst 1, 1) := by decide +kernel
theorem d_Md_ticks_2 : decode b_Md_ticks 2 = .ok (.if_icmp .lt 14, 3) := by decide +kernel
theorem d_Md_ticks_5 : decode b_Md_ticks 5 = .ok (.iload_n 1, 1) := by decide +kernel
theorem d_Md_ticks_6 : decode b_Md_ticks 6 = .ok (.sipush 1000, 3) := by decide +kernel
theorem d_Md_ticks_9 : decode b_Md_ticks 9 = .ok (.if_icmp .gt 7, 3) := by decide +kernel
theorem d_Md_ticks_12 : decode b_Md_ticks 12 = .ok (.iconst 1, 1) := by decide +kernel
theorem d_Md_ticks_13 : decode b_Md_ticks 13 = .ok (.goto 4, 3) := by decide +kernel
theorem d_Md_ticks_16 : decode b_Md_ticks 16 = .ok (.iconst 0, 1) := by decide +kernel
theorem d_Md_ticks_17 : decode b_Md_ticks 17 = .ok (.istore_n 2, 1) := by decide +kernel
theorem d_Md_ticks_18 : decode b_Md_ticks 18 = .ok (.aload_n 0, 1) := by decide +kernel
theorem d_Md_ticks_19 : decode b_Md_ticks 19 = .ok (.iload_n 2, 1) := by decide +kernel
theorem d_Md_ticks_20 : decode b_Md_ticks 20 = .ok (.ifCond .ne 7, 3) := by decide +kernel
theorem d_Md_ticks_23 : decode b_Md_ticks 23 = .ok (.iconst 1, 1) := by decide +kernel
theorem d_Md_ticks_24 : decode b_Md_ticks 24 = .ok (.goto 19, 3) := by decide +kernel
theorem d_Md_ticks_27 : decode b_Md_ticks 27 = .ok (.aload_n 0, 1) := by decide +kernel
theorem d_Md_ticks_28 : decode b_Md_ticks 28 = .ok (.getfield 104, 3) := by decide +kernel
theorem d_Md_ticks_31 : decode b_Md_ticks 31 = .ok (.iload_n 1, 1) := by decide +kernel
theorem d_Md_ticks_32 : decode b_Md_ticks 32 = .ok (.iadd, 1) := by decide +kernel
theorem d_Md_ticks_33 : decode b_Md_ticks 33 = .ok (.ldc 57, 2) := by decide +kernel
theorem d_Md_ticks_35 : decode b_Md_ticks 35 = .ok (.if_icmp .le 7, 3) := by decide +kernel
theorem d_Md_ticks_38 : decode b_Md_ticks 38 = .ok (.iconst 2, 1) := by decide +kernel
theorem d_Md_ticks_39 : decode b_Md_ticks 39 = .ok (.goto 4, 3) := by decide +kernel
theorem d_Md_ticks_42 : decode b_Md_ticks 42 = .ok (.iconst 0, 1) := by decide +kernel
theorem d_Md_ticks_43 : decode b_Md_ticks 43 = .ok (.putfield 54, 3) := by decide +kernel
theorem d_Md_ticks_46 : decode b_Md_ticks 46 = .ok (.aload_n 0, 1) := by decide +kernel
theorem d_Md_ticks_47 : decode b_Md_ticks 47 = .ok (.getfield 54, 3) := by decide +kernel
theorem d_Md_ticks_50 : decode b_Md_ticks 50 = .ok (.ifCond .le 5, 3) := by decide +kernel
theorem d_Md_ticks_53 : decode b_Md_ticks 53 = .ok (.iconst 0, 1) := by decide +kernel
theorem d_Md_ticks_54 : decode b_Md_ticks 54 = .ok (.ireturn, 1) := by decide +kernel
theorem d_Md_ticks_55 : decode b_Md_ticks 55 = .ok (.iconst 0, 1) := by decide +kernel
theorem d_Md_ticks_56 : decode b_Md_ticks 56 = .ok (.istore_n 3, 1) := by decide +kernel
theorem d_Md_ticks_57 : decode b_Md_ticks 57 = .ok (.iload_n 3, 1) := by decide +kernel
theorem d_Md_ticks_58 : decode b_Md_ticks 58 = .ok (.iload_n 1, 1) := by decide +kernel
theorem d_Md_ticks_59 : decode b_Md_ticks 59 = .ok (.if_icmp .ge 126, 3) := by decide +kernel
theorem d_Md_ticks_62 : decode b_Md_ticks 62 = .ok (.aload_n 0, 1) := by decide +kernel
theorem d_Md_ticks_63 : decode b_Md_ticks 63 = .ok (.dup, 1) := by decide +kernel
theorem d_Md_ticks_64 : decode b_Md_ticks 64 = .ok (.getfield 104, 3) := by decide +kernel
theorem d_Md_ticks_67 : decode b_Md_ticks 67 = .ok (.iconst 1, 1) := by decide +kernel
theorem d_Md_ticks_68 : decode b_Md_ticks 68 = .ok (.iadd, 1) := by decide +kernel
theorem d_Md_ticks_69 : decode b_Md_ticks 69 = .ok (.putfield 104, 3) := by decide +kernel
theorem d_Md_ticks_72 : decode b_Md_ticks 72 = .ok (.iconst 0, 1) := by decide +kernel
theorem d_Md_ticks_73 : decode b_Md_ticks 73 = .ok (.istore 4, 2) := by decide +kernel
theorem d_Md_ticks_75 : decode b_Md_ticks 75 = .ok (.iload 4, 2) := by decide +kernel
theorem d_Md_ticks_77 : decode b_Md_ticks 77 = .ok (.aload_n 0, 1) := by decide +kernel
theorem d_Md_ticks_78 : decode b_Md_ticks 78 = .ok (.getfield 60, 3) := by decide +kernel
theorem d_Md_ticks_81 : decode b_Md_ticks 81 = .ok (.if_icmp .ge 98, 3) := by decide +kernel
theorem d_Md_ticks_84 : decode b_Md_ticks 84 = .ok (.aload_n 0, 1) := by decide +kernel
theorem d_Md_ticks_85 : decode b_Md_ticks 85 = .ok (.getfield 23, 3) := by decide +kernel
theorem d_Md_ticks_88 : decode b_Md_ticks 88 = .ok (.iload 4, 2) := by decide +kernel
theorem d_Md_ticks_90 : decode b_Md_ticks 90 = .ok (.iaload, 1) := by decide +kernel
theorem d_Md_ticks_91 : decode b_Md_ticks 91 = .ok (.iconst 1, 1) := by decide +kernel
theorem d_Md_ticks_92 : decode b_Md_ticks 92 = .ok (.if_icmp .ne 23, 3) := by decide +kernel
theorem d_Md_ticks_95 : decode b_Md_ticks 95 = .ok (.aload_n 0, 1) := by decide +kernel
theorem d_Md_ticks_96 : decode b_Md_ticks 96 = .ok (.getfield 32, 3) := by decide +kernel
theorem d_Md_ticks_99 : decode b_Md_ticks 99 = .ok (.iload 4, 2) := by decide +kernel
theorem d_Md_ticks_101 : decode b_Md_ticks 101 = .ok (.iaload, 1) := by decide +kernel
theorem d_Md_ticks_102 : decode b_Md_ticks 102 = .ok (.aload_n 0, 1) := by decide +kernel
theorem d_Md_ticks_103 : decode b_Md_ticks 103 = .ok (.getfield 104, 3) := by decide +kernel
theorem d_Md_ticks_106 : decode b_Md_ticks 106 = .ok (.if_icmp .gt 9, 3) := by decide +kernel
theorem d_Md_ticks_109 : decode b_Md_ticks 109 = .ok (.aload_n 0, 1) := by decide +kernel
theorem d_Md_ticks_110 : decode b_Md_ticks 110 = .ok (.iload 4, 2) := by decide +kernel
theorem d_Md_ticks_112 : decode b_Md_ticks 112 = .ok (.invokevirtual 113, 3) := by decide +kernel
theorem d_Md_ticks_115 : decode b_Md_ticks 115 = .ok (.aload_n 0, 1) := by decide +kernel
theorem d_Md_ticks_116 : decode b_Md_ticks 116 = .ok (.getfield 38, 3) := by decide +kernel
theorem d_Md_ticks_119 : decode b_Md_ticks 119 = .ok (.iload 4, 2) := by decide +kernel
theorem d_Md_ticks_121 : decode b_Md_ticks 121 = .ok (.iaload, 1) := by decide +kernel
theorem d_Md_ticks_122 : decode b_Md_ticks 122 = .ok (.iconst 1, 1) := by decide +kernel
theorem d_Md_ticks_123 : decode b_Md_ticks 123 = .ok (.if_icmp .eq 14, 3) := by decide +kernel
theorem d_Md_ticks_126 : decode b_Md_ticks 126 = .ok (.aload_n 0, 1) := by decide +kernel
theorem d_Md_ticks_127 : decode b_Md_ticks 127 = .ok (.getfield 38, 3) := by decide +kernel
theorem d_Md_ticks_130 : decode b_Md_ticks 130 = .ok (.iload 4, 2) := by decide +kernel
theorem d_Md_ticks_132 : decode b_Md_ticks 132 = .ok (.iaload, 1) := by decide +kernel
theorem d_Md_ticks_133 : decode b_Md_ticks 133 = .ok (.iconst 2, 1) := by decide +kernel
theorem d_Md_ticks_134 : decode b_Md_ticks 134 = .ok (.if_icmp .ne 39, 3) := by decide +kernel
theorem d_Md_ticks_137 : decode b_Md_ticks 137 = .ok (.aload_n 0, 1) := by decide +kernel
theorem d_Md_ticks_138 : decode b_Md_ticks 138 = .ok (.getfield 44, 3) := by decide +kernel
theorem d_Md_ticks_141 : decode b_Md_ticks 141 = .ok (.iload 4, 2) := by decide +kernel
theorem d_Md_ticks_143 : decode b_Md_ticks 143 = .ok (.iaload, 1) := by decide +kernel
theorem d_Md_ticks_144 : decode b_Md_ticks 144 = .ok (.aload_n 0, 1) := by decide +kernel
theorem d_Md_ticks_145 : decode b_Md_ticks 145 = .ok (.getfield 104, 3) := by decide +kernel
theorem d_Md_ticks_148 : decode b_Md_ticks 148 = .ok (.if_icmp .ge 25, 3) := by decide +kernel
theorem d_Md_ticks_151 : decode b_Md_ticks 151 = .ok (.aload_n 0, 1) := by decide +kernel
theorem d_Md_ticks_152 : decode b_Md_ticks 152 = .ok (.iload 4, 2) := by decide +kernel
theorem d_Md_ticks_154 : decode b_Md_ticks 154 = .ok (.aload_n 0, 1) := by decide +kernel
theorem d_Md_ticks_155 : decode b_Md_ticks 155 = .ok (.getfield 38, 3) := by decide +kernel
theorem d_Md_ticks_158 : decode b_Md_ticks 158 = .ok (.iload 4, 2) := by decide +kernel
theorem d_Md_ticks_160 : decode b_Md_ticks 160 = .ok (.iaload, 1) := by decide +kernel
theorem d_Md_ticks_161 : decode b_Md_ticks 161 = .ok (.iconst 1, 1) := by decide +kernel
theorem d_Md_ticks_162 : decode b_Md_ticks 162 = .ok (.if_icmp .ne 7, 3) := by decide +kernel
theorem d_Md_ticks_165 : decode b_Md_ticks 165 = .ok (.iconst 1, 1) := by decide +kernel
theorem d_Md_ticks_166 : decode b_Md_ticks 166 = .ok (.goto 4, 3) := by decide +kernel
theorem d_Md_ticks_169 : decode b_Md_ticks 169 = .ok (.iconst 0, 1) := by decide +kernel
theorem d_Md_ticks_170 : decode b_Md_ticks 170 = .ok (.invokevirtual 117, 3) := by decide +kernel
theorem d_Md_ticks_173 : decode b_Md_ticks 173 = .ok (.iinc 4 1, 3) := by decide +kernel
theorem d_Md_ticks_176 : decode b_Md_ticks 176 = .ok (.goto (-101), 3) := by decide +kernel
theorem d_Md_ticks_179 : decode b_Md_ticks 179 = .ok (.iinc 3 1, 3) := by decide +kernel
theorem d_Md_ticks_182 : decode b_Md_ticks 182 = .ok (.goto (-125), 3) := by decide +kernel
theorem d_Md_ticks_185 : decode b_Md_ticks 185 = .ok (.aload_n 0, 1) := by decide +kernel
theorem d_Md_ticks_186 : decode b_Md_ticks 186 = .ok (.getfield 104, 3) := by decide +kernel
theorem d_Md_ticks_189 : decode b_Md_ticks 189 = .ok (.ireturn, 1) := by decide +kernel
theorem d_Md_closes_0 : decode b_Md_closes 0 = .ok (.aload_n 0, 1) := by decide +kernel
theorem d_Md_closes_1 : decode b_Md_closes 1 = .ok (.getfield 7, 3) := by decide +kernel
theorem d_Md_closes_4 : decode b_Md_closes 4 = .ok (.aload_n 0, 1) := by decide +kernel
theorem d_Md_closes_5 : decode b_Md_closes 5 = .ok (.getfield 20, 3) := by decide +kernel
theorem d_Md_closes_8 : decode b_Md_closes 8 = .ok (.iload_n 1, 1) := by decide +kernel
theorem d_Md_closes_9 : decode b_Md_closes 9 = .ok (.iaload, 1) := by decide +kernel
theorem d_Md_closes_10 : decode b_Md_closes 10 = .ok (.dup2, 1) := by decide +kernel
theorem d_Md_closes_11 : decode b_Md_closes 11 = .ok (.laload, 1) := by decide +kernel
theorem d_Md_closes_12 : decode b_Md_closes 12 = .ok (.iload_n 2, 1) := by decide +kernel
theorem d_Md_closes_13 : decode b_Md_closes 13 = .ok (.ifCond .eq 7, 3) := by decide +kernel
theorem d_Md_closes_16 : decode b_Md_closes 16 = .ok (.lconst 0, 1) := by decide +kernel
theorem d_Md_closes_17 : decode b_Md_closes 17 = .ok (.goto 9, 3) := by decide +kernel
theorem d_Md_closes_20 : decode b_Md_closes 20 = .ok (.aload_n 0, 1) := by decide +kernel
theorem d_Md_closes_21 : decode b_Md_closes 21 = .ok (.getfield 41, 3) := by decide +kernel
theorem d_Md_closes_24 : decode b_Md_closes 24 = .ok (.iload_n 1, 1) := by decide +kernel
theorem d_Md_closes_25 : decode b_Md_closes 25 = .ok (.laload, 1) := by decide +kernel
theorem d_Md_closes_26 : decode b_Md_closes 26 = .ok (.lsub, 1) := by decide +kernel
theorem d_Md_closes_27 : decode b_Md_closes 27 = .ok (.lastore, 1) := by decide +kernel
theorem d_Md_closes_28 : decode b_Md_closes 28 = .ok (.aload_n 0, 1) := by decide +kernel
theorem d_Md_closes_29 : decode b_Md_closes 29 = .ok (.getfield 38, 3) := by decide +kernel
theorem d_Md_closes_32 : decode b_Md_closes 32 = .ok (.iload_n 1, 1) := by decide +kernel
theorem d_Md_closes_33 : decode b_Md_closes 33 = .ok (.iload_n 2, 1) := by decide +kernel
theorem d_Md_closes_34 : decode b_Md_closes 34 = .ok (.ifCond .eq 7, 3) := by decide +kernel
theorem d_Md_closes_37 : decode b_Md_closes 37 = .ok (.iconst 3, 1) := by decide +kernel
theorem d_Md_closes_38 : decode b_Md_closes 38 = .ok (.goto 4, 3) := by decide +kernel
theorem d_Md_closes_41 : decode b_Md_closes 41 = .ok (.iconst 4, 1) := by decide +kernel
theorem d_Md_closes_42 : decode b_Md_closes 42 = .ok (.iastore, 1) := by decide +kernel
theorem d_Md_closes_43 : decode b_Md_closes 43 = .ok (.aload_n 0, 1) := by decide +kernel
theorem d_Md_closes_44 : decode b_Md_closes 44 = .ok (.getfield 44, 3) := by decide +kernel
theorem d_Md_closes_47 : decode b_Md_closes 47 = .ok (.iload_n 1, 1) := by decide +kernel
theorem d_Md_closes_48 : decode b_Md_closes 48 = .ok (.iconst (-1), 1) := by decide +kernel
theorem d_Md_closes_49 : decode b_Md_closes 49 = .ok (.iastore, 1) := by decide +kernel
theorem d_Md_closes_50 : decode b_Md_closes 50 = .ok (.return_, 1) := by decide +kernel
theorem d_Md_charge_0 : decode b_Md_charge 0 = .ok (.aload_n 0, 1) := by decide +kernel
theorem d_Md_charge_1 : decode b_Md_charge 1 = .ok (.iload_n 1, 1) := by decide +kernel
theorem d_Md_charge_2 : decode b_Md_charge 2 = .ok (.invokestatic 75, 3) := by decide +kernel
theorem d_Md_charge_5 : decode b_Md_charge 5 = .ok (.ifCond .eq 13, 3) := by decide +kernel
theorem d_Md_charge_8 : decode b_Md_charge 8 = .ok (.lload_n 2, 1) := by decide +kernel
theorem d_Md_charge_9 : decode b_Md_charge 9 = .ok (.lconst 1, 1) := by decide +kernel
theorem d_Md_charge_10 : decode b_Md_charge 10 = .ok (.lcmp, 1) := by decide +kernel
theorem d_Md_charge_11 : decode b_Md_charge 11 = .ok (.ifCond .lt 7, 3) := by decide +kernel
theorem d_Md_charge_14 : decode b_Md_charge 14 = .ok (.iconst 1, 1) := by decide +kernel
theorem d_Md_charge_15 : decode b_Md_charge 15 = .ok (.goto 4, 3) := by decide +kernel
theorem d_Md_charge_18 : decode b_Md_charge 18 = .ok (.iconst 0, 1) := by decide +kernel
theorem d_Md_charge_19 : decode b_Md_charge 19 = .ok (.invokevirtual 83, 3) := by decide +kernel
theorem d_Md_charge_22 : decode b_Md_charge 22 = .ok (.ifCond .ne 5, 3) := by decide +kernel
theorem d_Md_charge_25 : decode b_Md_charge 25 = .ok (.iconst 0, 1) := by decide +kernel
theorem d_Md_charge_26 : decode b_Md_charge 26 = .ok (.ireturn, 1) := by decide +kernel
theorem d_Md_charge_27 : decode b_Md_charge 27 = .ok (.aload_n 0, 1) := by decide +kernel
theorem d_Md_charge_28 : decode b_Md_charge 28 = .ok (.iload_n 1, 1) := by decide +kernel
theorem d_Md_charge_29 : decode b_Md_charge 29 = .ok (.invokevirtual 87, 3) := by decide +kernel
theorem d_Md_charge_32 : decode b_Md_charge 32 = .ok (.istore 4, 2) := by decide +kernel
theorem d_Md_charge_34 : decode b_Md_charge 34 = .ok (.iload 4, 2) := by decide +kernel
theorem d_Md_charge_36 : decode b_Md_charge 36 = .ok (.ifCond .ge 6, 3) := by decide +kernel
theorem d_Md_charge_39 : decode b_Md_charge 39 = .ok (.bipush (-6), 2) := by decide +kernel
theorem d_Md_charge_41 : decode b_Md_charge 41 = .ok (.ireturn, 1) := by decide +kernel
theorem d_Md_charge_42 : decode b_Md_charge 42 = .ok (.aload_n 0, 1) := by decide +kernel
theorem d_Md_charge_43 : decode b_Md_charge 43 = .ok (.getfield 23, 3) := by decide +kernel
theorem d_Md_charge_46 : decode b_Md_charge 46 = .ok (.iload 4, 2) := by decide +kernel
theorem d_Md_charge_48 : decode b_Md_charge 48 = .ok (.iaload, 1) := by decide +kernel
theorem d_Md_charge_49 : decode b_Md_charge 49 = .ok (.iconst 3, 1) := by decide +kernel
theorem d_Md_charge_50 : decode b_Md_charge 50 = .ok (.if_icmp .ne 13, 3) := by decide +kernel
theorem d_Md_charge_53 : decode b_Md_charge 53 = .ok (.aload_n 0, 1) := by decide +kernel
theorem d_Md_charge_54 : decode b_Md_charge 54 = .ok (.getfield 38, 3) := by decide +kernel
theorem d_Md_charge_57 : decode b_Md_charge 57 = .ok (.iload 4, 2) := by decide +kernel
theorem d_Md_charge_59 : decode b_Md_charge 59 = .ok (.iaload, 1) := by decide +kernel
theorem d_Md_charge_60 : decode b_Md_charge 60 = .ok (.ifCond .eq 6, 3) := by decide +kernel
theorem d_Md_charge_63 : decode b_Md_charge 63 = .ok (.bipush (-9), 2) := by decide +kernel
theorem d_Md_charge_65 : decode b_Md_charge 65 = .ok (.ireturn, 1) := by decide +kernel
theorem d_Md_charge_66 : decode b_Md_charge 66 = .ok (.aload_n 0, 1) := by decide +kernel
theorem d_Md_charge_67 : decode b_Md_charge 67 = .ok (.getfield 104, 3) := by decide +kernel
theorem d_Md_charge_70 : decode b_Md_charge 70 = .ok (.aload_n 0, 1) := by decide +kernel
theorem d_Md_charge_71 : decode b_Md_charge 71 = .ok (.getfield 35, 3) := by decide +kernel
theorem d_Md_charge_74 : decode b_Md_charge 74 = .ok (.iload 4, 2) := by decide +kernel
theorem d_Md_charge_76 : decode b_Md_charge 76 = .ok (.iaload, 1) := by decide +kernel
theorem d_Md_charge_77 : decode b_Md_charge 77 = .ok (.aload_n 0, 1) := by decide +kernel
theorem d_Md_charge_78 : decode b_Md_charge 78 = .ok (.getfield 51, 3) := by decide +kernel
theorem d_Md_charge_81 : decode b_Md_charge 81 = .ok (.iadd, 1) := by decide +kernel
theorem d_Md_charge_82 : decode b_Md_charge 82 = .ok (.if_icmp .le 6, 3) := by decide +kernel
theorem d_Md_charge_85 : decode b_Md_charge 85 = .ok (.bipush (-10), 2) := by decide +kernel
theorem d_Md_charge_87 : decode b_Md_charge 87 = .ok (.ireturn, 1) := by decide +kernel
theorem d_Md_charge_88 : decode b_Md_charge 88 = .ok (.lload_n 2, 1) := by decide +kernel
theorem d_Md_charge_89 : decode b_Md_charge 89 = .ok (.aload_n 0, 1) := by decide +kernel
theorem d_Md_charge_90 : decode b_Md_charge 90 = .ok (.getfield 29, 3) := by decide +kernel
theorem d_Md_charge_93 : decode b_Md_charge 93 = .ok (.iload 4, 2) := by decide +kernel
theorem d_Md_charge_95 : decode b_Md_charge 95 = .ok (.laload, 1) := by decide +kernel
theorem d_Md_charge_96 : decode b_Md_charge 96 = .ok (.lcmp, 1) := by decide +kernel
theorem d_Md_charge_97 : decode b_Md_charge 97 = .ok (.ifCond .le 6, 3) := by decide +kernel
theorem d_Md_charge_100 : decode b_Md_charge 100 = .ok (.bipush (-11), 2) := by decide +kernel
theorem d_Md_charge_102 : decode b_Md_charge 102 = .ok (.ireturn, 1) := by decide +kernel
theorem d_Md_charge_103 : decode b_Md_charge 103 = .ok (.aload_n 0, 1) := by decide +kernel
theorem d_Md_charge_104 : decode b_Md_charge 104 = .ok (.getfield 38, 3) := by decide +kernel
theorem d_Md_charge_107 : decode b_Md_charge 107 = .ok (.iload 4, 2) := by decide +kernel
theorem d_Md_charge_109 : decode b_Md_charge 109 = .ok (.iconst 1, 1) := by decide +kernel
theorem d_Md_charge_110 : decode b_Md_charge 110 = .ok (.iastore, 1) := by decide +kernel
theorem d_Md_charge_111 : decode b_Md_charge 111 = .ok (.aload_n 0, 1) := by decide +kernel
theorem d_Md_charge_112 : decode b_Md_charge 112 = .ok (.getfield 41, 3) := by decide +kernel
theorem d_Md_charge_115 : decode b_Md_charge 115 = .ok (.iload 4, 2) := by decide +kernel
theorem d_Md_charge_117 : decode b_Md_charge 117 = .ok (.lload_n 2, 1) := by decide +kernel
theorem d_Md_charge_118 : decode b_Md_charge 118 = .ok (.lastore, 1) := by decide +kernel
theorem d_Md_charge_119 : decode b_Md_charge 119 = .ok (.aload_n 0, 1) := by decide +kernel
theorem d_Md_charge_120 : decode b_Md_charge 120 = .ok (.getfield 44, 3) := by decide +kernel
theorem d_Md_charge_123 : decode b_Md_charge 123 = .ok (.iload 4, 2) := by decide +kernel
theorem d_Md_charge_125 : decode b_Md_charge 125 = .ok (.aload_n 0, 1) := by decide +kernel
theorem d_Md_charge_126 : decode b_Md_charge 126 = .ok (.getfield 104, 3) := by decide +kernel
theorem d_Md_charge_129 : decode b_Md_charge 129 = .ok (.aload_n 0, 1) := by decide +kernel
theorem d_Md_charge_130 : decode b_Md_charge 130 = .ok (.getfield 51, 3) := by decide +kernel
theorem d_Md_charge_133 : decode b_Md_charge 133 = .ok (.iadd, 1) := by decide +kernel
theorem d_Md_charge_134 : decode b_Md_charge 134 = .ok (.iastore, 1) := by decide +kernel
theorem d_Md_charge_135 : decode b_Md_charge 135 = .ok (.aload_n 0, 1) := by decide +kernel
theorem d_Md_charge_136 : decode b_Md_charge 136 = .ok (.getfield 7, 3) := by decide +kernel
theorem d_Md_charge_139 : decode b_Md_charge 139 = .ok (.aload_n 0, 1) := by decide +kernel
theorem d_Md_charge_140 : decode b_Md_charge 140 = .ok (.getfield 20, 3) := by decide +kernel
theorem d_Md_charge_143 : decode b_Md_charge 143 = .ok (.iload 4, 2) := by decide +kernel
theorem d_Md_charge_145 : decode b_Md_charge 145 = .ok (.iaload, 1) := by decide +kernel
theorem d_Md_charge_146 : decode b_Md_charge 146 = .ok (.dup2, 1) := by decide +kernel
theorem d_Md_charge_147 : decode b_Md_charge 147 = .ok (.laload, 1) := by decide +kernel
theorem d_Md_charge_148 : decode b_Md_charge 148 = .ok (.lload_n 2, 1) := by decide +kernel
theorem d_Md_charge_149 : decode b_Md_charge 149 = .ok (.ladd, 1) := by decide +kernel
theorem d_Md_charge_150 : decode b_Md_charge 150 = .ok (.lastore, 1) := by decide +kernel
theorem d_Md_charge_151 : decode b_Md_charge 151 = .ok (.iconst 1, 1) := by decide +kernel
theorem d_Md_charge_152 : decode b_Md_charge 152 = .ok (.ireturn, 1) := by decide +kernel
theorem d_Md_represent_0 : decode b_Md_represent 0 = .ok (.aload_n 0, 1) := by decide +kernel
theorem d_Md_represent_1 : decode b_Md_represent 1 = .ok (.iload_n 1, 1) := by decide +kernel
theorem d_Md_represent_2 : decode b_Md_represent 2 = .ok (.invokestatic 75, 3) := by decide +kernel
theorem d_Md_represent_5 : decode b_Md_represent 5 = .ok (.invokevirtual 83, 3) := by decide +kernel
theorem d_Md_represent_8 : decode b_Md_represent 8 = .ok (.ifCond .ne 5, 3) := by decide +kernel
theorem d_Md_represent_11 : decode b_Md_represent 11 = .ok (.iconst 0, 1) := by decide +kernel
theorem d_Md_represent_12 : decode b_Md_represent 12 = .ok (.ireturn, 1) := by decide +kernel
theorem d_Md_represent_13 : decode b_Md_represent 13 = .ok (.aload_n 0, 1) := by decide +kernel
theorem d_Md_represent_14 : decode b_Md_represent 14 = .ok (.iload_n 1, 1) := by decide +kernel
theorem d_Md_represent_15 : decode b_Md_represent 15 = .ok (.invokevirtual 87, 3) := by decide +kernel
theorem d_Md_represent_18 : decode b_Md_represent 18 = .ok (.istore_n 2, 1) := by decide +kernel
theorem d_Md_represent_19 : decode b_Md_represent 19 = .ok (.iload_n 2, 1) := by decide +kernel
theorem d_Md_represent_20 : decode b_Md_represent 20 = .ok (.ifCond .lt 13, 3) := by decide +kernel
theorem d_Md_represent_23 : decode b_Md_represent 23 = .ok (.aload_n 0, 1) := by decide +kernel
theorem d_Md_represent_24 : decode b_Md_represent 24 = .ok (.getfield 38, 3) := by decide +kernel
theorem d_Md_represent_27 : decode b_Md_represent 27 = .ok (.iload_n 2, 1) := by decide +kernel
theorem d_Md_represent_28 : decode b_Md_represent 28 = .ok (.iaload, 1) := by decide +kernel
theorem d_Md_represent_29 : decode b_Md_represent 29 = .ok (.iconst 1, 1) := by decide +kernel
theorem d_Md_represent_30 : decode b_Md_represent 30 = .ok (.if_icmp .eq 15, 3) := by decide +kernel
theorem d_Md_represent_33 : decode b_Md_represent 33 = .ok (.iload_n 2, 1) := by decide +kernel
theorem d_Md_represent_34 : decode b_Md_represent 34 = .ok (.ifCond .ge 8, 3) := by decide +kernel
theorem d_Md_represent_37 : decode b_Md_represent 37 = .ok (.bipush (-6), 2) := by decide +kernel
theorem d_Md_represent_39 : decode b_Md_represent 39 = .ok (.goto 5, 3) := by decide +kernel
theorem d_Md_represent_42 : decode b_Md_represent 42 = .ok (.bipush (-9), 2) := by decide +kernel
theorem d_Md_represent_44 : decode b_Md_represent 44 = .ok (.ireturn, 1) := by decide +kernel
theorem d_Md_represent_45 : decode b_Md_represent 45 = .ok (.aload_n 0, 1) := by decide +kernel
theorem d_Md_represent_46 : decode b_Md_represent 46 = .ok (.getfield 38, 3) := by decide +kernel
theorem d_Md_represent_49 : decode b_Md_represent 49 = .ok (.iload_n 2, 1) := by decide +kernel
theorem d_Md_represent_50 : decode b_Md_represent 50 = .ok (.iconst 2, 1) := by decide +kernel
theorem d_Md_represent_51 : decode b_Md_represent 51 = .ok (.iastore, 1) := by decide +kernel
theorem d_Md_represent_52 : decode b_Md_represent 52 = .ok (.aload_n 0, 1) := by decide +kernel
theorem d_Md_represent_53 : decode b_Md_represent 53 = .ok (.getfield 44, 3) := by decide +kernel
theorem d_Md_represent_56 : decode b_Md_represent 56 = .ok (.iload_n 2, 1) := by decide +kernel
theorem d_Md_represent_57 : decode b_Md_represent 57 = .ok (.aload_n 0, 1) := by decide +kernel
theorem d_Md_represent_58 : decode b_Md_represent 58 = .ok (.getfield 104, 3) := by decide +kernel
theorem d_Md_represent_61 : decode b_Md_represent 61 = .ok (.aload_n 0, 1) := by decide +kernel
theorem d_Md_represent_62 : decode b_Md_represent 62 = .ok (.getfield 51, 3) := by decide +kernel
theorem d_Md_represent_65 : decode b_Md_represent 65 = .ok (.iadd, 1) := by decide +kernel
theorem d_Md_represent_66 : decode b_Md_represent 66 = .ok (.iastore, 1) := by decide +kernel
theorem d_Md_represent_67 : decode b_Md_represent 67 = .ok (.iconst 1, 1) := by decide +kernel
theorem d_Md_represent_68 : decode b_Md_represent 68 = .ok (.ireturn, 1) := by decide +kernel
theorem d_Md_decide_0 : decode b_Md_decide 0 = .ok (.aload_n 0, 1) := by decide +kernel
theorem d_Md_decide_1 : decode b_Md_decide 1 = .ok (.iload_n 1, 1) := by decide +kernel
theorem d_Md_decide_2 : decode b_Md_decide 2 = .ok (.invokestatic 75, 3) := by decide +kernel
theorem d_Md_decide_5 : decode b_Md_decide 5 = .ok (.invokevirtual 83, 3) := by decide +kernel
theorem d_Md_decide_8 : decode b_Md_decide 8 = .ok (.ifCond .ne 5, 3) := by decide +kernel
theorem d_Md_decide_11 : decode b_Md_decide 11 = .ok (.iconst 0, 1) := by decide +kernel
theorem d_Md_decide_12 : decode b_Md_decide 12 = .ok (.ireturn, 1) := by decide +kernel
theorem d_Md_decide_13 : decode b_Md_decide 13 = .ok (.aload_n 0, 1) := by decide +kernel
theorem d_Md_decide_14 : decode b_Md_decide 14 = .ok (.iload_n 1, 1) := by decide +kernel
theorem d_Md_decide_15 : decode b_Md_decide 15 = .ok (.invokevirtual 87, 3) := by decide +kernel
theorem d_Md_decide_18 : decode b_Md_decide 18 = .ok (.istore_n 3, 1) := by decide +kernel
theorem d_Md_decide_19 : decode b_Md_decide 19 = .ok (.iload_n 3, 1) := by decide +kernel
theorem d_Md_decide_20 : decode b_Md_decide 20 = .ok (.ifCond .lt 13, 3) := by decide +kernel
theorem d_Md_decide_23 : decode b_Md_decide 23 = .ok (.aload_n 0, 1) := by decide +kernel
theorem d_Md_decide_24 : decode b_Md_decide 24 = .ok (.getfield 38, 3) := by decide +kernel
theorem d_Md_decide_27 : decode b_Md_decide 27 = .ok (.iload_n 3, 1) := by decide +kernel
theorem d_Md_decide_28 : decode b_Md_decide 28 = .ok (.iaload, 1) := by decide +kernel
theorem d_Md_decide_29 : decode b_Md_decide 29 = .ok (.iconst 2, 1) := by decide +kernel
theorem d_Md_decide_30 : decode b_Md_decide 30 = .ok (.if_icmp .eq 15, 3) := by decide +kernel
theorem d_Md_decide_33 : decode b_Md_decide 33 = .ok (.iload_n 3, 1) := by decide +kernel
theorem d_Md_decide_34 : decode b_Md_decide 34 = .ok (.ifCond .ge 8, 3) := by decide +kernel
theorem d_Md_decide_37 : decode b_Md_decide 37 = .ok (.bipush (-6), 2) := by decide +kernel
theorem d_Md_decide_39 : decode b_Md_decide 39 = .ok (.goto 5, 3) := by decide +kernel
theorem d_Md_decide_42 : decode b_Md_decide 42 = .ok (.bipush (-9), 2) := by decide +kernel
theorem d_Md_decide_44 : decode b_Md_decide 44 = .ok (.ireturn, 1) := by decide +kernel
theorem d_Md_decide_45 : decode b_Md_decide 45 = .ok (.aload_n 0, 1) := by decide +kernel
theorem d_Md_decide_46 : decode b_Md_decide 46 = .ok (.iload_n 3, 1) := by decide +kernel
theorem d_Md_decide_47 : decode b_Md_decide 47 = .ok (.iload_n 2, 1) := by decide +kernel
theorem d_Md_decide_48 : decode b_Md_decide 48 = .ok (.invokevirtual 117, 3) := by decide +kernel
theorem d_Md_decide_51 : decode b_Md_decide 51 = .ok (.iconst 1, 1) := by decide +kernel
theorem d_Md_decide_52 : decode b_Md_decide 52 = .ok (.ireturn, 1) := by decide +kernel
theorem d_Md_forget_0 : decode b_Md_forget 0 = .ok (.aload_n 0, 1) := by decide +kernel
theorem d_Md_forget_1 : decode b_Md_forget 1 = .ok (.iconst 0, 1) := by decide +kernel
theorem d_Md_forget_2 : decode b_Md_forget 2 = .ok (.putfield 54, 3) := by decide +kernel
theorem d_Md_forget_5 : decode b_Md_forget 5 = .ok (.iconst 0, 1) := by decide +kernel
theorem d_Md_forget_6 : decode b_Md_forget 6 = .ok (.istore_n 1, 1) := by decide +kernel
theorem d_Md_forget_7 : decode b_Md_forget 7 = .ok (.iconst 0, 1) := by decide +kernel
theorem d_Md_forget_8 : decode b_Md_forget 8 = .ok (.istore_n 2, 1) := by decide +kernel
theorem d_Md_forget_9 : decode b_Md_forget 9 = .ok (.iload_n 2, 1) := by decide +kernel
theorem d_Md_forget_10 : decode b_Md_forget 10 = .ok (.aload_n 0, 1) := by decide +kernel
theorem d_Md_forget_11 : decode b_Md_forget 11 = .ok (.getfield 60, 3) := by decide +kernel
theorem d_Md_forget_14 : decode b_Md_forget 14 = .ok (.if_icmp .ge 140, 3) := by decide +kernel
theorem d_Md_forget_17 : decode b_Md_forget 17 = .ok (.aload_n 0, 1) := by decide +kernel
theorem d_Md_forget_18 : decode b_Md_forget 18 = .ok (.iload_n 2, 1) := by decide +kernel
theorem d_Md_forget_19 : decode b_Md_forget 19 = .ok (.invokevirtual 121, 3) := by decide +kernel
theorem d_Md_forget_22 : decode b_Md_forget 22 = .ok (.ifCond .eq 126, 3) := by decide +kernel
theorem d_Md_forget_25 : decode b_Md_forget 25 = .ok (.aload_n 0, 1) := by decide +kernel
theorem d_Md_forget_26 : decode b_Md_forget 26 = .ok (.getfield 16, 3) := by decide +kernel
theorem d_Md_forget_29 : decode b_Md_forget 29 = .ok (.iload_n 1, 1) := by decide +kernel
theorem d_Md_forget_30 : decode b_Md_forget 30 = .ok (.aload_n 0, 1) := by decide +kernel
theorem d_Md_forget_31 : decode b_Md_forget 31 = .ok (.getfield 16, 3) := by decide +kernel
theorem d_Md_forget_34 : decode b_Md_forget 34 = .ok (.iload_n 2, 1) := by decide +kernel
theorem d_Md_forget_35 : decode b_Md_forget 35 = .ok (.iaload, 1) := by decide +kernel
theorem d_Md_forget_36 : decode b_Md_forget 36 = .ok (.iastore, 1) := by decide +kernel
theorem d_Md_forget_37 : decode b_Md_forget 37 = .ok (.aload_n 0, 1) := by decide +kernel
theorem d_Md_forget_38 : decode b_Md_forget 38 = .ok (.getfield 20, 3) := by decide +kernel
theorem d_Md_forget_41 : decode b_Md_forget 41 = .ok (.iload_n 1, 1) := by decide +kernel
theorem d_Md_forget_42 : decode b_Md_forget 42 = .ok (.aload_n 0, 1) := by decide +kernel
theorem d_Md_forget_43 : decode b_Md_forget 43 = .ok (.getfield 20, 3) := by decide +kernel
theorem d_Md_forget_46 : decode b_Md_forget 46 = .ok (.iload_n 2, 1) := by decide +kernel
theorem d_Md_forget_47 : decode b_Md_forget 47 = .ok (.iaload, 1) := by decide +kernel
theorem d_Md_forget_48 : decode b_Md_forget 48 = .ok (.iastore, 1) := by decide +kernel
theorem d_Md_forget_49 : decode b_Md_forget 49 = .ok (.aload_n 0, 1) := by decide +kernel
theorem d_Md_forget_50 : decode b_Md_forget 50 = .ok (.getfield 23, 3) := by decide +kernel
theorem d_Md_forget_53 : decode b_Md_forget 53 = .ok (.iload_n 1, 1) := by decide +kernel
theorem d_Md_forget_54 : decode b_Md_forget 54 = .ok (.aload_n 0, 1) := by decide +kernel
theorem d_Md_forget_55 : decode b_Md_forget 55 = .ok (.getfield 23, 3) := by decide +kernel
theorem d_Md_forget_58 : decode b_Md_forget 58 = .ok (.iload_n 2, 1) := by decide +kernel
theorem d_Md_forget_59 : decode b_Md_forget 59 = .ok (.iaload, 1) := by decide +kernel
theorem d_Md_forget_60 : decode b_Md_forget 60 = .ok (.iastore, 1) := by decide +kernel
theorem d_Md_forget_61 : decode b_Md_forget 61 = .ok (.aload_n 0, 1) := by decide +kernel
theorem d_Md_forget_62 : decode b_Md_forget 62 = .ok (.getfield 26, 3) := by decide +kernel
theorem d_Md_forget_65 : decode b_Md_forget 65 = .ok (.iload_n 1, 1) := by decide +kernel
theorem d_Md_forget_66 : decode b_Md_forget 66 = .ok (.aload_n 0, 1) := by decide +kernel
theorem d_Md_forget_67 : decode b_Md_forget 67 = .ok (.getfield 26, 3) := by decide +kernel
theorem d_Md_forget_70 : decode b_Md_forget 70 = .ok (.iload_n 2, 1) := by decide +kernel
theorem d_Md_forget_71 : decode b_Md_forget 71 = .ok (.laload, 1) := by decide +kernel
theorem d_Md_forget_72 : decode b_Md_forget 72 = .ok (.lastore, 1) := by decide +kernel
theorem d_Md_forget_73 : decode b_Md_forget 73 = .ok (.aload_n 0, 1) := by decide +kernel
theorem d_Md_forget_74 : decode b_Md_forget 74 = .ok (.getfield 29, 3) := by decide +kernel
theorem d_Md_forget_77 : decode b_Md_forget 77 = .ok (.iload_n 1, 1) := by decide +kernel
theorem d_Md_forget_78 : decode b_Md_forget 78 = .ok (.aload_n 0, 1) := by decide +kernel
theorem d_Md_forget_79 : decode b_Md_forget 79 = .ok (.getfield 29, 3) := by decide +kernel
theorem d_Md_forget_82 : decode b_Md_forget 82 = .ok (.iload_n 2, 1) := by decide +kernel
theorem d_Md_forget_83 : decode b_Md_forget 83 = .ok (.laload, 1) := by decide +kernel
theorem d_Md_forget_84 : decode b_Md_forget 84 = .ok (.lastore, 1) := by decide +kernel
theorem d_Md_forget_85 : decode b_Md_forget 85 = .ok (.aload_n 0, 1) := by decide +kernel
theorem d_Md_forget_86 : decode b_Md_forget 86 = .ok (.getfield 32, 3) := by decide +kernel
theorem d_Md_forget_89 : decode b_Md_forget 89 = .ok (.iload_n 1, 1) := by decide +kernel
theorem d_Md_forget_90 : decode b_Md_forget 90 = .ok (.aload_n 0, 1) := by decide +kernel
theorem d_Md_forget_91 : decode b_Md_forget 91 = .ok (.getfield 32, 3) := by decide +kernel
theorem d_Md_forget_94 : decode b_Md_forget 94 = .ok (.iload_n 2, 1) := by decide +kernel
theorem d_Md_forget_95 : decode b_Md_forget 95 = .ok (.iaload, 1) := by decide +kernel
theorem d_Md_forget_96 : decode b_Md_forget 96 = .ok (.iastore, 1) := by decide +kernel
theorem d_Md_forget_97 : decode b_Md_forget 97 = .ok (.aload_n 0, 1) := by decide +kernel
theorem d_Md_forget_98 : decode b_Md_forget 98 = .ok (.getfield 35, 3) := by decide +kernel
theorem d_Md_forget_101 : decode b_Md_forget 101 = .ok (.iload_n 1, 1) := by decide +kernel
theorem d_Md_forget_102 : decode b_Md_forget 102 = .ok (.aload_n 0, 1) := by decide +kernel
theorem d_Md_forget_103 : decode b_Md_forget 103 = .ok (.getfield 35, 3) := by decide +kernel
theorem d_Md_forget_106 : decode b_Md_forget 106 = .ok (.iload_n 2, 1) := by decide +kernel
theorem d_Md_forget_107 : decode b_Md_forget 107 = .ok (.iaload, 1) := by decide +kernel
theorem d_Md_forget_108 : decode b_Md_forget 108 = .ok (.iastore, 1) := by decide +kernel
theorem d_Md_forget_109 : decode b_Md_forget 109 = .ok (.aload_n 0, 1) := by decide +kernel
theorem d_Md_forget_110 : decode b_Md_forget 110 = .ok (.getfield 38, 3) := by decide +kernel
theorem d_Md_forget_113 : decode b_Md_forget 113 = .ok (.iload_n 1, 1) := by decide +kernel
theorem d_Md_forget_114 : decode b_Md_forget 114 = .ok (.aload_n 0, 1) := by decide +kernel
theorem d_Md_forget_115 : decode b_Md_forget 115 = .ok (.getfield 38, 3) := by decide +kernel
theorem d_Md_forget_118 : decode b_Md_forget 118 = .ok (.iload_n 2, 1) := by decide +kernel
theorem d_Md_forget_119 : decode b_Md_forget 119 = .ok (.iaload, 1) := by decide +kernel
theorem d_Md_forget_120 : decode b_Md_forget 120 = .ok (.iastore, 1) := by decide +kernel
theorem d_Md_forget_121 : decode b_Md_forget 121 = .ok (.aload_n 0, 1) := by decide +kernel
theorem d_Md_forget_122 : decode b_Md_forget 122 = .ok (.getfield 41, 3) := by decide +kernel
theorem d_Md_forget_125 : decode b_Md_forget 125 = .ok (.iload_n 1, 1) := by decide +kernel
theorem d_Md_forget_126 : decode b_Md_forget 126 = .ok (.aload_n 0, 1) := by decide +kernel
theorem d_Md_forget_127 : decode b_Md_forget 127 = .ok (.getfield 41, 3) := by decide +kernel
theorem d_Md_forget_130 : decode b_Md_forget 130 = .ok (.iload_n 2, 1) := by decide +kernel
theorem d_Md_forget_131 : decode b_Md_forget 131 = .ok (.laload, 1) := by decide +kernel
theorem d_Md_forget_132 : decode b_Md_forget 132 = .ok (.lastore, 1) := by decide +kernel
theorem d_Md_forget_133 : decode b_Md_forget 133 = .ok (.aload_n 0, 1) := by decide +kernel
theorem d_Md_forget_134 : decode b_Md_forget 134 = .ok (.getfield 44, 3) := by decide +kernel
theorem d_Md_forget_137 : decode b_Md_forget 137 = .ok (.iload_n 1, 1) := by decide +kernel
theorem d_Md_forget_138 : decode b_Md_forget 138 = .ok (.aload_n 0, 1) := by decide +kernel
theorem d_Md_forget_139 : decode b_Md_forget 139 = .ok (.getfield 44, 3) := by decide +kernel
theorem d_Md_forget_142 : decode b_Md_forget 142 = .ok (.iload_n 2, 1) := by decide +kernel
theorem d_Md_forget_143 : decode b_Md_forget 143 = .ok (.iaload, 1) := by decide +kernel
theorem d_Md_forget_144 : decode b_Md_forget 144 = .ok (.iastore, 1) := by decide +kernel
theorem d_Md_forget_145 : decode b_Md_forget 145 = .ok (.iinc 1 1, 3) := by decide +kernel
theorem d_Md_forget_148 : decode b_Md_forget 148 = .ok (.iinc 2 1, 3) := by decide +kernel
theorem d_Md_forget_151 : decode b_Md_forget 151 = .ok (.goto (-142), 3) := by decide +kernel
theorem d_Md_forget_154 : decode b_Md_forget 154 = .ok (.aload_n 0, 1) := by decide +kernel
theorem d_Md_forget_155 : decode b_Md_forget 155 = .ok (.getfield 60, 3) := by decide +kernel
theorem d_Md_forget_158 : decode b_Md_forget 158 = .ok (.iload_n 1, 1) := by decide +kernel
theorem d_Md_forget_159 : decode b_Md_forget 159 = .ok (.isub, 1) := by decide +kernel
theorem d_Md_forget_160 : decode b_Md_forget 160 = .ok (.istore_n 2, 1) := by decide +kernel
theorem d_Md_forget_161 : decode b_Md_forget 161 = .ok (.aload_n 0, 1) := by decide +kernel
theorem d_Md_forget_162 : decode b_Md_forget 162 = .ok (.iload_n 1, 1) := by decide +kernel
theorem d_Md_forget_163 : decode b_Md_forget 163 = .ok (.putfield 60, 3) := by decide +kernel
theorem d_Md_forget_166 : decode b_Md_forget 166 = .ok (.iload_n 2, 1) := by decide +kernel
theorem d_Md_forget_167 : decode b_Md_forget 167 = .ok (.ireturn, 1) := by decide +kernel
theorem d_Md_stays_0 : decode b_Md_stays 0 = .ok (.aload_n 0, 1) := by decide +kernel
theorem d_Md_stays_1 : decode b_Md_stays 1 = .ok (.getfield 23, 3) := by decide +kernel
theorem d_Md_stays_4 : decode b_Md_stays 4 = .ok (.iload_n 1, 1) := by decide +kernel
theorem d_Md_stays_5 : decode b_Md_stays 5 = .ok (.iaload, 1) := by decide +kernel
theorem d_Md_stays_6 : decode b_Md_stays 6 = .ok (.iconst 3, 1) := by decide +kernel
theorem d_Md_stays_7 : decode b_Md_stays 7 = .ok (.if_icmp .ne 36, 3) := by decide +kernel
theorem d_Md_stays_10 : decode b_Md_stays 10 = .ok (.aload_n 0, 1) := by decide +kernel
theorem d_Md_stays_11 : decode b_Md_stays 11 = .ok (.getfield 38, 3) := by decide +kernel
theorem d_Md_stays_14 : decode b_Md_stays 14 = .ok (.iload_n 1, 1) := by decide +kernel
theorem d_Md_stays_15 : decode b_Md_stays 15 = .ok (.iaload, 1) := by decide +kernel
theorem d_Md_stays_16 : decode b_Md_stays 16 = .ok (.ifCond .ne 27, 3) := by decide +kernel
theorem d_Md_stays_19 : decode b_Md_stays 19 = .ok (.aload_n 0, 1) := by decide +kernel
theorem d_Md_stays_20 : decode b_Md_stays 20 = .ok (.getfield 104, 3) := by decide +kernel
theorem d_Md_stays_23 : decode b_Md_stays 23 = .ok (.aload_n 0, 1) := by decide +kernel
theorem d_Md_stays_24 : decode b_Md_stays 24 = .ok (.getfield 35, 3) := by decide +kernel
theorem d_Md_stays_27 : decode b_Md_stays 27 = .ok (.iload_n 1, 1) := by decide +kernel
theorem d_Md_stays_28 : decode b_Md_stays 28 = .ok (.iaload, 1) := by decide +kernel
theorem d_Md_stays_29 : decode b_Md_stays 29 = .ok (.aload_n 0, 1) := by decide +kernel
theorem d_Md_stays_30 : decode b_Md_stays 30 = .ok (.getfield 51, 3) := by decide +kernel
theorem d_Md_stays_33 : decode b_Md_stays 33 = .ok (.iadd, 1) := by decide +kernel
theorem d_Md_stays_34 : decode b_Md_stays 34 = .ok (.if_icmp .gt 7, 3) := by decide +kernel
theorem d_Md_stays_37 : decode b_Md_stays 37 = .ok (.iconst 1, 1) := by decide +kernel
theorem d_Md_stays_38 : decode b_Md_stays 38 = .ok (.goto 4, 3) := by decide +kernel
theorem d_Md_stays_41 : decode b_Md_stays 41 = .ok (.iconst 0, 1) := by decide +kernel
theorem d_Md_stays_42 : decode b_Md_stays 42 = .ok (.ireturn, 1) := by decide +kernel
theorem d_Md_stays_43 : decode b_Md_stays 43 = .ok (.aload_n 0, 1) := by decide +kernel
theorem d_Md_stays_44 : decode b_Md_stays 44 = .ok (.getfield 23, 3) := by decide +kernel
theorem d_Md_stays_47 : decode b_Md_stays 47 = .ok (.iload_n 1, 1) := by decide +kernel
theorem d_Md_stays_48 : decode b_Md_stays 48 = .ok (.iaload, 1) := by decide +kernel
theorem d_Md_stays_49 : decode b_Md_stays 49 = .ok (.iconst 1, 1) := by decide +kernel
theorem d_Md_stays_50 : decode b_Md_stays 50 = .ok (.if_icmp .eq 23, 3) := by decide +kernel
theorem d_Md_stays_53 : decode b_Md_stays 53 = .ok (.aload_n 0, 1) := by decide +kernel
theorem d_Md_stays_54 : decode b_Md_stays 54 = .ok (.getfield 38, 3) := by decide +kernel
theorem d_Md_stays_57 : decode b_Md_stays 57 = .ok (.iload_n 1, 1) := by decide +kernel
theorem d_Md_stays_58 : decode b_Md_stays 58 = .ok (.iaload, 1) := by decide +kernel
theorem d_Md_stays_59 : decode b_Md_stays 59 = .ok (.iconst 1, 1) := by decide +kernel
theorem d_Md_stays_60 : decode b_Md_stays 60 = .ok (.if_icmp .eq 13, 3) := by decide +kernel
theorem d_Md_stays_63 : decode b_Md_stays 63 = .ok (.aload_n 0, 1) := by decide +kernel
theorem d_Md_stays_64 : decode b_Md_stays 64 = .ok (.getfield 38, 3) := by decide +kernel
theorem d_Md_stays_67 : decode b_Md_stays 67 = .ok (.iload_n 1, 1) := by decide +kernel
theorem d_Md_stays_68 : decode b_Md_stays 68 = .ok (.iaload, 1) := by decide +kernel
theorem d_Md_stays_69 : decode b_Md_stays 69 = .ok (.iconst 2, 1) := by decide +kernel
theorem d_Md_stays_70 : decode b_Md_stays 70 = .ok (.if_icmp .ne 7, 3) := by decide +kernel
theorem d_Md_stays_73 : decode b_Md_stays 73 = .ok (.iconst 1, 1) := by decide +kernel
theorem d_Md_stays_74 : decode b_Md_stays 74 = .ok (.goto 4, 3) := by decide +kernel
theorem d_Md_stays_77 : decode b_Md_stays 77 = .ok (.iconst 0, 1) := by decide +kernel
theorem d_Md_stays_78 : decode b_Md_stays 78 = .ok (.ireturn, 1) := by decide +kernel
theorem d_Md_funds_0 : decode b_Md_funds 0 = .ok (.aload_n 0, 1) := by decide +kernel
theorem d_Md_funds_1 : decode b_Md_funds 1 = .ok (.iload_n 1, 1) := by decide +kernel
theorem d_Md_funds_2 : decode b_Md_funds 2 = .ok (.ifCond .lt 24, 3) := by decide +kernel
theorem d_Md_funds_5 : decode b_Md_funds 5 = .ok (.iload_n 1, 1) := by decide +kernel
theorem d_Md_funds_6 : decode b_Md_funds 6 = .ok (.aload_n 0, 1) := by decide +kernel
theorem d_Md_funds_7 : decode b_Md_funds 7 = .ok (.getfield 72, 3) := by decide +kernel
theorem d_Md_funds_10 : decode b_Md_funds 10 = .ok (.if_icmp .ge 16, 3) := by decide +kernel
theorem d_Md_funds_13 : decode b_Md_funds 13 = .ok (.iload_n 2, 1) := by decide +kernel
theorem d_Md_funds_14 : decode b_Md_funds 14 = .ok (.ifCond .lt 12, 3) := by decide +kernel
theorem d_Md_funds_17 : decode b_Md_funds 17 = .ok (.iload_n 2, 1) := by decide +kernel
theorem d_Md_funds_18 : decode b_Md_funds 18 = .ok (.iconst 3, 1) := by decide +kernel
theorem d_Md_funds_19 : decode b_Md_funds 19 = .ok (.if_icmp .gt 7, 3) := by decide +kernel
theorem d_Md_funds_22 : decode b_Md_funds 22 = .ok (.iconst 1, 1) := by decide +kernel
theorem d_Md_funds_23 : decode b_Md_funds 23 = .ok (.goto 4, 3) := by decide +kernel
theorem d_Md_funds_26 : decode b_Md_funds 26 = .ok (.iconst 0, 1) := by decide +kernel
theorem d_Md_funds_27 : decode b_Md_funds 27 = .ok (.invokevirtual 83, 3) := by decide +kernel
theorem d_Md_funds_30 : decode b_Md_funds 30 = .ok (.ifCond .ne 5, 3) := by decide +kernel
theorem d_Md_funds_33 : decode b_Md_funds 33 = .ok (.lconst 0, 1) := by decide +kernel
theorem d_Md_funds_34 : decode b_Md_funds 34 = .ok (.lreturn, 1) := by decide +kernel
theorem d_Md_funds_35 : decode b_Md_funds 35 = .ok (.iload_n 2, 1) := by decide +kernel
theorem d_Md_funds_36 : decode b_Md_funds 36 = .ok (.ifCond .ne 12, 3) := by decide +kernel
theorem d_Md_funds_39 : decode b_Md_funds 39 = .ok (.aload_n 0, 1) := by decide +kernel
theorem d_Md_funds_40 : decode b_Md_funds 40 = .ok (.getfield 7, 3) := by decide +kernel
theorem d_Md_funds_43 : decode b_Md_funds 43 = .ok (.iload_n 1, 1) := by decide +kernel
theorem d_Md_funds_44 : decode b_Md_funds 44 = .ok (.laload, 1) := by decide +kernel
theorem d_Md_funds_45 : decode b_Md_funds 45 = .ok (.goto 34, 3) := by decide +kernel
theorem d_Md_funds_48 : decode b_Md_funds 48 = .ok (.iload_n 2, 1) := by decide +kernel
theorem d_Md_funds_49 : decode b_Md_funds 49 = .ok (.iconst 1, 1) := by decide +kernel
theorem d_Md_funds_50 : decode b_Md_funds 50 = .ok (.if_icmp .ne 11, 3) := by decide +kernel
theorem d_Md_funds_53 : decode b_Md_funds 53 = .ok (.aload_n 0, 1) := by decide +kernel
theorem d_Md_funds_54 : decode b_Md_funds 54 = .ok (.iload_n 1, 1) := by decide +kernel
theorem d_Md_funds_55 : decode b_Md_funds 55 = .ok (.invokevirtual 63, 3) := by decide +kernel
theorem d_Md_funds_58 : decode b_Md_funds 58 = .ok (.goto 21, 3) := by decide +kernel
theorem d_Md_funds_61 : decode b_Md_funds 61 = .ok (.iload_n 2, 1) := by decide +kernel
theorem d_Md_funds_62 : decode b_Md_funds 62 = .ok (.iconst 2, 1) := by decide +kernel
theorem d_Md_funds_63 : decode b_Md_funds 63 = .ok (.if_icmp .ne 11, 3) := by decide +kernel
theorem d_Md_funds_66 : decode b_Md_funds 66 = .ok (.aload_n 0, 1) := by decide +kernel
theorem d_Md_funds_67 : decode b_Md_funds 67 = .ok (.iload_n 1, 1) := by decide +kernel
theorem d_Md_funds_68 : decode b_Md_funds 68 = .ok (.invokevirtual 67, 3) := by decide +kernel
theorem d_Md_funds_71 : decode b_Md_funds 71 = .ok (.goto 8, 3) := by decide +kernel
theorem d_Md_funds_74 : decode b_Md_funds 74 = .ok (.aload_n 0, 1) := by decide +kernel
theorem d_Md_funds_75 : decode b_Md_funds 75 = .ok (.iload_n 1, 1) := by decide +kernel
theorem d_Md_funds_76 : decode b_Md_funds 76 = .ok (.invokevirtual 95, 3) := by decide +kernel
theorem d_Md_funds_79 : decode b_Md_funds 79 = .ok (.lreturn, 1) := by decide +kernel
theorem d_Md_payment_0 : decode b_Md_payment 0 = .ok (.aload_n 0, 1) := by decide +kernel
theorem d_Md_payment_1 : decode b_Md_payment 1 = .ok (.iload_n 1, 1) := by decide +kernel
theorem d_Md_payment_2 : decode b_Md_payment 2 = .ok (.invokestatic 75, 3) := by decide +kernel
theorem d_Md_payment_5 : decode b_Md_payment 5 = .ok (.ifCond .eq 17, 3) := by decide +kernel
theorem d_Md_payment_8 : decode b_Md_payment 8 = .ok (.iload_n 2, 1) := by decide +kernel
theorem d_Md_payment_9 : decode b_Md_payment 9 = .ok (.ifCond .lt 13, 3) := by decide +kernel
theorem d_Md_payment_12 : decode b_Md_payment 12 = .ok (.iload_n 2, 1) := by decide +kernel
theorem d_Md_payment_13 : decode b_Md_payment 13 = .ok (.bipush 8, 2) := by decide +kernel
theorem d_Md_payment_15 : decode b_Md_payment 15 = .ok (.if_icmp .gt 7, 3) := by decide +kernel
theorem d_Md_payment_18 : decode b_Md_payment 18 = .ok (.iconst 1, 1) := by decide +kernel
theorem d_Md_payment_19 : decode b_Md_payment 19 = .ok (.goto 4, 3) := by decide +kernel
theorem d_Md_payment_22 : decode b_Md_payment 22 = .ok (.iconst 0, 1) := by decide +kernel
theorem d_Md_payment_23 : decode b_Md_payment 23 = .ok (.invokevirtual 83, 3) := by decide +kernel
theorem d_Md_payment_26 : decode b_Md_payment 26 = .ok (.ifCond .ne 5, 3) := by decide +kernel
theorem d_Md_payment_29 : decode b_Md_payment 29 = .ok (.lconst 0, 1) := by decide +kernel
theorem d_Md_payment_30 : decode b_Md_payment 30 = .ok (.lreturn, 1) := by decide +kernel
theorem d_Md_payment_31 : decode b_Md_payment 31 = .ok (.aload_n 0, 1) := by decide +kernel
theorem d_Md_payment_32 : decode b_Md_payment 32 = .ok (.iload_n 1, 1) := by decide +kernel
theorem d_Md_payment_33 : decode b_Md_payment 33 = .ok (.invokevirtual 87, 3) := by decide +kernel
theorem d_Md_payment_36 : decode b_Md_payment 36 = .ok (.istore_n 3, 1) := by decide +kernel
theorem d_Md_payment_37 : decode b_Md_payment 37 = .ok (.iload_n 3, 1) := by decide +kernel
theorem d_Md_payment_38 : decode b_Md_payment 38 = .ok (.ifCond .ge 15, 3) := by decide +kernel
theorem d_Md_payment_41 : decode b_Md_payment 41 = .ok (.iload_n 2, 1) := by decide +kernel
theorem d_Md_payment_42 : decode b_Md_payment 42 = .ok (.ifCond .ne 7, 3) := by decide +kernel
theorem d_Md_payment_45 : decode b_Md_payment 45 = .ok (.lconst 0, 1) := by decide +kernel
theorem d_Md_payment_46 : decode b_Md_payment 46 = .ok (.goto 6, 3) := by decide +kernel
theorem d_Md_payment_49 : decode b_Md_payment 49 = .ok (.ldc2_w 124, 3) := by decide +kernel
theorem d_Md_payment_52 : decode b_Md_payment 52 = .ok (.lreturn, 1) := by decide +kernel
theorem d_Md_payment_53 : decode b_Md_payment 53 = .ok (.iload_n 2, 1) := by decide +kernel
theorem d_Md_payment_54 : decode b_Md_payment 54 = .ok (.tableswitch 107 0 7 #[46, 54, 61, 68, 76, 84, 92, 100], 46) := by decide +kernel
theorem d_Md_payment_100 : decode b_Md_payment 100 = .ok (.aload_n 0, 1) := by decide +kernel
theorem d_Md_payment_101 : decode b_Md_payment 101 = .ok (.getfield 23, 3) := by decide +kernel
theorem d_Md_payment_104 : decode b_Md_payment 104 = .ok (.iload_n 3, 1) := by decide +kernel
theorem d_Md_payment_105 : decode b_Md_payment 105 = .ok (.iaload, 1) := by decide +kernel
theorem d_Md_payment_106 : decode b_Md_payment 106 = .ok (.i2l, 1) := by decide +kernel
theorem d_Md_payment_107 : decode b_Md_payment 107 = .ok (.lreturn, 1) := by decide +kernel
theorem d_Md_payment_108 : decode b_Md_payment 108 = .ok (.aload_n 0, 1) := by decide +kernel
theorem d_Md_payment_109 : decode b_Md_payment 109 = .ok (.getfield 26, 3) := by decide +kernel
theorem d_Md_payment_112 : decode b_Md_payment 112 = .ok (.iload_n 3, 1) := by decide +kernel
theorem d_Md_payment_113 : decode b_Md_payment 113 = .ok (.laload, 1) := by decide +kernel
theorem d_Md_payment_114 : decode b_Md_payment 114 = .ok (.lreturn, 1) := by decide +kernel
theorem d_Md_payment_115 : decode b_Md_payment 115 = .ok (.aload_n 0, 1) := by decide +kernel
theorem d_Md_payment_116 : decode b_Md_payment 116 = .ok (.getfield 29, 3) := by decide +kernel
theorem d_Md_payment_119 : decode b_Md_payment 119 = .ok (.iload_n 3, 1) := by decide +kernel
theorem d_Md_payment_120 : decode b_Md_payment 120 = .ok (.laload, 1) := by decide +kernel
theorem d_Md_payment_121 : decode b_Md_payment 121 = .ok (.lreturn, 1) := by decide +kernel
theorem d_Md_payment_122 : decode b_Md_payment 122 = .ok (.aload_n 0, 1) := by decide +kernel
theorem d_Md_payment_123 : decode b_Md_payment 123 = .ok (.getfield 32, 3) := by decide +kernel
theorem d_Md_payment_126 : decode b_Md_payment 126 = .ok (.iload_n 3, 1) := by decide +kernel
theorem d_Md_payment_127 : decode b_Md_payment 127 = .ok (.iaload, 1) := by decide +kernel
theorem d_Md_payment_128 : decode b_Md_payment 128 = .ok (.i2l, 1) := by decide +kernel
theorem d_Md_payment_129 : decode b_Md_payment 129 = .ok (.lreturn, 1) := by decide +kernel
theorem d_Md_payment_130 : decode b_Md_payment 130 = .ok (.aload_n 0, 1) := by decide +kernel
theorem d_Md_payment_131 : decode b_Md_payment 131 = .ok (.getfield 35, 3) := by decide +kernel
theorem d_Md_payment_134 : decode b_Md_payment 134 = .ok (.iload_n 3, 1) := by decide +kernel
theorem d_Md_payment_135 : decode b_Md_payment 135 = .ok (.iaload, 1) := by decide +kernel
theorem d_Md_payment_136 : decode b_Md_payment 136 = .ok (.i2l, 1) := by decide +kernel
theorem d_Md_payment_137 : decode b_Md_payment 137 = .ok (.lreturn, 1) := by decide +kernel
theorem d_Md_payment_138 : decode b_Md_payment 138 = .ok (.aload_n 0, 1) := by decide +kernel
theorem d_Md_payment_139 : decode b_Md_payment 139 = .ok (.getfield 20, 3) := by decide +kernel
theorem d_Md_payment_142 : decode b_Md_payment 142 = .ok (.iload_n 3, 1) := by decide +kernel
theorem d_Md_payment_143 : decode b_Md_payment 143 = .ok (.iaload, 1) := by decide +kernel
theorem d_Md_payment_144 : decode b_Md_payment 144 = .ok (.i2l, 1) := by decide +kernel
theorem d_Md_payment_145 : decode b_Md_payment 145 = .ok (.lreturn, 1) := by decide +kernel
theorem d_Md_payment_146 : decode b_Md_payment 146 = .ok (.aload_n 0, 1) := by decide +kernel
theorem d_Md_payment_147 : decode b_Md_payment 147 = .ok (.getfield 38, 3) := by decide +kernel
theorem d_Md_payment_150 : decode b_Md_payment 150 = .ok (.iload_n 3, 1) := by decide +kernel
theorem d_Md_payment_151 : decode b_Md_payment 151 = .ok (.iaload, 1) := by decide +kernel
theorem d_Md_payment_152 : decode b_Md_payment 152 = .ok (.i2l, 1) := by decide +kernel
theorem d_Md_payment_153 : decode b_Md_payment 153 = .ok (.lreturn, 1) := by decide +kernel
theorem d_Md_payment_154 : decode b_Md_payment 154 = .ok (.aload_n 0, 1) := by decide +kernel
theorem d_Md_payment_155 : decode b_Md_payment 155 = .ok (.getfield 41, 3) := by decide +kernel
theorem d_Md_payment_158 : decode b_Md_payment 158 = .ok (.iload_n 3, 1) := by decide +kernel
theorem d_Md_payment_159 : decode b_Md_payment 159 = .ok (.laload, 1) := by decide +kernel
theorem d_Md_payment_160 : decode b_Md_payment 160 = .ok (.lreturn, 1) := by decide +kernel
theorem d_Md_payment_161 : decode b_Md_payment 161 = .ok (.aload_n 0, 1) := by decide +kernel
theorem d_Md_payment_162 : decode b_Md_payment 162 = .ok (.getfield 44, 3) := by decide +kernel
theorem d_Md_payment_165 : decode b_Md_payment 165 = .ok (.iload_n 3, 1) := by decide +kernel
theorem d_Md_payment_166 : decode b_Md_payment 166 = .ok (.iaload, 1) := by decide +kernel
theorem d_Md_payment_167 : decode b_Md_payment 167 = .ok (.i2l, 1) := by decide +kernel
theorem d_Md_payment_168 : decode b_Md_payment 168 = .ok (.lreturn, 1) := by decide +kernel
theorem d_Md_key_0 : decode b_Md_key 0 = .ok (.aload_n 0, 1) := by decide +kernel
theorem d_Md_key_1 : decode b_Md_key 1 = .ok (.iload_n 1, 1) := by decide +kernel
theorem d_Md_key_2 : decode b_Md_key 2 = .ok (.ifCond .lt 7, 3) := by decide +kernel
theorem d_Md_key_5 : decode b_Md_key 5 = .ok (.iconst 1, 1) := by decide +kernel
theorem d_Md_key_6 : decode b_Md_key 6 = .ok (.goto 4, 3) := by decide +kernel
theorem d_Md_key_9 : decode b_Md_key 9 = .ok (.iconst 0, 1) := by decide +kernel
theorem d_Md_key_10 : decode b_Md_key 10 = .ok (.invokevirtual 83, 3) := by decide +kernel
theorem d_Md_key_13 : decode b_Md_key 13 = .ok (.ifCond .ne 5, 3) := by decide +kernel
theorem d_Md_key_16 : decode b_Md_key 16 = .ok (.iconst 0, 1) := by decide +kernel
theorem d_Md_key_17 : decode b_Md_key 17 = .ok (.ireturn, 1) := by decide +kernel
theorem d_Md_key_18 : decode b_Md_key 18 = .ok (.iconst 0, 1) := by decide +kernel
theorem d_Md_key_19 : decode b_Md_key 19 = .ok (.istore_n 2, 1) := by decide +kernel
theorem d_Md_key_20 : decode b_Md_key 20 = .ok (.iload_n 2, 1) := by decide +kernel
theorem d_Md_key_21 : decode b_Md_key 21 = .ok (.aload_n 0, 1) := by decide +kernel
theorem d_Md_key_22 : decode b_Md_key 22 = .ok (.getfield 60, 3) := by decide +kernel
theorem d_Md_key_25 : decode b_Md_key 25 = .ok (.if_icmp .ge 65, 3) := by decide +kernel
theorem d_Md_key_28 : decode b_Md_key 28 = .ok (.iconst 0, 1) := by decide +kernel
theorem d_Md_key_29 : decode b_Md_key 29 = .ok (.istore_n 3, 1) := by decide +kernel
theorem d_Md_key_30 : decode b_Md_key 30 = .ok (.iconst 0, 1) := by decide +kernel
theorem d_Md_key_31 : decode b_Md_key 31 = .ok (.istore 4, 2) := by decide +kernel
theorem d_Md_key_33 : decode b_Md_key 33 = .ok (.iload 4, 2) := by decide +kernel
theorem d_Md_key_35 : decode b_Md_key 35 = .ok (.aload_n 0, 1) := by decide +kernel
theorem d_Md_key_36 : decode b_Md_key 36 = .ok (.getfield 60, 3) := by decide +kernel
theorem d_Md_key_39 : decode b_Md_key 39 = .ok (.if_icmp .ge 33, 3) := by decide +kernel
theorem d_Md_key_42 : decode b_Md_key 42 = .ok (.iload_n 3, 1) := by decide +kernel
theorem d_Md_key_43 : decode b_Md_key 43 = .ok (.aload_n 0, 1) := by decide +kernel
theorem d_Md_key_44 : decode b_Md_key 44 = .ok (.getfield 16, 3) := by decide +kernel
theorem d_Md_key_47 : decode b_Md_key 47 = .ok (.iload 4, 2) := by decide +kernel
theorem d_Md_key_49 : decode b_Md_key 49 = .ok (.iaload, 1) := by decide +kernel
theorem d_Md_key_50 : decode b_Md_key 50 = .ok (.aload_n 0, 1) := by decide +kernel
theorem d_Md_key_51 : decode b_Md_key 51 = .ok (.getfield 16, 3) := by decide +kernel
theorem d_Md_key_54 : decode b_Md_key 54 = .ok (.iload_n 2, 1) := by decide +kernel
theorem d_Md_key_55 : decode b_Md_key 55 = .ok (.iaload, 1) := by decide +kernel
theorem d_Md_key_56 : decode b_Md_key 56 = .ok (.if_icmp .ge 7, 3) := by decide +kernel
theorem d_Md_key_59 : decode b_Md_key 59 = .ok (.iconst 1, 1) := by decide +kernel
theorem d_Md_key_60 : decode b_Md_key 60 = .ok (.goto 4, 3) := by decide +kernel
theorem d_Md_key_63 : decode b_Md_key 63 = .ok (.iconst 0, 1) := by decide +kernel
theorem d_Md_key_64 : decode b_Md_key 64 = .ok (.iadd, 1) := by decide +kernel
theorem d_Md_key_65 : decode b_Md_key 65 = .ok (.istore_n 3, 1) := by decide +kernel
theorem d_Md_key_66 : decode b_Md_key 66 = .ok (.iinc 4 1, 3) := by decide +kernel
theorem d_Md_key_69 : decode b_Md_key 69 = .ok (.goto (-36), 3) := by decide +kernel
theorem d_Md_key_72 : decode b_Md_key 72 = .ok (.iload_n 3, 1) := by decide +kernel
theorem d_Md_key_73 : decode b_Md_key 73 = .ok (.iload_n 1, 1) := by decide +kernel
theorem d_Md_key_74 : decode b_Md_key 74 = .ok (.if_icmp .ne 10, 3) := by decide +kernel
theorem d_Md_key_77 : decode b_Md_key 77 = .ok (.aload_n 0, 1) := by decide +kernel
theorem d_Md_key_78 : decode b_Md_key 78 = .ok (.getfield 16, 3) := by decide +kernel
theorem d_Md_key_81 : decode b_Md_key 81 = .ok (.iload_n 2, 1) := by decide +kernel
theorem d_Md_key_82 : decode b_Md_key 82 = .ok (.iaload, 1) := by decide +kernel
theorem d_Md_key_83 : decode b_Md_key 83 = .ok (.ireturn, 1) := by decide +kernel
theorem d_Md_key_84 : decode b_Md_key 84 = .ok (.iinc 2 1, 3) := by decide +kernel
theorem d_Md_key_87 : decode b_Md_key 87 = .ok (.goto (-67), 3) := by decide +kernel
theorem d_Md_key_90 : decode b_Md_key 90 = .ok (.iconst (-1), 1) := by decide +kernel
theorem d_Md_key_91 : decode b_Md_key 91 = .ok (.ireturn, 1) := by decide +kernel
theorem d_Md_payments_0 : decode b_Md_payments 0 = .ok (.aload_n 0, 1) := by decide +kernel
theorem d_Md_payments_1 : decode b_Md_payments 1 = .ok (.iconst 0, 1) := by decide +kernel
theorem d_Md_payments_2 : decode b_Md_payments 2 = .ok (.putfield 54, 3) := by decide +kernel
theorem d_Md_payments_5 : decode b_Md_payments 5 = .ok (.aload_n 0, 1) := by decide +kernel
theorem d_Md_payments_6 : decode b_Md_payments 6 = .ok (.getfield 60, 3) := by decide +kernel
theorem d_Md_payments_9 : decode b_Md_payments 9 = .ok (.ireturn, 1) := by decide +kernel
theorem d_Md_audit_0 : decode b_Md_audit 0 = .ok (.aload_n 0, 1) := by decide +kernel
theorem d_Md_audit_1 : decode b_Md_audit 1 = .ok (.iconst 0, 1) := by decide +kernel
theorem d_Md_audit_2 : decode b_Md_audit 2 = .ok (.putfield 54, 3) := by decide +kernel
theorem d_Md_audit_5 : decode b_Md_audit 5 = .ok (.iconst 0, 1) := by decide +kernel
theorem d_Md_audit_6 : decode b_Md_audit 6 = .ok (.ireturn, 1) := by decide +kernel

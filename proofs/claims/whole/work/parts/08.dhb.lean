/-! DECODE ROWS -/
theorem d_Hb_init_0 : decode b_Hb_init 0 = .ok (.aload_n 0, 1) := by decide +kernel
theorem d_Hb_init_1 : decode b_Hb_init 1 = .ok (.invokespecial 1, 3) := by decide +kernel
theorem d_Hb_init_4 : decode b_Hb_init 4 = .ok (.aload_n 0, 1) := by decide +kernel
theorem d_Hb_init_5 : decode b_Hb_init 5 = .ok (.new 7, 3) := by decide +kernel
theorem d_Hb_init_8 : decode b_Hb_init 8 = .ok (.dup, 1) := by decide +kernel
theorem d_Hb_init_9 : decode b_Hb_init 9 = .ok (.invokespecial 9, 3) := by decide +kernel
theorem d_Hb_init_12 : decode b_Hb_init 12 = .ok (.putfield 10, 3) := by decide +kernel
theorem d_Hb_init_15 : decode b_Hb_init 15 = .ok (.aload_n 0, 1) := by decide +kernel
theorem d_Hb_init_16 : decode b_Hb_init 16 = .ok (.new 7, 3) := by decide +kernel
theorem d_Hb_init_19 : decode b_Hb_init 19 = .ok (.dup, 1) := by decide +kernel
theorem d_Hb_init_20 : decode b_Hb_init 20 = .ok (.invokespecial 9, 3) := by decide +kernel
theorem d_Hb_init_23 : decode b_Hb_init 23 = .ok (.putfield 16, 3) := by decide +kernel
theorem d_Hb_init_26 : decode b_Hb_init 26 = .ok (.aload_n 0, 1) := by decide +kernel
theorem d_Hb_init_27 : decode b_Hb_init 27 = .ok (.new 19, 3) := by decide +kernel
theorem d_Hb_init_30 : decode b_Hb_init 30 = .ok (.dup, 1) := by decide +kernel
theorem d_Hb_init_31 : decode b_Hb_init 31 = .ok (.iconst (-1), 1) := by decide +kernel
theorem d_Hb_init_32 : decode b_Hb_init 32 = .ok (.lconst 0, 1) := by decide +kernel
theorem d_Hb_init_33 : decode b_Hb_init 33 = .ok (.lconst 0, 1) := by decide +kernel
theorem d_Hb_init_34 : decode b_Hb_init 34 = .ok (.invokespecial 21, 3) := by decide +kernel
theorem d_Hb_init_37 : decode b_Hb_init 37 = .ok (.putfield 24, 3) := by decide +kernel
theorem d_Hb_init_40 : decode b_Hb_init 40 = .ok (.aload_n 0, 1) := by decide +kernel
theorem d_Hb_init_41 : decode b_Hb_init 41 = .ok (.iconst 0, 1) := by decide +kernel
theorem d_Hb_init_42 : decode b_Hb_init 42 = .ok (.putfield 28, 3) := by decide +kernel
theorem d_Hb_init_45 : decode b_Hb_init 45 = .ok (.aload_n 0, 1) := by decide +kernel
theorem d_Hb_init_46 : decode b_Hb_init 46 = .ok (.iload_n 1, 1) := by decide +kernel
theorem d_Hb_init_47 : decode b_Hb_init 47 = .ok (.invokestatic 32, 3) := by decide +kernel
theorem d_Hb_init_50 : decode b_Hb_init 50 = .ok (.putfield 36, 3) := by decide +kernel
theorem d_Hb_init_53 : decode b_Hb_init 53 = .ok (.aload_n 0, 1) := by decide +kernel
theorem d_Hb_init_54 : decode b_Hb_init 54 = .ok (.iload_n 2, 1) := by decide +kernel
theorem d_Hb_init_55 : decode b_Hb_init 55 = .ok (.invokestatic 32, 3) := by decide +kernel
theorem d_Hb_init_58 : decode b_Hb_init 58 = .ok (.putfield 39, 3) := by decide +kernel
theorem d_Hb_init_61 : decode b_Hb_init 61 = .ok (.return_, 1) := by decide +kernel
theorem d_Hb_spanOf_0 : decode b_Hb_spanOf 0 = .ok (.iconst 1, 1) := by decide +kernel
theorem d_Hb_spanOf_1 : decode b_Hb_spanOf 1 = .ok (.sipush 5000, 3) := by decide +kernel
theorem d_Hb_spanOf_4 : decode b_Hb_spanOf 4 = .ok (.iload_n 0, 1) := by decide +kernel
theorem d_Hb_spanOf_5 : decode b_Hb_spanOf 5 = .ok (.invokestatic 200, 3) := by decide +kernel
theorem d_Hb_spanOf_8 : decode b_Hb_spanOf 8 = .ok (.invokestatic 203, 3) := by decide +kernel
theorem d_Hb_spanOf_11 : decode b_Hb_spanOf 11 = .ok (.ireturn, 1) := by decide +kernel
theorem d_Hb_forget_0 : decode b_Hb_forget 0 = .ok (.iconst 0, 1) := by decide +kernel
theorem d_Hb_forget_1 : decode b_Hb_forget 1 = .ok (.istore_n 1, 1) := by decide +kernel
theorem d_Hb_forget_2 : decode b_Hb_forget 2 = .ok (.aload_n 0, 1) := by decide +kernel
theorem d_Hb_forget_3 : decode b_Hb_forget 3 = .ok (.getfield 16, 3) := by decide +kernel
theorem d_Hb_forget_6 : decode b_Hb_forget 6 = .ok (.invokevirtual 55, 3) := by decide +kernel
theorem d_Hb_forget_9 : decode b_Hb_forget 9 = .ok (.iconst 1, 1) := by decide +kernel
theorem d_Hb_forget_10 : decode b_Hb_forget 10 = .ok (.isub, 1) := by decide +kernel
theorem d_Hb_forget_11 : decode b_Hb_forget 11 = .ok (.istore_n 2, 1) := by decide +kernel
theorem d_Hb_forget_12 : decode b_Hb_forget 12 = .ok (.iload_n 2, 1) := by decide +kernel
theorem d_Hb_forget_13 : decode b_Hb_forget 13 = .ok (.ifCond .lt 39, 3) := by decide +kernel
theorem d_Hb_forget_16 : decode b_Hb_forget 16 = .ok (.aload_n 0, 1) := by decide +kernel
theorem d_Hb_forget_17 : decode b_Hb_forget 17 = .ok (.aload_n 0, 1) := by decide +kernel
theorem d_Hb_forget_18 : decode b_Hb_forget 18 = .ok (.getfield 16, 3) := by decide +kernel
theorem d_Hb_forget_21 : decode b_Hb_forget 21 = .ok (.iload_n 2, 1) := by decide +kernel
theorem d_Hb_forget_22 : decode b_Hb_forget 22 = .ok (.invokevirtual 87, 3) := by decide +kernel
theorem d_Hb_forget_25 : decode b_Hb_forget 25 = .ok (.checkcast 97, 3) := by decide +kernel
theorem d_Hb_forget_28 : decode b_Hb_forget 28 = .ok (.invokevirtual 170, 3) := by decide +kernel
theorem d_Hb_forget_31 : decode b_Hb_forget 31 = .ok (.ifCond .eq 15, 3) := by decide +kernel
theorem d_Hb_forget_34 : decode b_Hb_forget 34 = .ok (.aload_n 0, 1) := by decide +kernel
theorem d_Hb_forget_35 : decode b_Hb_forget 35 = .ok (.getfield 16, 3) := by decide +kernel
theorem d_Hb_forget_38 : decode b_Hb_forget 38 = .ok (.iload_n 2, 1) := by decide +kernel
theorem d_Hb_forget_39 : decode b_Hb_forget 39 = .ok (.invokevirtual 173, 3) := by decide +kernel
theorem d_Hb_forget_42 : decode b_Hb_forget 42 = .ok (.pop, 1) := by decide +kernel
theorem d_Hb_forget_43 : decode b_Hb_forget 43 = .ok (.iinc 1 1, 3) := by decide +kernel
theorem d_Hb_forget_46 : decode b_Hb_forget 46 = .ok (.iinc 2 (-1), 3) := by decide +kernel
theorem d_Hb_forget_49 : decode b_Hb_forget 49 = .ok (.goto (-37), 3) := by decide +kernel
theorem d_Hb_forget_52 : decode b_Hb_forget 52 = .ok (.iload_n 1, 1) := by decide +kernel
theorem d_Hb_forget_53 : decode b_Hb_forget 53 = .ok (.ireturn, 1) := by decide +kernel
theorem d_Hb_isOver_0 : decode b_Hb_isOver 0 = .ok (.aload_n 1, 1) := by decide +kernel
theorem d_Hb_isOver_1 : decode b_Hb_isOver 1 = .ok (.getfield 153, 3) := by decide +kernel
theorem d_Hb_isOver_4 : decode b_Hb_isOver 4 = .ok (.ifCond .ne 25, 3) := by decide +kernel
theorem d_Hb_isOver_7 : decode b_Hb_isOver 7 = .ok (.aload_n 1, 1) := by decide +kernel
theorem d_Hb_isOver_8 : decode b_Hb_isOver 8 = .ok (.getfield 122, 3) := by decide +kernel
theorem d_Hb_isOver_11 : decode b_Hb_isOver 11 = .ok (.iconst 2, 1) := by decide +kernel
theorem d_Hb_isOver_12 : decode b_Hb_isOver 12 = .ok (.if_icmp .eq 11, 3) := by decide +kernel
theorem d_Hb_isOver_15 : decode b_Hb_isOver 15 = .ok (.aload_n 0, 1) := by decide +kernel
theorem d_Hb_isOver_16 : decode b_Hb_isOver 16 = .ok (.aload_n 1, 1) := by decide +kernel
theorem d_Hb_isOver_17 : decode b_Hb_isOver 17 = .ok (.invokevirtual 156, 3) := by decide +kernel
theorem d_Hb_isOver_20 : decode b_Hb_isOver 20 = .ok (.ifCond .eq 7, 3) := by decide +kernel
theorem d_Hb_isOver_23 : decode b_Hb_isOver 23 = .ok (.iconst 1, 1) := by decide +kernel
theorem d_Hb_isOver_24 : decode b_Hb_isOver 24 = .ok (.goto 4, 3) := by decide +kernel
theorem d_Hb_isOver_27 : decode b_Hb_isOver 27 = .ok (.iconst 0, 1) := by decide +kernel
theorem d_Hb_isOver_28 : decode b_Hb_isOver 28 = .ok (.ireturn, 1) := by decide +kernel
theorem d_Hb_isOver_29 : decode b_Hb_isOver 29 = .ok (.aload_n 1, 1) := by decide +kernel
theorem d_Hb_isOver_30 : decode b_Hb_isOver 30 = .ok (.getfield 153, 3) := by decide +kernel
theorem d_Hb_isOver_33 : decode b_Hb_isOver 33 = .ok (.iconst 3, 1) := by decide +kernel
theorem d_Hb_isOver_34 : decode b_Hb_isOver 34 = .ok (.if_icmp .eq 11, 3) := by decide +kernel
theorem d_Hb_isOver_37 : decode b_Hb_isOver 37 = .ok (.aload_n 1, 1) := by decide +kernel
theorem d_Hb_isOver_38 : decode b_Hb_isOver 38 = .ok (.getfield 153, 3) := by decide +kernel
theorem d_Hb_isOver_41 : decode b_Hb_isOver 41 = .ok (.iconst 4, 1) := by decide +kernel
theorem d_Hb_isOver_42 : decode b_Hb_isOver 42 = .ok (.if_icmp .ne 7, 3) := by decide +kernel
theorem d_Hb_isOver_45 : decode b_Hb_isOver 45 = .ok (.iconst 1, 1) := by decide +kernel
theorem d_Hb_isOver_46 : decode b_Hb_isOver 46 = .ok (.goto 4, 3) := by decide +kernel
theorem d_Hb_isOver_49 : decode b_Hb_isOver 49 = .ok (.iconst 0, 1) := by decide +kernel
theorem d_Hb_isOver_50 : decode b_Hb_isOver 50 = .ok (.ireturn, 1) := by decide +kernel
theorem d_Hb_isLongDone_0 : decode b_Hb_isLongDone 0 = .ok (.aload_n 1, 1) := by decide +kernel
theorem d_Hb_isLongDone_1 : decode b_Hb_isLongDone 1 = .ok (.getfield 122, 3) := by decide +kernel
theorem d_Hb_isLongDone_4 : decode b_Hb_isLongDone 4 = .ok (.iconst 3, 1) := by decide +kernel
theorem d_Hb_isLongDone_5 : decode b_Hb_isLongDone 5 = .ok (.if_icmp .ne 23, 3) := by decide +kernel
theorem d_Hb_isLongDone_8 : decode b_Hb_isLongDone 8 = .ok (.aload_n 0, 1) := by decide +kernel
theorem d_Hb_isLongDone_9 : decode b_Hb_isLongDone 9 = .ok (.getfield 28, 3) := by decide +kernel
theorem d_Hb_isLongDone_12 : decode b_Hb_isLongDone 12 = .ok (.aload_n 1, 1) := by decide +kernel
theorem d_Hb_isLongDone_13 : decode b_Hb_isLongDone 13 = .ok (.getfield 220, 3) := by decide +kernel
theorem d_Hb_isLongDone_16 : decode b_Hb_isLongDone 16 = .ok (.isub, 1) := by decide +kernel
theorem d_Hb_isLongDone_17 : decode b_Hb_isLongDone 17 = .ok (.aload_n 0, 1) := by decide +kernel
theorem d_Hb_isLongDone_18 : decode b_Hb_isLongDone 18 = .ok (.getfield 39, 3) := by decide +kernel
theorem d_Hb_isLongDone_21 : decode b_Hb_isLongDone 21 = .ok (.if_icmp .le 7, 3) := by decide +kernel
theorem d_Hb_isLongDone_24 : decode b_Hb_isLongDone 24 = .ok (.iconst 1, 1) := by decide +kernel
theorem d_Hb_isLongDone_25 : decode b_Hb_isLongDone 25 = .ok (.goto 4, 3) := by decide +kernel
theorem d_Hb_isLongDone_28 : decode b_Hb_isLongDone 28 = .ok (.iconst 0, 1) := by decide +kernel
theorem d_Hb_isLongDone_29 : decode b_Hb_isLongDone 29 = .ok (.ireturn, 1) := by decide +kernel
theorem d_Hb_payments_0 : decode b_Hb_payments 0 = .ok (.aload_n 0, 1) := by decide +kernel
theorem d_Hb_payments_1 : decode b_Hb_payments 1 = .ok (.getfield 16, 3) := by decide +kernel
theorem d_Hb_payments_4 : decode b_Hb_payments 4 = .ok (.invokevirtual 55, 3) := by decide +kernel
theorem d_Hb_payments_7 : decode b_Hb_payments 7 = .ok (.ireturn, 1) := by decide +kernel
theorem d_Hb_audit_0 : decode b_Hb_audit 0 = .ok (.iconst 0, 1) := by decide +kernel
theorem d_Hb_audit_1 : decode b_Hb_audit 1 = .ok (.istore_n 1, 1) := by decide +kernel
theorem d_Hb_audit_2 : decode b_Hb_audit 2 = .ok (.iconst 0, 1) := by decide +kernel
theorem d_Hb_audit_3 : decode b_Hb_audit 3 = .ok (.istore_n 2, 1) := by decide +kernel
theorem d_Hb_audit_4 : decode b_Hb_audit 4 = .ok (.iload_n 2, 1) := by decide +kernel
theorem d_Hb_audit_5 : decode b_Hb_audit 5 = .ok (.aload_n 0, 1) := by decide +kernel
theorem d_Hb_audit_6 : decode b_Hb_audit 6 = .ok (.getfield 10, 3) := by decide +kernel
theorem d_Hb_audit_9 : decode b_Hb_audit 9 = .ok (.invokevirtual 55, 3) := by decide +kernel
theorem d_Hb_audit_12 : decode b_Hb_audit 12 = .ok (.if_icmp .ge 39, 3) := by decide +kernel
theorem d_Hb_audit_15 : decode b_Hb_audit 15 = .ok (.aload_n 0, 1) := by decide +kernel
theorem d_Hb_audit_16 : decode b_Hb_audit 16 = .ok (.getfield 10, 3) := by decide +kernel
theorem d_Hb_audit_19 : decode b_Hb_audit 19 = .ok (.iload_n 2, 1) := by decide +kernel
theorem d_Hb_audit_20 : decode b_Hb_audit 20 = .ok (.invokevirtual 87, 3) := by decide +kernel
theorem d_Hb_audit_23 : decode b_Hb_audit 23 = .ok (.checkcast 19, 3) := by decide +kernel
theorem d_Hb_audit_26 : decode b_Hb_audit 26 = .ok (.astore_n 3, 1) := by decide +kernel
theorem d_Hb_audit_27 : decode b_Hb_audit 27 = .ok (.aload_n 0, 1) := by decide +kernel
theorem d_Hb_audit_28 : decode b_Hb_audit 28 = .ok (.aload_n 3, 1) := by decide +kernel
theorem d_Hb_audit_29 : decode b_Hb_audit 29 = .ok (.invokevirtual 192, 3) := by decide +kernel
theorem d_Hb_audit_32 : decode b_Hb_audit 32 = .ok (.ifCond .eq 10, 3) := by decide +kernel
theorem d_Hb_audit_35 : decode b_Hb_audit 35 = .ok (.aload_n 3, 1) := by decide +kernel
theorem d_Hb_audit_36 : decode b_Hb_audit 36 = .ok (.invokevirtual 196, 3) := by decide +kernel
theorem d_Hb_audit_39 : decode b_Hb_audit 39 = .ok (.ifCond .eq 6, 3) := by decide +kernel
theorem d_Hb_audit_42 : decode b_Hb_audit 42 = .ok (.iinc 1 1, 3) := by decide +kernel
theorem d_Hb_audit_45 : decode b_Hb_audit 45 = .ok (.iinc 2 1, 3) := by decide +kernel
theorem d_Hb_audit_48 : decode b_Hb_audit 48 = .ok (.goto (-44), 3) := by decide +kernel
theorem d_Hb_audit_51 : decode b_Hb_audit 51 = .ok (.iload_n 1, 1) := by decide +kernel
theorem d_Hb_audit_52 : decode b_Hb_audit 52 = .ok (.ireturn, 1) := by decide +kernel
theorem d_Hb_agrees_0 : decode b_Hb_agrees 0 = .ok (.lconst 0, 1) := by decide +kernel
theorem d_Hb_agrees_1 : decode b_Hb_agrees 1 = .ok (.lstore_n 2, 1) := by decide +kernel
theorem d_Hb_agrees_2 : decode b_Hb_agrees 2 = .ok (.lconst 0, 1) := by decide +kernel
theorem d_Hb_agrees_3 : decode b_Hb_agrees 3 = .ok (.lstore 4, 2) := by decide +kernel
theorem d_Hb_agrees_5 : decode b_Hb_agrees 5 = .ok (.iconst 0, 1) := by decide +kernel
theorem d_Hb_agrees_6 : decode b_Hb_agrees 6 = .ok (.istore 6, 2) := by decide +kernel
theorem d_Hb_agrees_8 : decode b_Hb_agrees 8 = .ok (.iload 6, 2) := by decide +kernel
theorem d_Hb_agrees_10 : decode b_Hb_agrees 10 = .ok (.aload_n 0, 1) := by decide +kernel
theorem d_Hb_agrees_11 : decode b_Hb_agrees 11 = .ok (.getfield 16, 3) := by decide +kernel
theorem d_Hb_agrees_14 : decode b_Hb_agrees 14 = .ok (.invokevirtual 55, 3) := by decide +kernel
theorem d_Hb_agrees_17 : decode b_Hb_agrees 17 = .ok (.if_icmp .ge 56, 3) := by decide +kernel
theorem d_Hb_agrees_20 : decode b_Hb_agrees 20 = .ok (.aload_n 0, 1) := by decide +kernel
theorem d_Hb_agrees_21 : decode b_Hb_agrees 21 = .ok (.getfield 16, 3) := by decide +kernel
theorem d_Hb_agrees_24 : decode b_Hb_agrees 24 = .ok (.iload 6, 2) := by decide +kernel
theorem d_Hb_agrees_26 : decode b_Hb_agrees 26 = .ok (.invokevirtual 87, 3) := by decide +kernel
theorem d_Hb_agrees_29 : decode b_Hb_agrees 29 = .ok (.checkcast 97, 3) := by decide +kernel
theorem d_Hb_agrees_32 : decode b_Hb_agrees 32 = .ok (.astore 7, 2) := by decide +kernel
theorem d_Hb_agrees_34 : decode b_Hb_agrees 34 = .ok (.aload 7, 2) := by decide +kernel
theorem d_Hb_agrees_36 : decode b_Hb_agrees 36 = .ok (.getfield 223, 3) := by decide +kernel
theorem d_Hb_agrees_39 : decode b_Hb_agrees 39 = .ok (.getfield 226, 3) := by decide +kernel
theorem d_Hb_agrees_42 : decode b_Hb_agrees 42 = .ok (.aload_n 1, 1) := by decide +kernel
theorem d_Hb_agrees_43 : decode b_Hb_agrees 43 = .ok (.getfield 226, 3) := by decide +kernel
theorem d_Hb_agrees_46 : decode b_Hb_agrees 46 = .ok (.if_icmp .ne 21, 3) := by decide +kernel
theorem d_Hb_agrees_49 : decode b_Hb_agrees 49 = .ok (.lload_n 2, 1) := by decide +kernel
theorem d_Hb_agrees_50 : decode b_Hb_agrees 50 = .ok (.aload 7, 2) := by decide +kernel
theorem d_Hb_agrees_52 : decode b_Hb_agrees 52 = .ok (.getfield 116, 3) := by decide +kernel
theorem d_Hb_agrees_55 : decode b_Hb_agrees 55 = .ok (.ladd, 1) := by decide +kernel
theorem d_Hb_agrees_56 : decode b_Hb_agrees 56 = .ok (.lstore_n 2, 1) := by decide +kernel
theorem d_Hb_agrees_57 : decode b_Hb_agrees 57 = .ok (.lload 4, 2) := by decide +kernel
theorem d_Hb_agrees_59 : decode b_Hb_agrees 59 = .ok (.aload 7, 2) := by decide +kernel
theorem d_Hb_agrees_61 : decode b_Hb_agrees 61 = .ok (.invokevirtual 229, 3) := by decide +kernel
theorem d_Hb_agrees_64 : decode b_Hb_agrees 64 = .ok (.ladd, 1) := by decide +kernel
theorem d_Hb_agrees_65 : decode b_Hb_agrees 65 = .ok (.lstore 4, 2) := by decide +kernel
theorem d_Hb_agrees_67 : decode b_Hb_agrees 67 = .ok (.iinc 6 1, 3) := by decide +kernel
theorem d_Hb_agrees_70 : decode b_Hb_agrees 70 = .ok (.goto (-62), 3) := by decide +kernel
theorem d_Hb_agrees_73 : decode b_Hb_agrees 73 = .ok (.lload_n 2, 1) := by decide +kernel
theorem d_Hb_agrees_74 : decode b_Hb_agrees 74 = .ok (.aload_n 1, 1) := by decide +kernel
theorem d_Hb_agrees_75 : decode b_Hb_agrees 75 = .ok (.getfield 232, 3) := by decide +kernel
theorem d_Hb_agrees_78 : decode b_Hb_agrees 78 = .ok (.lcmp, 1) := by decide +kernel
theorem d_Hb_agrees_79 : decode b_Hb_agrees 79 = .ok (.ifCond .ne 17, 3) := by decide +kernel
theorem d_Hb_agrees_82 : decode b_Hb_agrees 82 = .ok (.lload 4, 2) := by decide +kernel
theorem d_Hb_agrees_84 : decode b_Hb_agrees 84 = .ok (.aload_n 1, 1) := by decide +kernel
theorem d_Hb_agrees_85 : decode b_Hb_agrees 85 = .ok (.getfield 233, 3) := by decide +kernel
theorem d_Hb_agrees_88 : decode b_Hb_agrees 88 = .ok (.lcmp, 1) := by decide +kernel
theorem d_Hb_agrees_89 : decode b_Hb_agrees 89 = .ok (.ifCond .ne 7, 3) := by decide +kernel
theorem d_Hb_agrees_92 : decode b_Hb_agrees 92 = .ok (.iconst 1, 1) := by decide +kernel
theorem d_Hb_agrees_93 : decode b_Hb_agrees 93 = .ok (.goto 4, 3) := by decide +kernel
theorem d_Hb_agrees_96 : decode b_Hb_agrees 96 = .ok (.iconst 0, 1) := by decide +kernel
theorem d_Hb_agrees_97 : decode b_Hb_agrees 97 = .ok (.ireturn, 1) := by decide +kernel
theorem d_Hb_account_0 : decode b_Hb_account 0 = .ok (.lload_n 1, 1) := by decide +kernel
theorem d_Hb_account_1 : decode b_Hb_account 1 = .ok (.ldc2_w 42, 3) := by decide +kernel
theorem d_Hb_account_4 : decode b_Hb_account 4 = .ok (.lcmp, 1) := by decide +kernel
theorem d_Hb_account_5 : decode b_Hb_account 5 = .ok (.ifCond .lt 11, 3) := by decide +kernel
theorem d_Hb_account_8 : decode b_Hb_account 8 = .ok (.lload_n 1, 1) := by decide +kernel
theorem d_Hb_account_9 : decode b_Hb_account 9 = .ok (.ldc2_w 44, 3) := by decide +kernel
theorem d_Hb_account_12 : decode b_Hb_account 12 = .ok (.lcmp, 1) := by decide +kernel
theorem d_Hb_account_13 : decode b_Hb_account 13 = .ok (.ifCond .le 13, 3) := by decide +kernel
theorem d_Hb_account_16 : decode b_Hb_account 16 = .ok (.new 46, 3) := by decide +kernel
theorem d_Hb_account_19 : decode b_Hb_account 19 = .ok (.dup, 1) := by decide +kernel
theorem d_Hb_account_20 : decode b_Hb_account 20 = .ok (.ldc 48, 2) := by decide +kernel
theorem d_Hb_account_22 : decode b_Hb_account 22 = .ok (.invokespecial 50, 3) := by decide +kernel
theorem d_Hb_account_25 : decode b_Hb_account 25 = .ok (.athrow, 1) := by decide +kernel
theorem d_Hb_account_26 : decode b_Hb_account 26 = .ok (.lload_n 3, 1) := by decide +kernel
theorem d_Hb_account_27 : decode b_Hb_account 27 = .ok (.ldc2_w 42, 3) := by decide +kernel
theorem d_Hb_account_30 : decode b_Hb_account 30 = .ok (.lcmp, 1) := by decide +kernel
theorem d_Hb_account_31 : decode b_Hb_account 31 = .ok (.ifCond .lt 9, 3) := by decide +kernel
theorem d_Hb_account_34 : decode b_Hb_account 34 = .ok (.lload_n 3, 1) := by decide +kernel
theorem d_Hb_account_35 : decode b_Hb_account 35 = .ok (.lconst 0, 1) := by decide +kernel
theorem d_Hb_account_36 : decode b_Hb_account 36 = .ok (.lcmp, 1) := by decide +kernel
theorem d_Hb_account_37 : decode b_Hb_account 37 = .ok (.ifCond .le 13, 3) := by decide +kernel
theorem d_Hb_account_40 : decode b_Hb_account 40 = .ok (.new 46, 3) := by decide +kernel
theorem d_Hb_account_43 : decode b_Hb_account 43 = .ok (.dup, 1) := by decide +kernel
theorem d_Hb_account_44 : decode b_Hb_account 44 = .ok (.ldc 53, 2) := by decide +kernel
theorem d_Hb_account_46 : decode b_Hb_account 46 = .ok (.invokespecial 50, 3) := by decide +kernel
theorem d_Hb_account_49 : decode b_Hb_account 49 = .ok (.athrow, 1) := by decide +kernel
theorem d_Hb_account_50 : decode b_Hb_account 50 = .ok (.aload_n 0, 1) := by decide +kernel
theorem d_Hb_account_51 : decode b_Hb_account 51 = .ok (.getfield 10, 3) := by decide +kernel
theorem d_Hb_account_54 : decode b_Hb_account 54 = .ok (.invokevirtual 55, 3) := by decide +kernel
theorem d_Hb_account_57 : decode b_Hb_account 57 = .ok (.istore 5, 2) := by decide +kernel
theorem d_Hb_account_59 : decode b_Hb_account 59 = .ok (.iload 5, 2) := by decide +kernel
theorem d_Hb_account_61 : decode b_Hb_account 61 = .ok (.bipush 16, 2) := by decide +kernel
theorem d_Hb_account_63 : decode b_Hb_account 63 = .ok (.if_icmp .lt 13, 3) := by decide +kernel
theorem d_Hb_account_66 : decode b_Hb_account 66 = .ok (.new 59, 3) := by decide +kernel
theorem d_Hb_account_69 : decode b_Hb_account 69 = .ok (.dup, 1) := by decide +kernel
theorem d_Hb_account_70 : decode b_Hb_account 70 = .ok (.ldc 61, 2) := by decide +kernel
theorem d_Hb_account_72 : decode b_Hb_account 72 = .ok (.invokespecial 63, 3) := by decide +kernel
theorem d_Hb_account_75 : decode b_Hb_account 75 = .ok (.athrow, 1) := by decide +kernel
theorem d_Hb_account_76 : decode b_Hb_account 76 = .ok (.aload_n 0, 1) := by decide +kernel
theorem d_Hb_account_77 : decode b_Hb_account 77 = .ok (.getfield 10, 3) := by decide +kernel
theorem d_Hb_account_80 : decode b_Hb_account 80 = .ok (.new 19, 3) := by decide +kernel
theorem d_Hb_account_83 : decode b_Hb_account 83 = .ok (.dup, 1) := by decide +kernel
theorem d_Hb_account_84 : decode b_Hb_account 84 = .ok (.iload 5, 2) := by decide +kernel
theorem d_Hb_account_86 : decode b_Hb_account 86 = .ok (.lload_n 1, 1) := by decide +kernel
theorem d_Hb_account_87 : decode b_Hb_account 87 = .ok (.lload_n 3, 1) := by decide +kernel
theorem d_Hb_account_88 : decode b_Hb_account 88 = .ok (.invokespecial 21, 3) := by decide +kernel
theorem d_Hb_account_91 : decode b_Hb_account 91 = .ok (.invokevirtual 64, 3) := by decide +kernel
theorem d_Hb_account_94 : decode b_Hb_account 94 = .ok (.pop, 1) := by decide +kernel
theorem d_Hb_account_95 : decode b_Hb_account 95 = .ok (.iload 5, 2) := by decide +kernel
theorem d_Hb_account_97 : decode b_Hb_account 97 = .ok (.ireturn, 1) := by decide +kernel
theorem d_Hb_ask_0 : decode b_Hb_ask 0 = .ok (.iload_n 1, 1) := by decide +kernel
theorem d_Hb_ask_1 : decode b_Hb_ask 1 = .ok (.invokestatic 68, 3) := by decide +kernel
theorem d_Hb_ask_4 : decode b_Hb_ask 4 = .ok (.aload_n 0, 1) := by decide +kernel
theorem d_Hb_ask_5 : decode b_Hb_ask 5 = .ok (.iload_n 2, 1) := by decide +kernel
theorem d_Hb_ask_6 : decode b_Hb_ask 6 = .ok (.invokevirtual 72, 3) := by decide +kernel
theorem d_Hb_ask_9 : decode b_Hb_ask 9 = .ok (.lload_n 3, 1) := by decide +kernel
theorem d_Hb_ask_10 : decode b_Hb_ask 10 = .ok (.invokestatic 75, 3) := by decide +kernel
theorem d_Hb_ask_13 : decode b_Hb_ask 13 = .ok (.aload_n 0, 1) := by decide +kernel
theorem d_Hb_ask_14 : decode b_Hb_ask 14 = .ok (.iload_n 1, 1) := by decide +kernel
theorem d_Hb_ask_15 : decode b_Hb_ask 15 = .ok (.invokevirtual 79, 3) := by decide +kernel
theorem d_Hb_ask_18 : decode b_Hb_ask 18 = .ok (.ifnull 7, 3) := by decide +kernel
theorem d_Hb_ask_21 : decode b_Hb_ask 21 = .ok (.ldc2_w 83, 3) := by decide +kernel
theorem d_Hb_ask_24 : decode b_Hb_ask 24 = .ok (.lreturn, 1) := by decide +kernel
theorem d_Hb_ask_25 : decode b_Hb_ask 25 = .ok (.aload_n 0, 1) := by decide +kernel
theorem d_Hb_ask_26 : decode b_Hb_ask 26 = .ok (.getfield 16, 3) := by decide +kernel
theorem d_Hb_ask_29 : decode b_Hb_ask 29 = .ok (.invokevirtual 55, 3) := by decide +kernel
theorem d_Hb_ask_32 : decode b_Hb_ask 32 = .ok (.bipush 60, 2) := by decide +kernel
theorem d_Hb_ask_34 : decode b_Hb_ask 34 = .ok (.if_icmp .lt 7, 3) := by decide +kernel
theorem d_Hb_ask_37 : decode b_Hb_ask 37 = .ok (.ldc2_w 85, 3) := by decide +kernel
theorem d_Hb_ask_40 : decode b_Hb_ask 40 = .ok (.lreturn, 1) := by decide +kernel
theorem d_Hb_ask_41 : decode b_Hb_ask 41 = .ok (.aload_n 0, 1) := by decide +kernel
theorem d_Hb_ask_42 : decode b_Hb_ask 42 = .ok (.getfield 10, 3) := by decide +kernel
theorem d_Hb_ask_45 : decode b_Hb_ask 45 = .ok (.iload_n 2, 1) := by decide +kernel
theorem d_Hb_ask_46 : decode b_Hb_ask 46 = .ok (.invokevirtual 87, 3) := by decide +kernel
theorem d_Hb_ask_49 : decode b_Hb_ask 49 = .ok (.checkcast 19, 3) := by decide +kernel
theorem d_Hb_ask_52 : decode b_Hb_ask 52 = .ok (.astore 6, 2) := by decide +kernel
theorem d_Hb_ask_54 : decode b_Hb_ask 54 = .ok (.aload 6, 2) := by decide +kernel
theorem d_Hb_ask_56 : decode b_Hb_ask 56 = .ok (.invokevirtual 91, 3) := by decide +kernel
theorem d_Hb_ask_59 : decode b_Hb_ask 59 = .ok (.lstore 7, 2) := by decide +kernel
theorem d_Hb_ask_61 : decode b_Hb_ask 61 = .ok (.lload_n 3, 1) := by decide +kernel
theorem d_Hb_ask_62 : decode b_Hb_ask 62 = .ok (.lload 7, 2) := by decide +kernel
theorem d_Hb_ask_64 : decode b_Hb_ask 64 = .ok (.lcmp, 1) := by decide +kernel
theorem d_Hb_ask_65 : decode b_Hb_ask 65 = .ok (.ifCond .le 19, 3) := by decide +kernel
theorem d_Hb_ask_68 : decode b_Hb_ask 68 = .ok (.iload 5, 2) := by decide +kernel
theorem d_Hb_ask_70 : decode b_Hb_ask 70 = .ok (.ifCond .eq 10, 3) := by decide +kernel
theorem d_Hb_ask_73 : decode b_Hb_ask 73 = .ok (.lload 7, 2) := by decide +kernel
theorem d_Hb_ask_75 : decode b_Hb_ask 75 = .ok (.lconst 0, 1) := by decide +kernel
theorem d_Hb_ask_76 : decode b_Hb_ask 76 = .ok (.lcmp, 1) := by decide +kernel
theorem d_Hb_ask_77 : decode b_Hb_ask 77 = .ok (.ifCond .gt 7, 3) := by decide +kernel
theorem d_Hb_ask_80 : decode b_Hb_ask 80 = .ok (.ldc2_w 95, 3) := by decide +kernel
theorem d_Hb_ask_83 : decode b_Hb_ask 83 = .ok (.lreturn, 1) := by decide +kernel
theorem d_Hb_ask_84 : decode b_Hb_ask 84 = .ok (.new 97, 3) := by decide +kernel
theorem d_Hb_ask_87 : decode b_Hb_ask 87 = .ok (.dup, 1) := by decide +kernel
theorem d_Hb_ask_88 : decode b_Hb_ask 88 = .ok (.iload_n 1, 1) := by decide +kernel
theorem d_Hb_ask_89 : decode b_Hb_ask 89 = .ok (.aload 6, 2) := by decide +kernel
theorem d_Hb_ask_91 : decode b_Hb_ask 91 = .ok (.invokespecial 99, 3) := by decide +kernel
theorem d_Hb_ask_94 : decode b_Hb_ask 94 = .ok (.astore 9, 2) := by decide +kernel
theorem d_Hb_ask_96 : decode b_Hb_ask 96 = .ok (.aload 9, 2) := by decide +kernel
theorem d_Hb_ask_98 : decode b_Hb_ask 98 = .ok (.lload_n 3, 1) := by decide +kernel
theorem d_Hb_ask_99 : decode b_Hb_ask 99 = .ok (.lload 7, 2) := by decide +kernel
theorem d_Hb_ask_101 : decode b_Hb_ask 101 = .ok (.invokestatic 102, 3) := by decide +kernel
theorem d_Hb_ask_104 : decode b_Hb_ask 104 = .ok (.aload_n 0, 1) := by decide +kernel
theorem d_Hb_ask_105 : decode b_Hb_ask 105 = .ok (.getfield 28, 3) := by decide +kernel
theorem d_Hb_ask_108 : decode b_Hb_ask 108 = .ok (.aload_n 0, 1) := by decide +kernel
theorem d_Hb_ask_109 : decode b_Hb_ask 109 = .ok (.getfield 36, 3) := by decide +kernel
theorem d_Hb_ask_112 : decode b_Hb_ask 112 = .ok (.iadd, 1) := by decide +kernel
theorem d_Hb_ask_113 : decode b_Hb_ask 113 = .ok (.invokevirtual 108, 3) := by decide +kernel
theorem d_Hb_ask_116 : decode b_Hb_ask 116 = .ok (.aload_n 0, 1) := by decide +kernel
theorem d_Hb_ask_117 : decode b_Hb_ask 117 = .ok (.aload 9, 2) := by decide +kernel
theorem d_Hb_ask_119 : decode b_Hb_ask 119 = .ok (.invokevirtual 112, 3) := by decide +kernel
theorem d_Hb_ask_122 : decode b_Hb_ask 122 = .ok (.aload 9, 2) := by decide +kernel
theorem d_Hb_ask_124 : decode b_Hb_ask 124 = .ok (.getfield 116, 3) := by decide +kernel
theorem d_Hb_ask_127 : decode b_Hb_ask 127 = .ok (.lreturn, 1) := by decide +kernel
theorem d_Hb_checkKey_0 : decode b_Hb_checkKey 0 = .ok (.iload_n 0, 1) := by decide +kernel
theorem d_Hb_checkKey_1 : decode b_Hb_checkKey 1 = .ok (.ifCond .lt 9, 3) := by decide +kernel
theorem d_Hb_checkKey_4 : decode b_Hb_checkKey 4 = .ok (.iload_n 0, 1) := by decide +kernel
theorem d_Hb_checkKey_5 : decode b_Hb_checkKey 5 = .ok (.ldc 145, 2) := by decide +kernel
theorem d_Hb_checkKey_7 : decode b_Hb_checkKey 7 = .ok (.if_icmp .le 13, 3) := by decide +kernel
theorem d_Hb_checkKey_10 : decode b_Hb_checkKey 10 = .ok (.new 46, 3) := by decide +kernel
theorem d_Hb_checkKey_13 : decode b_Hb_checkKey 13 = .ok (.dup, 1) := by decide +kernel
theorem d_Hb_checkKey_14 : decode b_Hb_checkKey 14 = .ok (.ldc 206, 2) := by decide +kernel
theorem d_Hb_checkKey_16 : decode b_Hb_checkKey 16 = .ok (.invokespecial 50, 3) := by decide +kernel
theorem d_Hb_checkKey_19 : decode b_Hb_checkKey 19 = .ok (.athrow, 1) := by decide +kernel
theorem d_Hb_checkKey_20 : decode b_Hb_checkKey 20 = .ok (.return_, 1) := by decide +kernel
theorem d_Hb_checkAccount_0 : decode b_Hb_checkAccount 0 = .ok (.iload_n 1, 1) := by decide +kernel
theorem d_Hb_checkAccount_1 : decode b_Hb_checkAccount 1 = .ok (.ifCond .lt 14, 3) := by decide +kernel
theorem d_Hb_checkAccount_4 : decode b_Hb_checkAccount 4 = .ok (.iload_n 1, 1) := by decide +kernel
theorem d_Hb_checkAccount_5 : decode b_Hb_checkAccount 5 = .ok (.aload_n 0, 1) := by decide +kernel
theorem d_Hb_checkAccount_6 : decode b_Hb_checkAccount 6 = .ok (.getfield 10, 3) := by decide +kernel
theorem d_Hb_checkAccount_9 : decode b_Hb_checkAccount 9 = .ok (.invokevirtual 55, 3) := by decide +kernel
theorem d_Hb_checkAccount_12 : decode b_Hb_checkAccount 12 = .ok (.if_icmp .lt 13, 3) := by decide +kernel
theorem d_Hb_checkAccount_15 : decode b_Hb_checkAccount 15 = .ok (.new 46, 3) := by decide +kernel
theorem d_Hb_checkAccount_18 : decode b_Hb_checkAccount 18 = .ok (.dup, 1) := by decide +kernel
theorem d_Hb_checkAccount_19 : decode b_Hb_checkAccount 19 = .ok (.ldc 212, 2) := by decide +kernel
theorem d_Hb_checkAccount_21 : decode b_Hb_checkAccount 21 = .ok (.invokespecial 50, 3) := by decide +kernel
theorem d_Hb_checkAccount_24 : decode b_Hb_checkAccount 24 = .ok (.athrow, 1) := by decide +kernel
theorem d_Hb_checkAccount_25 : decode b_Hb_checkAccount 25 = .ok (.return_, 1) := by decide +kernel
theorem d_Hb_checkAmount_0 : decode b_Hb_checkAmount 0 = .ok (.lload_n 0, 1) := by decide +kernel
theorem d_Hb_checkAmount_1 : decode b_Hb_checkAmount 1 = .ok (.lconst 1, 1) := by decide +kernel
theorem d_Hb_checkAmount_2 : decode b_Hb_checkAmount 2 = .ok (.lcmp, 1) := by decide +kernel
theorem d_Hb_checkAmount_3 : decode b_Hb_checkAmount 3 = .ok (.ifCond .lt 11, 3) := by decide +kernel
theorem d_Hb_checkAmount_6 : decode b_Hb_checkAmount 6 = .ok (.lload_n 0, 1) := by decide +kernel
theorem d_Hb_checkAmount_7 : decode b_Hb_checkAmount 7 = .ok (.ldc2_w 44, 3) := by decide +kernel
theorem d_Hb_checkAmount_10 : decode b_Hb_checkAmount 10 = .ok (.lcmp, 1) := by decide +kernel
theorem d_Hb_checkAmount_11 : decode b_Hb_checkAmount 11 = .ok (.ifCond .le 13, 3) := by decide +kernel
theorem d_Hb_checkAmount_14 : decode b_Hb_checkAmount 14 = .ok (.new 46, 3) := by decide +kernel
theorem d_Hb_checkAmount_17 : decode b_Hb_checkAmount 17 = .ok (.dup, 1) := by decide +kernel
theorem d_Hb_checkAmount_18 : decode b_Hb_checkAmount 18 = .ok (.ldc 208, 2) := by decide +kernel
theorem d_Hb_checkAmount_20 : decode b_Hb_checkAmount 20 = .ok (.invokespecial 50, 3) := by decide +kernel
theorem d_Hb_checkAmount_23 : decode b_Hb_checkAmount 23 = .ok (.athrow, 1) := by decide +kernel
theorem d_Hb_checkAmount_24 : decode b_Hb_checkAmount 24 = .ok (.return_, 1) := by decide +kernel
theorem d_Hb_find_0 : decode b_Hb_find 0 = .ok (.aload_n 0, 1) := by decide +kernel
theorem d_Hb_find_1 : decode b_Hb_find 1 = .ok (.iload_n 1, 1) := by decide +kernel
theorem d_Hb_find_2 : decode b_Hb_find 2 = .ok (.invokevirtual 214, 3) := by decide +kernel
theorem d_Hb_find_5 : decode b_Hb_find 5 = .ok (.istore_n 2, 1) := by decide +kernel
theorem d_Hb_find_6 : decode b_Hb_find 6 = .ok (.iload_n 2, 1) := by decide +kernel
theorem d_Hb_find_7 : decode b_Hb_find 7 = .ok (.aload_n 0, 1) := by decide +kernel
theorem d_Hb_find_8 : decode b_Hb_find 8 = .ok (.getfield 16, 3) := by decide +kernel
theorem d_Hb_find_11 : decode b_Hb_find 11 = .ok (.invokevirtual 55, 3) := by decide +kernel
theorem d_Hb_find_14 : decode b_Hb_find 14 = .ok (.if_icmp .lt 5, 3) := by decide +kernel
theorem d_Hb_find_17 : decode b_Hb_find 17 = .ok (.aconst_null, 1) := by decide +kernel
theorem d_Hb_find_18 : decode b_Hb_find 18 = .ok (.areturn, 1) := by decide +kernel
theorem d_Hb_find_19 : decode b_Hb_find 19 = .ok (.aload_n 0, 1) := by decide +kernel
theorem d_Hb_find_20 : decode b_Hb_find 20 = .ok (.getfield 16, 3) := by decide +kernel
theorem d_Hb_find_23 : decode b_Hb_find 23 = .ok (.iload_n 2, 1) := by decide +kernel
theorem d_Hb_find_24 : decode b_Hb_find 24 = .ok (.invokevirtual 87, 3) := by decide +kernel
theorem d_Hb_find_27 : decode b_Hb_find 27 = .ok (.checkcast 97, 3) := by decide +kernel
theorem d_Hb_find_30 : decode b_Hb_find 30 = .ok (.astore_n 3, 1) := by decide +kernel
theorem d_Hb_find_31 : decode b_Hb_find 31 = .ok (.aload_n 3, 1) := by decide +kernel
theorem d_Hb_find_32 : decode b_Hb_find 32 = .ok (.getfield 189, 3) := by decide +kernel
theorem d_Hb_find_35 : decode b_Hb_find 35 = .ok (.iload_n 1, 1) := by decide +kernel
theorem d_Hb_find_36 : decode b_Hb_find 36 = .ok (.if_icmp .ne 7, 3) := by decide +kernel
theorem d_Hb_find_39 : decode b_Hb_find 39 = .ok (.aload_n 3, 1) := by decide +kernel
theorem d_Hb_find_40 : decode b_Hb_find 40 = .ok (.goto 4, 3) := by decide +kernel
theorem d_Hb_find_43 : decode b_Hb_find 43 = .ok (.aconst_null, 1) := by decide +kernel
theorem d_Hb_find_44 : decode b_Hb_find 44 = .ok (.areturn, 1) := by decide +kernel
theorem d_Hb_placeOf_0 : decode b_Hb_placeOf 0 = .ok (.iconst 0, 1) := by decide +kernel
theorem d_Hb_placeOf_1 : decode b_Hb_placeOf 1 = .ok (.istore_n 2, 1) := by decide +kernel
theorem d_Hb_placeOf_2 : decode b_Hb_placeOf 2 = .ok (.iload_n 2, 1) := by decide +kernel
theorem d_Hb_placeOf_3 : decode b_Hb_placeOf 3 = .ok (.aload_n 0, 1) := by decide +kernel
theorem d_Hb_placeOf_4 : decode b_Hb_placeOf 4 = .ok (.getfield 16, 3) := by decide +kernel
theorem d_Hb_placeOf_7 : decode b_Hb_placeOf 7 = .ok (.invokevirtual 55, 3) := by decide +kernel
theorem d_Hb_placeOf_10 : decode b_Hb_placeOf 10 = .ok (.if_icmp .ge 27, 3) := by decide +kernel
theorem d_Hb_placeOf_13 : decode b_Hb_placeOf 13 = .ok (.aload_n 0, 1) := by decide +kernel
theorem d_Hb_placeOf_14 : decode b_Hb_placeOf 14 = .ok (.getfield 16, 3) := by decide +kernel
theorem d_Hb_placeOf_17 : decode b_Hb_placeOf 17 = .ok (.iload_n 2, 1) := by decide +kernel
theorem d_Hb_placeOf_18 : decode b_Hb_placeOf 18 = .ok (.invokevirtual 87, 3) := by decide +kernel
theorem d_Hb_placeOf_21 : decode b_Hb_placeOf 21 = .ok (.checkcast 97, 3) := by decide +kernel
theorem d_Hb_placeOf_24 : decode b_Hb_placeOf 24 = .ok (.getfield 189, 3) := by decide +kernel
theorem d_Hb_placeOf_27 : decode b_Hb_placeOf 27 = .ok (.iload_n 1, 1) := by decide +kernel
theorem d_Hb_placeOf_28 : decode b_Hb_placeOf 28 = .ok (.if_icmp .ge 9, 3) := by decide +kernel
theorem d_Hb_placeOf_31 : decode b_Hb_placeOf 31 = .ok (.iinc 2 1, 3) := by decide +kernel
theorem d_Hb_placeOf_34 : decode b_Hb_placeOf 34 = .ok (.goto (-32), 3) := by decide +kernel
theorem d_Hb_placeOf_37 : decode b_Hb_placeOf 37 = .ok (.iload_n 2, 1) := by decide +kernel
theorem d_Hb_placeOf_38 : decode b_Hb_placeOf 38 = .ok (.ireturn, 1) := by decide +kernel
theorem d_Hb_enter_0 : decode b_Hb_enter 0 = .ok (.aload_n 0, 1) := by decide +kernel
theorem d_Hb_enter_1 : decode b_Hb_enter 1 = .ok (.getfield 16, 3) := by decide +kernel
theorem d_Hb_enter_4 : decode b_Hb_enter 4 = .ok (.aload_n 0, 1) := by decide +kernel
theorem d_Hb_enter_5 : decode b_Hb_enter 5 = .ok (.aload_n 1, 1) := by decide +kernel
theorem d_Hb_enter_6 : decode b_Hb_enter 6 = .ok (.getfield 189, 3) := by decide +kernel
theorem d_Hb_enter_9 : decode b_Hb_enter 9 = .ok (.invokevirtual 214, 3) := by decide +kernel
theorem d_Hb_enter_12 : decode b_Hb_enter 12 = .ok (.aload_n 1, 1) := by decide +kernel
theorem d_Hb_enter_13 : decode b_Hb_enter 13 = .ok (.invokevirtual 217, 3) := by decide +kernel
theorem d_Hb_enter_16 : decode b_Hb_enter 16 = .ok (.return_, 1) := by decide +kernel
theorem d_Hb_clear_0 : decode b_Hb_clear 0 = .ok (.iload_n 1, 1) := by decide +kernel
theorem d_Hb_clear_1 : decode b_Hb_clear 1 = .ok (.invokestatic 68, 3) := by decide +kernel
theorem d_Hb_clear_4 : decode b_Hb_clear 4 = .ok (.lload_n 2, 1) := by decide +kernel
theorem d_Hb_clear_5 : decode b_Hb_clear 5 = .ok (.invokestatic 75, 3) := by decide +kernel
theorem d_Hb_clear_8 : decode b_Hb_clear 8 = .ok (.aload_n 0, 1) := by decide +kernel
theorem d_Hb_clear_9 : decode b_Hb_clear 9 = .ok (.iload_n 1, 1) := by decide +kernel
theorem d_Hb_clear_10 : decode b_Hb_clear 10 = .ok (.invokevirtual 79, 3) := by decide +kernel
theorem d_Hb_clear_13 : decode b_Hb_clear 13 = .ok (.astore 5, 2) := by decide +kernel
theorem d_Hb_clear_15 : decode b_Hb_clear 15 = .ok (.aload 5, 2) := by decide +kernel
theorem d_Hb_clear_17 : decode b_Hb_clear 17 = .ok (.ifnonnull 7, 3) := by decide +kernel
theorem d_Hb_clear_20 : decode b_Hb_clear 20 = .ok (.ldc2_w 120, 3) := by decide +kernel
theorem d_Hb_clear_23 : decode b_Hb_clear 23 = .ok (.lreturn, 1) := by decide +kernel
theorem d_Hb_clear_24 : decode b_Hb_clear 24 = .ok (.aload 5, 2) := by decide +kernel
theorem d_Hb_clear_26 : decode b_Hb_clear 26 = .ok (.getfield 122, 3) := by decide +kernel
theorem d_Hb_clear_29 : decode b_Hb_clear 29 = .ok (.iconst 1, 1) := by decide +kernel
theorem d_Hb_clear_30 : decode b_Hb_clear 30 = .ok (.if_icmp .eq 7, 3) := by decide +kernel
theorem d_Hb_clear_33 : decode b_Hb_clear 33 = .ok (.ldc2_w 125, 3) := by decide +kernel
theorem d_Hb_clear_36 : decode b_Hb_clear 36 = .ok (.lreturn, 1) := by decide +kernel
theorem d_Hb_clear_37 : decode b_Hb_clear 37 = .ok (.lload_n 2, 1) := by decide +kernel
theorem d_Hb_clear_38 : decode b_Hb_clear 38 = .ok (.aload 5, 2) := by decide +kernel
theorem d_Hb_clear_40 : decode b_Hb_clear 40 = .ok (.getfield 116, 3) := by decide +kernel
theorem d_Hb_clear_43 : decode b_Hb_clear 43 = .ok (.lcmp, 1) := by decide +kernel
theorem d_Hb_clear_44 : decode b_Hb_clear 44 = .ok (.ifCond .le 7, 3) := by decide +kernel
theorem d_Hb_clear_47 : decode b_Hb_clear 47 = .ok (.ldc2_w 127, 3) := by decide +kernel
theorem d_Hb_clear_50 : decode b_Hb_clear 50 = .ok (.lreturn, 1) := by decide +kernel
theorem d_Hb_clear_51 : decode b_Hb_clear 51 = .ok (.aload 5, 2) := by decide +kernel
theorem d_Hb_clear_53 : decode b_Hb_clear 53 = .ok (.lload_n 2, 1) := by decide +kernel
theorem d_Hb_clear_54 : decode b_Hb_clear 54 = .ok (.invokevirtual 129, 3) := by decide +kernel
theorem d_Hb_clear_57 : decode b_Hb_clear 57 = .ok (.iload 4, 2) := by decide +kernel
theorem d_Hb_clear_59 : decode b_Hb_clear 59 = .ok (.ifCond .eq 13, 3) := by decide +kernel
theorem d_Hb_clear_62 : decode b_Hb_clear 62 = .ok (.aload 5, 2) := by decide +kernel
theorem d_Hb_clear_64 : decode b_Hb_clear 64 = .ok (.getfield 116, 3) := by decide +kernel
theorem d_Hb_clear_67 : decode b_Hb_clear 67 = .ok (.lconst 0, 1) := by decide +kernel
theorem d_Hb_clear_68 : decode b_Hb_clear 68 = .ok (.lcmp, 1) := by decide +kernel
theorem d_Hb_clear_69 : decode b_Hb_clear 69 = .ok (.ifCond .ne 12, 3) := by decide +kernel
theorem d_Hb_clear_72 : decode b_Hb_clear 72 = .ok (.aload 5, 2) := by decide +kernel
theorem d_Hb_clear_74 : decode b_Hb_clear 74 = .ok (.aload_n 0, 1) := by decide +kernel
theorem d_Hb_clear_75 : decode b_Hb_clear 75 = .ok (.getfield 28, 3) := by decide +kernel
theorem d_Hb_clear_78 : decode b_Hb_clear 78 = .ok (.invokevirtual 132, 3) := by decide +kernel
theorem d_Hb_clear_81 : decode b_Hb_clear 81 = .ok (.aload 5, 2) := by decide +kernel
theorem d_Hb_clear_83 : decode b_Hb_clear 83 = .ok (.getfield 116, 3) := by decide +kernel
theorem d_Hb_clear_86 : decode b_Hb_clear 86 = .ok (.lreturn, 1) := by decide +kernel
theorem d_Hb_undo_0 : decode b_Hb_undo 0 = .ok (.iload_n 1, 1) := by decide +kernel
theorem d_Hb_undo_1 : decode b_Hb_undo 1 = .ok (.invokestatic 68, 3) := by decide +kernel
theorem d_Hb_undo_4 : decode b_Hb_undo 4 = .ok (.lload_n 2, 1) := by decide +kernel
theorem d_Hb_undo_5 : decode b_Hb_undo 5 = .ok (.lconst 0, 1) := by decide +kernel
theorem d_Hb_undo_6 : decode b_Hb_undo 6 = .ok (.lcmp, 1) := by decide +kernel
theorem d_Hb_undo_7 : decode b_Hb_undo 7 = .ok (.ifCond .ge 13, 3) := by decide +kernel
theorem d_Hb_undo_10 : decode b_Hb_undo 10 = .ok (.new 46, 3) := by decide +kernel
theorem d_Hb_undo_13 : decode b_Hb_undo 13 = .ok (.dup, 1) := by decide +kernel
theorem d_Hb_undo_14 : decode b_Hb_undo 14 = .ok (.ldc 135, 2) := by decide +kernel
theorem d_Hb_undo_16 : decode b_Hb_undo 16 = .ok (.invokespecial 50, 3) := by decide +kernel
theorem d_Hb_undo_19 : decode b_Hb_undo 19 = .ok (.athrow, 1) := by decide +kernel
theorem d_Hb_undo_20 : decode b_Hb_undo 20 = .ok (.aload_n 0, 1) := by decide +kernel
theorem d_Hb_undo_21 : decode b_Hb_undo 21 = .ok (.iload_n 1, 1) := by decide +kernel
theorem d_Hb_undo_22 : decode b_Hb_undo 22 = .ok (.invokevirtual 79, 3) := by decide +kernel
theorem d_Hb_undo_25 : decode b_Hb_undo 25 = .ok (.astore 5, 2) := by decide +kernel
theorem d_Hb_undo_27 : decode b_Hb_undo 27 = .ok (.aload 5, 2) := by decide +kernel
theorem d_Hb_undo_29 : decode b_Hb_undo 29 = .ok (.ifnonnull 40, 3) := by decide +kernel
theorem d_Hb_undo_32 : decode b_Hb_undo 32 = .ok (.iload 4, 2) := by decide +kernel
theorem d_Hb_undo_34 : decode b_Hb_undo 34 = .ok (.ifCond .eq 31, 3) := by decide +kernel
theorem d_Hb_undo_37 : decode b_Hb_undo 37 = .ok (.aload_n 0, 1) := by decide +kernel
theorem d_Hb_undo_38 : decode b_Hb_undo 38 = .ok (.getfield 16, 3) := by decide +kernel
theorem d_Hb_undo_41 : decode b_Hb_undo 41 = .ok (.invokevirtual 55, 3) := by decide +kernel
theorem d_Hb_undo_44 : decode b_Hb_undo 44 = .ok (.bipush 60, 2) := by decide +kernel
theorem d_Hb_undo_46 : decode b_Hb_undo 46 = .ok (.if_icmp .ge 19, 3) := by decide +kernel
theorem d_Hb_undo_49 : decode b_Hb_undo 49 = .ok (.aload_n 0, 1) := by decide +kernel
theorem d_Hb_undo_50 : decode b_Hb_undo 50 = .ok (.new 97, 3) := by decide +kernel
theorem d_Hb_undo_53 : decode b_Hb_undo 53 = .ok (.dup, 1) := by decide +kernel
theorem d_Hb_undo_54 : decode b_Hb_undo 54 = .ok (.iload_n 1, 1) := by decide +kernel
theorem d_Hb_undo_55 : decode b_Hb_undo 55 = .ok (.aload_n 0, 1) := by decide +kernel
theorem d_Hb_undo_56 : decode b_Hb_undo 56 = .ok (.getfield 24, 3) := by decide +kernel
theorem d_Hb_undo_59 : decode b_Hb_undo 59 = .ok (.invokespecial 99, 3) := by decide +kernel
theorem d_Hb_undo_62 : decode b_Hb_undo 62 = .ok (.invokevirtual 112, 3) := by decide +kernel
theorem d_Hb_undo_65 : decode b_Hb_undo 65 = .ok (.ldc2_w 120, 3) := by decide +kernel
theorem d_Hb_undo_68 : decode b_Hb_undo 68 = .ok (.lreturn, 1) := by decide +kernel
theorem d_Hb_undo_69 : decode b_Hb_undo 69 = .ok (.aload 5, 2) := by decide +kernel
theorem d_Hb_undo_71 : decode b_Hb_undo 71 = .ok (.getfield 122, 3) := by decide +kernel
theorem d_Hb_undo_74 : decode b_Hb_undo 74 = .ok (.iconst 3, 1) := by decide +kernel
theorem d_Hb_undo_75 : decode b_Hb_undo 75 = .ok (.if_icmp .eq 13, 3) := by decide +kernel
theorem d_Hb_undo_78 : decode b_Hb_undo 78 = .ok (.aload 5, 2) := by decide +kernel
theorem d_Hb_undo_80 : decode b_Hb_undo 80 = .ok (.getfield 137, 3) := by decide +kernel
theorem d_Hb_undo_83 : decode b_Hb_undo 83 = .ok (.lconst 0, 1) := by decide +kernel
theorem d_Hb_undo_84 : decode b_Hb_undo 84 = .ok (.lcmp, 1) := by decide +kernel
theorem d_Hb_undo_85 : decode b_Hb_undo 85 = .ok (.ifCond .le 7, 3) := by decide +kernel
theorem d_Hb_undo_88 : decode b_Hb_undo 88 = .ok (.ldc2_w 125, 3) := by decide +kernel
theorem d_Hb_undo_91 : decode b_Hb_undo 91 = .ok (.lreturn, 1) := by decide +kernel
theorem d_Hb_undo_92 : decode b_Hb_undo 92 = .ok (.aload 5, 2) := by decide +kernel
theorem d_Hb_undo_94 : decode b_Hb_undo 94 = .ok (.getfield 122, 3) := by decide +kernel
theorem d_Hb_undo_97 : decode b_Hb_undo 97 = .ok (.iconst 1, 1) := by decide +kernel
theorem d_Hb_undo_98 : decode b_Hb_undo 98 = .ok (.if_icmp .ne 37, 3) := by decide +kernel
theorem d_Hb_undo_101 : decode b_Hb_undo 101 = .ok (.lload_n 2, 1) := by decide +kernel
theorem d_Hb_undo_102 : decode b_Hb_undo 102 = .ok (.lconst 0, 1) := by decide +kernel
theorem d_Hb_undo_103 : decode b_Hb_undo 103 = .ok (.lcmp, 1) := by decide +kernel
theorem d_Hb_undo_104 : decode b_Hb_undo 104 = .ok (.ifCond .le 22, 3) := by decide +kernel
theorem d_Hb_undo_107 : decode b_Hb_undo 107 = .ok (.lload_n 2, 1) := by decide +kernel
theorem d_Hb_undo_108 : decode b_Hb_undo 108 = .ok (.aload 5, 2) := by decide +kernel
theorem d_Hb_undo_110 : decode b_Hb_undo 110 = .ok (.getfield 116, 3) := by decide +kernel
theorem d_Hb_undo_113 : decode b_Hb_undo 113 = .ok (.lcmp, 1) := by decide +kernel
theorem d_Hb_undo_114 : decode b_Hb_undo 114 = .ok (.ifCond .ge 12, 3) := by decide +kernel
theorem d_Hb_undo_117 : decode b_Hb_undo 117 = .ok (.aload 5, 2) := by decide +kernel
theorem d_Hb_undo_119 : decode b_Hb_undo 119 = .ok (.lload_n 2, 1) := by decide +kernel
theorem d_Hb_undo_120 : decode b_Hb_undo 120 = .ok (.invokevirtual 140, 3) := by decide +kernel
theorem d_Hb_undo_123 : decode b_Hb_undo 123 = .ok (.goto 12, 3) := by decide +kernel
theorem d_Hb_undo_126 : decode b_Hb_undo 126 = .ok (.aload 5, 2) := by decide +kernel
theorem d_Hb_undo_128 : decode b_Hb_undo 128 = .ok (.aload_n 0, 1) := by decide +kernel
theorem d_Hb_undo_129 : decode b_Hb_undo 129 = .ok (.getfield 28, 3) := by decide +kernel
theorem d_Hb_undo_132 : decode b_Hb_undo 132 = .ok (.invokevirtual 132, 3) := by decide +kernel
theorem d_Hb_undo_135 : decode b_Hb_undo 135 = .ok (.aload 5, 2) := by decide +kernel
theorem d_Hb_undo_137 : decode b_Hb_undo 137 = .ok (.getfield 116, 3) := by decide +kernel
theorem d_Hb_undo_140 : decode b_Hb_undo 140 = .ok (.lreturn, 1) := by decide +kernel
theorem d_Hb_ticks_0 : decode b_Hb_ticks 0 = .ok (.iload_n 1, 1) := by decide +kernel
theorem d_Hb_ticks_1 : decode b_Hb_ticks 1 = .ok (.iconst 1, 1) := by decide +kernel
theorem d_Hb_ticks_2 : decode b_Hb_ticks 2 = .ok (.if_icmp .lt 10, 3) := by decide +kernel
theorem d_Hb_ticks_5 : decode b_Hb_ticks 5 = .ok (.iload_n 1, 1) := by decide +kernel
theorem d_Hb_ticks_6 : decode b_Hb_ticks 6 = .ok (.sipush 1000, 3) := by decide +kernel
theorem d_Hb_ticks_9 : decode b_Hb_ticks 9 = .ok (.if_icmp .le 13, 3) := by decide +kernel
theorem d_Hb_ticks_12 : decode b_Hb_ticks 12 = .ok (.new 46, 3) := by decide +kernel
theorem d_Hb_ticks_15 : decode b_Hb_ticks 15 = .ok (.dup, 1) := by decide +kernel
theorem d_Hb_ticks_16 : decode b_Hb_ticks 16 = .ok (.ldc 143, 2) := by decide +kernel
theorem d_Hb_ticks_18 : decode b_Hb_ticks 18 = .ok (.invokespecial 50, 3) := by decide +kernel
theorem d_Hb_ticks_21 : decode b_Hb_ticks 21 = .ok (.athrow, 1) := by decide +kernel
theorem d_Hb_ticks_22 : decode b_Hb_ticks 22 = .ok (.aload_n 0, 1) := by decide +kernel
theorem d_Hb_ticks_23 : decode b_Hb_ticks 23 = .ok (.getfield 28, 3) := by decide +kernel
theorem d_Hb_ticks_26 : decode b_Hb_ticks 26 = .ok (.iload_n 1, 1) := by decide +kernel
theorem d_Hb_ticks_27 : decode b_Hb_ticks 27 = .ok (.iadd, 1) := by decide +kernel
theorem d_Hb_ticks_28 : decode b_Hb_ticks 28 = .ok (.ldc 145, 2) := by decide +kernel
theorem d_Hb_ticks_30 : decode b_Hb_ticks 30 = .ok (.if_icmp .le 13, 3) := by decide +kernel
theorem d_Hb_ticks_33 : decode b_Hb_ticks 33 = .ok (.new 59, 3) := by decide +kernel
theorem d_Hb_ticks_36 : decode b_Hb_ticks 36 = .ok (.dup, 1) := by decide +kernel
theorem d_Hb_ticks_37 : decode b_Hb_ticks 37 = .ok (.ldc 146, 2) := by decide +kernel
theorem d_Hb_ticks_39 : decode b_Hb_ticks 39 = .ok (.invokespecial 63, 3) := by decide +kernel
theorem d_Hb_ticks_42 : decode b_Hb_ticks 42 = .ok (.athrow, 1) := by decide +kernel
theorem d_Hb_ticks_43 : decode b_Hb_ticks 43 = .ok (.aload_n 0, 1) := by decide +kernel
theorem d_Hb_ticks_44 : decode b_Hb_ticks 44 = .ok (.dup, 1) := by decide +kernel
theorem d_Hb_ticks_45 : decode b_Hb_ticks 45 = .ok (.getfield 28, 3) := by decide +kernel
theorem d_Hb_ticks_48 : decode b_Hb_ticks 48 = .ok (.iload_n 1, 1) := by decide +kernel
theorem d_Hb_ticks_49 : decode b_Hb_ticks 49 = .ok (.iadd, 1) := by decide +kernel
theorem d_Hb_ticks_50 : decode b_Hb_ticks 50 = .ok (.putfield 28, 3) := by decide +kernel
theorem d_Hb_ticks_53 : decode b_Hb_ticks 53 = .ok (.iconst 0, 1) := by decide +kernel
theorem d_Hb_ticks_54 : decode b_Hb_ticks 54 = .ok (.istore_n 2, 1) := by decide +kernel
theorem d_Hb_ticks_55 : decode b_Hb_ticks 55 = .ok (.iload_n 2, 1) := by decide +kernel
theorem d_Hb_ticks_56 : decode b_Hb_ticks 56 = .ok (.aload_n 0, 1) := by decide +kernel
theorem d_Hb_ticks_57 : decode b_Hb_ticks 57 = .ok (.getfield 16, 3) := by decide +kernel
theorem d_Hb_ticks_60 : decode b_Hb_ticks 60 = .ok (.invokevirtual 55, 3) := by decide +kernel
theorem d_Hb_ticks_63 : decode b_Hb_ticks 63 = .ok (.if_icmp .ge 27, 3) := by decide +kernel
theorem d_Hb_ticks_66 : decode b_Hb_ticks 66 = .ok (.aload_n 0, 1) := by decide +kernel
theorem d_Hb_ticks_67 : decode b_Hb_ticks 67 = .ok (.getfield 16, 3) := by decide +kernel
theorem d_Hb_ticks_70 : decode b_Hb_ticks 70 = .ok (.iload_n 2, 1) := by decide +kernel
theorem d_Hb_ticks_71 : decode b_Hb_ticks 71 = .ok (.invokevirtual 87, 3) := by decide +kernel
theorem d_Hb_ticks_74 : decode b_Hb_ticks 74 = .ok (.checkcast 97, 3) := by decide +kernel
theorem d_Hb_ticks_77 : decode b_Hb_ticks 77 = .ok (.aload_n 0, 1) := by decide +kernel
theorem d_Hb_ticks_78 : decode b_Hb_ticks 78 = .ok (.getfield 28, 3) := by decide +kernel
theorem d_Hb_ticks_81 : decode b_Hb_ticks 81 = .ok (.invokevirtual 148, 3) := by decide +kernel
theorem d_Hb_ticks_84 : decode b_Hb_ticks 84 = .ok (.iinc 2 1, 3) := by decide +kernel
theorem d_Hb_ticks_87 : decode b_Hb_ticks 87 = .ok (.goto (-32), 3) := by decide +kernel
theorem d_Hb_ticks_90 : decode b_Hb_ticks 90 = .ok (.aload_n 0, 1) := by decide +kernel
theorem d_Hb_ticks_91 : decode b_Hb_ticks 91 = .ok (.getfield 28, 3) := by decide +kernel
theorem d_Hb_ticks_94 : decode b_Hb_ticks 94 = .ok (.ireturn, 1) := by decide +kernel
theorem d_Hb_charge_0 : decode b_Hb_charge 0 = .ok (.iload_n 1, 1) := by decide +kernel
theorem d_Hb_charge_1 : decode b_Hb_charge 1 = .ok (.invokestatic 68, 3) := by decide +kernel
theorem d_Hb_charge_4 : decode b_Hb_charge 4 = .ok (.lload_n 2, 1) := by decide +kernel
theorem d_Hb_charge_5 : decode b_Hb_charge 5 = .ok (.lconst 1, 1) := by decide +kernel
theorem d_Hb_charge_6 : decode b_Hb_charge 6 = .ok (.lcmp, 1) := by decide +kernel
theorem d_Hb_charge_7 : decode b_Hb_charge 7 = .ok (.ifCond .ge 13, 3) := by decide +kernel
theorem d_Hb_charge_10 : decode b_Hb_charge 10 = .ok (.new 46, 3) := by decide +kernel
theorem d_Hb_charge_13 : decode b_Hb_charge 13 = .ok (.dup, 1) := by decide +kernel
theorem d_Hb_charge_14 : decode b_Hb_charge 14 = .ok (.ldc 151, 2) := by decide +kernel
theorem d_Hb_charge_16 : decode b_Hb_charge 16 = .ok (.invokespecial 50, 3) := by decide +kernel
theorem d_Hb_charge_19 : decode b_Hb_charge 19 = .ok (.athrow, 1) := by decide +kernel
theorem d_Hb_charge_20 : decode b_Hb_charge 20 = .ok (.aload_n 0, 1) := by decide +kernel
theorem d_Hb_charge_21 : decode b_Hb_charge 21 = .ok (.iload_n 1, 1) := by decide +kernel
theorem d_Hb_charge_22 : decode b_Hb_charge 22 = .ok (.invokevirtual 79, 3) := by decide +kernel
theorem d_Hb_charge_25 : decode b_Hb_charge 25 = .ok (.astore 4, 2) := by decide +kernel
theorem d_Hb_charge_27 : decode b_Hb_charge 27 = .ok (.aload 4, 2) := by decide +kernel
theorem d_Hb_charge_29 : decode b_Hb_charge 29 = .ok (.ifnonnull 6, 3) := by decide +kernel
theorem d_Hb_charge_32 : decode b_Hb_charge 32 = .ok (.bipush (-6), 2) := by decide +kernel
theorem d_Hb_charge_34 : decode b_Hb_charge 34 = .ok (.ireturn, 1) := by decide +kernel
theorem d_Hb_charge_35 : decode b_Hb_charge 35 = .ok (.aload 4, 2) := by decide +kernel
theorem d_Hb_charge_37 : decode b_Hb_charge 37 = .ok (.getfield 122, 3) := by decide +kernel
theorem d_Hb_charge_40 : decode b_Hb_charge 40 = .ok (.iconst 3, 1) := by decide +kernel
theorem d_Hb_charge_41 : decode b_Hb_charge 41 = .ok (.if_icmp .ne 11, 3) := by decide +kernel
theorem d_Hb_charge_44 : decode b_Hb_charge 44 = .ok (.aload 4, 2) := by decide +kernel
theorem d_Hb_charge_46 : decode b_Hb_charge 46 = .ok (.getfield 153, 3) := by decide +kernel
theorem d_Hb_charge_49 : decode b_Hb_charge 49 = .ok (.ifCond .eq 6, 3) := by decide +kernel
theorem d_Hb_charge_52 : decode b_Hb_charge 52 = .ok (.bipush (-9), 2) := by decide +kernel
theorem d_Hb_charge_54 : decode b_Hb_charge 54 = .ok (.ireturn, 1) := by decide +kernel
theorem d_Hb_charge_55 : decode b_Hb_charge 55 = .ok (.aload_n 0, 1) := by decide +kernel
theorem d_Hb_charge_56 : decode b_Hb_charge 56 = .ok (.aload 4, 2) := by decide +kernel
theorem d_Hb_charge_58 : decode b_Hb_charge 58 = .ok (.invokevirtual 156, 3) := by decide +kernel
theorem d_Hb_charge_61 : decode b_Hb_charge 61 = .ok (.ifCond .eq 6, 3) := by decide +kernel
theorem d_Hb_charge_64 : decode b_Hb_charge 64 = .ok (.bipush (-10), 2) := by decide +kernel
theorem d_Hb_charge_66 : decode b_Hb_charge 66 = .ok (.ireturn, 1) := by decide +kernel
theorem d_Hb_charge_67 : decode b_Hb_charge 67 = .ok (.lload_n 2, 1) := by decide +kernel
theorem d_Hb_charge_68 : decode b_Hb_charge 68 = .ok (.aload 4, 2) := by decide +kernel
theorem d_Hb_charge_70 : decode b_Hb_charge 70 = .ok (.getfield 137, 3) := by decide +kernel
theorem d_Hb_charge_73 : decode b_Hb_charge 73 = .ok (.lcmp, 1) := by decide +kernel
theorem d_Hb_charge_74 : decode b_Hb_charge 74 = .ok (.ifCond .le 6, 3) := by decide +kernel
theorem d_Hb_charge_77 : decode b_Hb_charge 77 = .ok (.bipush (-11), 2) := by decide +kernel
theorem d_Hb_charge_79 : decode b_Hb_charge 79 = .ok (.ireturn, 1) := by decide +kernel
theorem d_Hb_charge_80 : decode b_Hb_charge 80 = .ok (.aload 4, 2) := by decide +kernel
theorem d_Hb_charge_82 : decode b_Hb_charge 82 = .ok (.lload_n 2, 1) := by decide +kernel
theorem d_Hb_charge_83 : decode b_Hb_charge 83 = .ok (.aload_n 0, 1) := by decide +kernel
theorem d_Hb_charge_84 : decode b_Hb_charge 84 = .ok (.getfield 28, 3) := by decide +kernel
theorem d_Hb_charge_87 : decode b_Hb_charge 87 = .ok (.aload_n 0, 1) := by decide +kernel
theorem d_Hb_charge_88 : decode b_Hb_charge 88 = .ok (.getfield 39, 3) := by decide +kernel
theorem d_Hb_charge_91 : decode b_Hb_charge 91 = .ok (.iadd, 1) := by decide +kernel
theorem d_Hb_charge_92 : decode b_Hb_charge 92 = .ok (.invokevirtual 160, 3) := by decide +kernel
theorem d_Hb_charge_95 : decode b_Hb_charge 95 = .ok (.iconst 1, 1) := by decide +kernel
theorem d_Hb_charge_96 : decode b_Hb_charge 96 = .ok (.ireturn, 1) := by decide +kernel
theorem d_Hb_represent_0 : decode b_Hb_represent 0 = .ok (.iload_n 1, 1) := by decide +kernel
theorem d_Hb_represent_1 : decode b_Hb_represent 1 = .ok (.invokestatic 68, 3) := by decide +kernel
theorem d_Hb_represent_4 : decode b_Hb_represent 4 = .ok (.aload_n 0, 1) := by decide +kernel
theorem d_Hb_represent_5 : decode b_Hb_represent 5 = .ok (.iload_n 1, 1) := by decide +kernel
theorem d_Hb_represent_6 : decode b_Hb_represent 6 = .ok (.invokevirtual 79, 3) := by decide +kernel
theorem d_Hb_represent_9 : decode b_Hb_represent 9 = .ok (.astore_n 2, 1) := by decide +kernel
theorem d_Hb_represent_10 : decode b_Hb_represent 10 = .ok (.aload_n 2, 1) := by decide +kernel
theorem d_Hb_represent_11 : decode b_Hb_represent 11 = .ok (.ifnonnull 6, 3) := by decide +kernel
theorem d_Hb_represent_14 : decode b_Hb_represent 14 = .ok (.bipush (-6), 2) := by decide +kernel
theorem d_Hb_represent_16 : decode b_Hb_represent 16 = .ok (.ireturn, 1) := by decide +kernel
theorem d_Hb_represent_17 : decode b_Hb_represent 17 = .ok (.aload_n 2, 1) := by decide +kernel
theorem d_Hb_represent_18 : decode b_Hb_represent 18 = .ok (.getfield 153, 3) := by decide +kernel
theorem d_Hb_represent_21 : decode b_Hb_represent 21 = .ok (.iconst 1, 1) := by decide +kernel
theorem d_Hb_represent_22 : decode b_Hb_represent 22 = .ok (.if_icmp .eq 6, 3) := by decide +kernel
theorem d_Hb_represent_25 : decode b_Hb_represent 25 = .ok (.bipush (-9), 2) := by decide +kernel
theorem d_Hb_represent_27 : decode b_Hb_represent 27 = .ok (.ireturn, 1) := by decide +kernel
theorem d_Hb_represent_28 : decode b_Hb_represent 28 = .ok (.aload_n 2, 1) := by decide +kernel
theorem d_Hb_represent_29 : decode b_Hb_represent 29 = .ok (.aload_n 0, 1) := by decide +kernel
theorem d_Hb_represent_30 : decode b_Hb_represent 30 = .ok (.getfield 28, 3) := by decide +kernel
theorem d_Hb_represent_33 : decode b_Hb_represent 33 = .ok (.aload_n 0, 1) := by decide +kernel
theorem d_Hb_represent_34 : decode b_Hb_represent 34 = .ok (.getfield 39, 3) := by decide +kernel
theorem d_Hb_represent_37 : decode b_Hb_represent 37 = .ok (.iadd, 1) := by decide +kernel
theorem d_Hb_represent_38 : decode b_Hb_represent 38 = .ok (.invokevirtual 163, 3) := by decide +kernel
theorem d_Hb_represent_41 : decode b_Hb_represent 41 = .ok (.iconst 1, 1) := by decide +kernel
theorem d_Hb_represent_42 : decode b_Hb_represent 42 = .ok (.ireturn, 1) := by decide +kernel
theorem d_Hb_decide_0 : decode b_Hb_decide 0 = .ok (.iload_n 1, 1) := by decide +kernel
theorem d_Hb_decide_1 : decode b_Hb_decide 1 = .ok (.invokestatic 68, 3) := by decide +kernel
theorem d_Hb_decide_4 : decode b_Hb_decide 4 = .ok (.aload_n 0, 1) := by decide +kernel
theorem d_Hb_decide_5 : decode b_Hb_decide 5 = .ok (.iload_n 1, 1) := by decide +kernel
theorem d_Hb_decide_6 : decode b_Hb_decide 6 = .ok (.invokevirtual 79, 3) := by decide +kernel
theorem d_Hb_decide_9 : decode b_Hb_decide 9 = .ok (.astore_n 3, 1) := by decide +kernel
theorem d_Hb_decide_10 : decode b_Hb_decide 10 = .ok (.aload_n 3, 1) := by decide +kernel
theorem d_Hb_decide_11 : decode b_Hb_decide 11 = .ok (.ifnonnull 6, 3) := by decide +kernel
theorem d_Hb_decide_14 : decode b_Hb_decide 14 = .ok (.bipush (-6), 2) := by decide +kernel
theorem d_Hb_decide_16 : decode b_Hb_decide 16 = .ok (.ireturn, 1) := by decide +kernel
theorem d_Hb_decide_17 : decode b_Hb_decide 17 = .ok (.aload_n 3, 1) := by decide +kernel
theorem d_Hb_decide_18 : decode b_Hb_decide 18 = .ok (.getfield 153, 3) := by decide +kernel
theorem d_Hb_decide_21 : decode b_Hb_decide 21 = .ok (.iconst 2, 1) := by decide +kernel
theorem d_Hb_decide_22 : decode b_Hb_decide 22 = .ok (.if_icmp .eq 6, 3) := by decide +kernel
theorem d_Hb_decide_25 : decode b_Hb_decide 25 = .ok (.bipush (-9), 2) := by decide +kernel
theorem d_Hb_decide_27 : decode b_Hb_decide 27 = .ok (.ireturn, 1) := by decide +kernel
theorem d_Hb_decide_28 : decode b_Hb_decide 28 = .ok (.aload_n 3, 1) := by decide +kernel
theorem d_Hb_decide_29 : decode b_Hb_decide 29 = .ok (.iload_n 2, 1) := by decide +kernel
theorem d_Hb_decide_30 : decode b_Hb_decide 30 = .ok (.invokevirtual 166, 3) := by decide +kernel
theorem d_Hb_decide_33 : decode b_Hb_decide 33 = .ok (.iconst 1, 1) := by decide +kernel
theorem d_Hb_decide_34 : decode b_Hb_decide 34 = .ok (.ireturn, 1) := by decide +kernel
theorem d_Hb_funds_0 : decode b_Hb_funds 0 = .ok (.aload_n 0, 1) := by decide +kernel
theorem d_Hb_funds_1 : decode b_Hb_funds 1 = .ok (.iload_n 1, 1) := by decide +kernel
theorem d_Hb_funds_2 : decode b_Hb_funds 2 = .ok (.invokevirtual 72, 3) := by decide +kernel
theorem d_Hb_funds_5 : decode b_Hb_funds 5 = .ok (.iload_n 2, 1) := by decide +kernel
theorem d_Hb_funds_6 : decode b_Hb_funds 6 = .ok (.iconst 3, 1) := by decide +kernel
theorem d_Hb_funds_7 : decode b_Hb_funds 7 = .ok (.invokestatic 176, 3) := by decide +kernel
theorem d_Hb_funds_10 : decode b_Hb_funds 10 = .ok (.aload_n 0, 1) := by decide +kernel
theorem d_Hb_funds_11 : decode b_Hb_funds 11 = .ok (.getfield 10, 3) := by decide +kernel
theorem d_Hb_funds_14 : decode b_Hb_funds 14 = .ok (.iload_n 1, 1) := by decide +kernel
theorem d_Hb_funds_15 : decode b_Hb_funds 15 = .ok (.invokevirtual 87, 3) := by decide +kernel
theorem d_Hb_funds_18 : decode b_Hb_funds 18 = .ok (.checkcast 19, 3) := by decide +kernel
theorem d_Hb_funds_21 : decode b_Hb_funds 21 = .ok (.iload_n 2, 1) := by decide +kernel
theorem d_Hb_funds_22 : decode b_Hb_funds 22 = .ok (.invokevirtual 180, 3) := by decide +kernel
theorem d_Hb_funds_25 : decode b_Hb_funds 25 = .ok (.lreturn, 1) := by decide +kernel
theorem d_Hb_checkWhat_0 : decode b_Hb_checkWhat 0 = .ok (.iload_n 0, 1) := by decide +kernel
theorem d_Hb_checkWhat_1 : decode b_Hb_checkWhat 1 = .ok (.ifCond .lt 8, 3) := by decide +kernel
theorem d_Hb_checkWhat_4 : decode b_Hb_checkWhat 4 = .ok (.iload_n 0, 1) := by decide +kernel
theorem d_Hb_checkWhat_5 : decode b_Hb_checkWhat 5 = .ok (.iload_n 1, 1) := by decide +kernel
theorem d_Hb_checkWhat_6 : decode b_Hb_checkWhat 6 = .ok (.if_icmp .le 13, 3) := by decide +kernel
theorem d_Hb_checkWhat_9 : decode b_Hb_checkWhat 9 = .ok (.new 46, 3) := by decide +kernel
theorem d_Hb_checkWhat_12 : decode b_Hb_checkWhat 12 = .ok (.dup, 1) := by decide +kernel
theorem d_Hb_checkWhat_13 : decode b_Hb_checkWhat 13 = .ok (.ldc 210, 2) := by decide +kernel
theorem d_Hb_checkWhat_15 : decode b_Hb_checkWhat 15 = .ok (.invokespecial 50, 3) := by decide +kernel
theorem d_Hb_checkWhat_18 : decode b_Hb_checkWhat 18 = .ok (.athrow, 1) := by decide +kernel
theorem d_Hb_checkWhat_19 : decode b_Hb_checkWhat 19 = .ok (.return_, 1) := by decide +kernel
theorem d_Hb_payment_0 : decode b_Hb_payment 0 = .ok (.iload_n 1, 1) := by decide +kernel
theorem d_Hb_payment_1 : decode b_Hb_payment 1 = .ok (.invokestatic 68, 3) := by decide +kernel
theorem d_Hb_payment_4 : decode b_Hb_payment 4 = .ok (.iload_n 2, 1) := by decide +kernel
theorem d_Hb_payment_5 : decode b_Hb_payment 5 = .ok (.bipush 8, 2) := by decide +kernel
theorem d_Hb_payment_7 : decode b_Hb_payment 7 = .ok (.invokestatic 176, 3) := by decide +kernel
theorem d_Hb_payment_10 : decode b_Hb_payment 10 = .ok (.aload_n 0, 1) := by decide +kernel
theorem d_Hb_payment_11 : decode b_Hb_payment 11 = .ok (.iload_n 1, 1) := by decide +kernel
theorem d_Hb_payment_12 : decode b_Hb_payment 12 = .ok (.invokevirtual 79, 3) := by decide +kernel
theorem d_Hb_payment_15 : decode b_Hb_payment 15 = .ok (.astore_n 3, 1) := by decide +kernel
theorem d_Hb_payment_16 : decode b_Hb_payment 16 = .ok (.aload_n 3, 1) := by decide +kernel
theorem d_Hb_payment_17 : decode b_Hb_payment 17 = .ok (.ifnonnull 15, 3) := by decide +kernel
theorem d_Hb_payment_20 : decode b_Hb_payment 20 = .ok (.iload_n 2, 1) := by decide +kernel
theorem d_Hb_payment_21 : decode b_Hb_payment 21 = .ok (.ifCond .ne 7, 3) := by decide +kernel
theorem d_Hb_payment_24 : decode b_Hb_payment 24 = .ok (.lconst 0, 1) := by decide +kernel
theorem d_Hb_payment_25 : decode b_Hb_payment 25 = .ok (.goto 6, 3) := by decide +kernel
theorem d_Hb_payment_28 : decode b_Hb_payment 28 = .ok (.ldc2_w 184, 3) := by decide +kernel
theorem d_Hb_payment_31 : decode b_Hb_payment 31 = .ok (.lreturn, 1) := by decide +kernel
theorem d_Hb_payment_32 : decode b_Hb_payment 32 = .ok (.aload_n 3, 1) := by decide +kernel
theorem d_Hb_payment_33 : decode b_Hb_payment 33 = .ok (.iload_n 2, 1) := by decide +kernel
theorem d_Hb_payment_34 : decode b_Hb_payment 34 = .ok (.invokevirtual 186, 3) := by decide +kernel
theorem d_Hb_payment_37 : decode b_Hb_payment 37 = .ok (.lreturn, 1) := by decide +kernel
theorem d_Hb_key_0 : decode b_Hb_key 0 = .ok (.iload_n 1, 1) := by decide +kernel
theorem d_Hb_key_1 : decode b_Hb_key 1 = .ok (.ifCond .ge 13, 3) := by decide +kernel
theorem d_Hb_key_4 : decode b_Hb_key 4 = .ok (.new 46, 3) := by decide +kernel
theorem d_Hb_key_7 : decode b_Hb_key 7 = .ok (.dup, 1) := by decide +kernel
theorem d_Hb_key_8 : decode b_Hb_key 8 = .ok (.ldc 187, 2) := by decide +kernel
theorem d_Hb_key_10 : decode b_Hb_key 10 = .ok (.invokespecial 50, 3) := by decide +kernel
theorem d_Hb_key_13 : decode b_Hb_key 13 = .ok (.athrow, 1) := by decide +kernel
theorem d_Hb_key_14 : decode b_Hb_key 14 = .ok (.iload_n 1, 1) := by decide +kernel
theorem d_Hb_key_15 : decode b_Hb_key 15 = .ok (.aload_n 0, 1) := by decide +kernel
theorem d_Hb_key_16 : decode b_Hb_key 16 = .ok (.getfield 16, 3) := by decide +kernel
theorem d_Hb_key_19 : decode b_Hb_key 19 = .ok (.invokevirtual 55, 3) := by decide +kernel
theorem d_Hb_key_22 : decode b_Hb_key 22 = .ok (.if_icmp .ge 20, 3) := by decide +kernel
theorem d_Hb_key_25 : decode b_Hb_key 25 = .ok (.aload_n 0, 1) := by decide +kernel
theorem d_Hb_key_26 : decode b_Hb_key 26 = .ok (.getfield 16, 3) := by decide +kernel
theorem d_Hb_key_29 : decode b_Hb_key 29 = .ok (.iload_n 1, 1) := by decide +kernel
theorem d_Hb_key_30 : decode b_Hb_key 30 = .ok (.invokevirtual 87, 3) := by decide +kernel
theorem d_Hb_key_33 : decode b_Hb_key 33 = .ok (.checkcast 97, 3) := by decide +kernel
theorem d_Hb_key_36 : decode b_Hb_key 36 = .ok (.getfield 189, 3) := by decide +kernel
theorem d_Hb_key_39 : decode b_Hb_key 39 = .ok (.goto 4, 3) := by decide +kernel
theorem d_Hb_key_42 : decode b_Hb_key 42 = .ok (.iconst (-1), 1) := by decide +kernel
theorem d_Hb_key_43 : decode b_Hb_key 43 = .ok (.ireturn, 1) := by decide +kernel

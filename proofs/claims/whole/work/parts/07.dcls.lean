/-! DECODE ROWS -/
theorem d_Al_init_0 : decode b_Al_init 0 = .ok (.aload_n 0, 1) := by decide +kernel
theorem d_Al_init_1 : decode b_Al_init 1 = .ok (.invokespecial 1, 3) := by decide +kernel
theorem d_Al_init_4 : decode b_Al_init 4 = .ok (.aload_n 0, 1) := by decide +kernel
theorem d_Al_init_5 : decode b_Al_init 5 = .ok (.getstatic 39, 3) := by decide +kernel
theorem d_Al_init_8 : decode b_Al_init 8 = .ok (.putfield 9, 3) := by decide +kernel
theorem d_Al_init_11 : decode b_Al_init 11 = .ok (.return_, 1) := by decide +kernel
theorem d_Abs_init_0 : decode b_Abs_init 0 = .ok (.aload_n 0, 1) := by decide +kernel
theorem d_Abs_init_1 : decode b_Abs_init 1 = .ok (.invokespecial 1, 3) := by decide +kernel
theorem d_Abs_init_4 : decode b_Abs_init 4 = .ok (.aload_n 0, 1) := by decide +kernel
theorem d_Abs_init_5 : decode b_Abs_init 5 = .ok (.iconst 0, 1) := by decide +kernel
theorem d_Abs_init_6 : decode b_Abs_init 6 = .ok (.putfield 7, 3) := by decide +kernel
theorem d_Abs_init_9 : decode b_Abs_init 9 = .ok (.return_, 1) := by decide +kernel
theorem d_Col_init_0 : decode b_Col_init 0 = .ok (.aload_n 0, 1) := by decide +kernel
theorem d_Col_init_1 : decode b_Col_init 1 = .ok (.invokespecial 1, 3) := by decide +kernel
theorem d_Col_init_4 : decode b_Col_init 4 = .ok (.return_, 1) := by decide +kernel
theorem d_Acc_init_0 : decode b_Acc_init 0 = .ok (.aload_n 0, 1) := by decide +kernel
theorem d_Acc_init_1 : decode b_Acc_init 1 = .ok (.invokespecial 1, 3) := by decide +kernel
theorem d_Acc_init_4 : decode b_Acc_init 4 = .ok (.aload_n 0, 1) := by decide +kernel
theorem d_Acc_init_5 : decode b_Acc_init 5 = .ok (.lconst 0, 1) := by decide +kernel
theorem d_Acc_init_6 : decode b_Acc_init 6 = .ok (.putfield 7, 3) := by decide +kernel
theorem d_Acc_init_9 : decode b_Acc_init 9 = .ok (.aload_n 0, 1) := by decide +kernel
theorem d_Acc_init_10 : decode b_Acc_init 10 = .ok (.lconst 0, 1) := by decide +kernel
theorem d_Acc_init_11 : decode b_Acc_init 11 = .ok (.putfield 13, 3) := by decide +kernel
theorem d_Acc_init_14 : decode b_Acc_init 14 = .ok (.aload_n 0, 1) := by decide +kernel
theorem d_Acc_init_15 : decode b_Acc_init 15 = .ok (.iload_n 1, 1) := by decide +kernel
theorem d_Acc_init_16 : decode b_Acc_init 16 = .ok (.putfield 16, 3) := by decide +kernel
theorem d_Acc_init_19 : decode b_Acc_init 19 = .ok (.aload_n 0, 1) := by decide +kernel
theorem d_Acc_init_20 : decode b_Acc_init 20 = .ok (.lload_n 2, 1) := by decide +kernel
theorem d_Acc_init_21 : decode b_Acc_init 21 = .ok (.putfield 20, 3) := by decide +kernel
theorem d_Acc_init_24 : decode b_Acc_init 24 = .ok (.aload_n 0, 1) := by decide +kernel
theorem d_Acc_init_25 : decode b_Acc_init 25 = .ok (.lload 4, 2) := by decide +kernel
theorem d_Acc_init_27 : decode b_Acc_init 27 = .ok (.putfield 23, 3) := by decide +kernel
theorem d_Acc_init_30 : decode b_Acc_init 30 = .ok (.aload_n 0, 1) := by decide +kernel
theorem d_Acc_init_31 : decode b_Acc_init 31 = .ok (.lload_n 2, 1) := by decide +kernel
theorem d_Acc_init_32 : decode b_Acc_init 32 = .ok (.lload 4, 2) := by decide +kernel
theorem d_Acc_init_34 : decode b_Acc_init 34 = .ok (.lsub, 1) := by decide +kernel
theorem d_Acc_init_35 : decode b_Acc_init 35 = .ok (.putfield 26, 3) := by decide +kernel
theorem d_Acc_init_38 : decode b_Acc_init 38 = .ok (.return_, 1) := by decide +kernel
theorem d_Mth_min1_0 : decode b_Mth_min1 0 = .ok (.iload_n 0, 1) := by decide +kernel
theorem d_Mth_min1_1 : decode b_Mth_min1 1 = .ok (.iload_n 1, 1) := by decide +kernel
theorem d_Mth_min1_2 : decode b_Mth_min1 2 = .ok (.if_icmp .gt 7, 3) := by decide +kernel
theorem d_Mth_min1_5 : decode b_Mth_min1 5 = .ok (.iload_n 0, 1) := by decide +kernel
theorem d_Mth_min1_6 : decode b_Mth_min1 6 = .ok (.goto 4, 3) := by decide +kernel
theorem d_Mth_min1_9 : decode b_Mth_min1 9 = .ok (.iload_n 1, 1) := by decide +kernel
theorem d_Mth_min1_10 : decode b_Mth_min1 10 = .ok (.ireturn, 1) := by decide +kernel
theorem d_Mth_max_0 : decode b_Mth_max 0 = .ok (.iload_n 0, 1) := by decide +kernel
theorem d_Mth_max_1 : decode b_Mth_max 1 = .ok (.iload_n 1, 1) := by decide +kernel
theorem d_Mth_max_2 : decode b_Mth_max 2 = .ok (.if_icmp .lt 7, 3) := by decide +kernel
theorem d_Mth_max_5 : decode b_Mth_max 5 = .ok (.iload_n 0, 1) := by decide +kernel
theorem d_Mth_max_6 : decode b_Mth_max 6 = .ok (.goto 4, 3) := by decide +kernel
theorem d_Mth_max_9 : decode b_Mth_max 9 = .ok (.iload_n 1, 1) := by decide +kernel
theorem d_Mth_max_10 : decode b_Mth_max 10 = .ok (.ireturn, 1) := by decide +kernel
theorem d_Al_size_0 : decode b_Al_size 0 = .ok (.aload_n 0, 1) := by decide +kernel
theorem d_Al_size_1 : decode b_Al_size 1 = .ok (.getfield 48, 3) := by decide +kernel
theorem d_Al_size_4 : decode b_Al_size 4 = .ok (.ireturn, 1) := by decide +kernel
theorem d_Al_get_0 : decode b_Al_get 0 = .ok (.iload_n 1, 1) := by decide +kernel
theorem d_Al_get_1 : decode b_Al_get 1 = .ok (.aload_n 0, 1) := by decide +kernel
theorem d_Al_get_2 : decode b_Al_get 2 = .ok (.getfield 48, 3) := by decide +kernel
theorem d_Al_get_5 : decode b_Al_get 5 = .ok (.invokestatic 118, 3) := by decide +kernel
theorem d_Al_get_8 : decode b_Al_get 8 = .ok (.pop, 1) := by decide +kernel
theorem d_Al_get_9 : decode b_Al_get 9 = .ok (.aload_n 0, 1) := by decide +kernel
theorem d_Al_get_10 : decode b_Al_get 10 = .ok (.iload_n 1, 1) := by decide +kernel
theorem d_Al_get_11 : decode b_Al_get 11 = .ok (.invokevirtual 123, 3) := by decide +kernel
theorem d_Al_get_14 : decode b_Al_get 14 = .ok (.areturn, 1) := by decide +kernel
theorem d_Obs_checkIndex_0 : decode b_Obs_checkIndex 0 = .ok (.iload_n 0, 1) := by decide +kernel
theorem d_Obs_checkIndex_1 : decode b_Obs_checkIndex 1 = .ok (.iload_n 1, 1) := by decide +kernel
theorem d_Obs_checkIndex_2 : decode b_Obs_checkIndex 2 = .ok (.aconst_null, 1) := by decide +kernel
theorem d_Obs_checkIndex_3 : decode b_Obs_checkIndex 3 = .ok (.invokestatic 105, 3) := by decide +kernel
theorem d_Obs_checkIndex_6 : decode b_Obs_checkIndex 6 = .ok (.ireturn, 1) := by decide +kernel
theorem d_Prc_checkIndex_0 : decode b_Prc_checkIndex 0 = .ok (.iload_n 0, 1) := by decide +kernel
theorem d_Prc_checkIndex_1 : decode b_Prc_checkIndex 1 = .ok (.ifCond .lt 8, 3) := by decide +kernel
theorem d_Prc_checkIndex_4 : decode b_Prc_checkIndex 4 = .ok (.iload_n 0, 1) := by decide +kernel
theorem d_Prc_checkIndex_5 : decode b_Prc_checkIndex 5 = .ok (.iload_n 1, 1) := by decide +kernel
theorem d_Prc_checkIndex_6 : decode b_Prc_checkIndex 6 = .ok (.if_icmp .lt 10, 3) := by decide +kernel
theorem d_Prc_checkIndex_9 : decode b_Prc_checkIndex 9 = .ok (.aload_n 2, 1) := by decide +kernel
theorem d_Prc_checkIndex_10 : decode b_Prc_checkIndex 10 = .ok (.iload_n 0, 1) := by decide +kernel
theorem d_Prc_checkIndex_11 : decode b_Prc_checkIndex 11 = .ok (.iload_n 1, 1) := by decide +kernel
theorem d_Prc_checkIndex_12 : decode b_Prc_checkIndex 12 = .ok (.invokestatic 95, 3) := by decide +kernel
theorem d_Prc_checkIndex_15 : decode b_Prc_checkIndex 15 = .ok (.athrow, 1) := by decide +kernel
theorem d_Prc_checkIndex_16 : decode b_Prc_checkIndex 16 = .ok (.iload_n 0, 1) := by decide +kernel
theorem d_Prc_checkIndex_17 : decode b_Prc_checkIndex 17 = .ok (.ireturn, 1) := by decide +kernel
theorem d_Al_elementData_0 : decode b_Al_elementData 0 = .ok (.aload_n 0, 1) := by decide +kernel
theorem d_Al_elementData_1 : decode b_Al_elementData 1 = .ok (.getfield 9, 3) := by decide +kernel
theorem d_Al_elementData_4 : decode b_Al_elementData 4 = .ok (.iload_n 1, 1) := by decide +kernel
theorem d_Al_elementData_5 : decode b_Al_elementData 5 = .ok (.aaload, 1) := by decide +kernel
theorem d_Al_elementData_6 : decode b_Al_elementData 6 = .ok (.areturn, 1) := by decide +kernel
theorem d_Al_remove_0 : decode b_Al_remove 0 = .ok (.iload_n 1, 1) := by decide +kernel
theorem d_Al_remove_1 : decode b_Al_remove 1 = .ok (.aload_n 0, 1) := by decide +kernel
theorem d_Al_remove_2 : decode b_Al_remove 2 = .ok (.getfield 48, 3) := by decide +kernel
theorem d_Al_remove_5 : decode b_Al_remove 5 = .ok (.invokestatic 118, 3) := by decide +kernel
theorem d_Al_remove_8 : decode b_Al_remove 8 = .ok (.pop, 1) := by decide +kernel
theorem d_Al_remove_9 : decode b_Al_remove 9 = .ok (.aload_n 0, 1) := by decide +kernel
theorem d_Al_remove_10 : decode b_Al_remove 10 = .ok (.getfield 9, 3) := by decide +kernel
theorem d_Al_remove_13 : decode b_Al_remove 13 = .ok (.astore_n 2, 1) := by decide +kernel
theorem d_Al_remove_14 : decode b_Al_remove 14 = .ok (.aload_n 2, 1) := by decide +kernel
theorem d_Al_remove_15 : decode b_Al_remove 15 = .ok (.iload_n 1, 1) := by decide +kernel
theorem d_Al_remove_16 : decode b_Al_remove 16 = .ok (.aaload, 1) := by decide +kernel
theorem d_Al_remove_17 : decode b_Al_remove 17 = .ok (.astore_n 3, 1) := by decide +kernel
theorem d_Al_remove_18 : decode b_Al_remove 18 = .ok (.aload_n 0, 1) := by decide +kernel
theorem d_Al_remove_19 : decode b_Al_remove 19 = .ok (.aload_n 2, 1) := by decide +kernel
theorem d_Al_remove_20 : decode b_Al_remove 20 = .ok (.iload_n 1, 1) := by decide +kernel
theorem d_Al_remove_21 : decode b_Al_remove 21 = .ok (.invokevirtual 144, 3) := by decide +kernel
theorem d_Al_remove_24 : decode b_Al_remove 24 = .ok (.aload_n 3, 1) := by decide +kernel
theorem d_Al_remove_25 : decode b_Al_remove 25 = .ok (.areturn, 1) := by decide +kernel
theorem d_Al_fastRemove_0 : decode b_Al_fastRemove 0 = .ok (.aload_n 0, 1) := by decide +kernel
theorem d_Al_fastRemove_1 : decode b_Al_fastRemove 1 = .ok (.dup, 1) := by decide +kernel
theorem d_Al_fastRemove_2 : decode b_Al_fastRemove 2 = .ok (.getfield 63, 3) := by decide +kernel
theorem d_Al_fastRemove_5 : decode b_Al_fastRemove 5 = .ok (.iconst 1, 1) := by decide +kernel
theorem d_Al_fastRemove_6 : decode b_Al_fastRemove 6 = .ok (.iadd, 1) := by decide +kernel
theorem d_Al_fastRemove_7 : decode b_Al_fastRemove 7 = .ok (.putfield 63, 3) := by decide +kernel
theorem d_Al_fastRemove_10 : decode b_Al_fastRemove 10 = .ok (.aload_n 0, 1) := by decide +kernel
theorem d_Al_fastRemove_11 : decode b_Al_fastRemove 11 = .ok (.getfield 48, 3) := by decide +kernel
theorem d_Al_fastRemove_14 : decode b_Al_fastRemove 14 = .ok (.iconst 1, 1) := by decide +kernel
theorem d_Al_fastRemove_15 : decode b_Al_fastRemove 15 = .ok (.isub, 1) := by decide +kernel
theorem d_Al_fastRemove_16 : decode b_Al_fastRemove 16 = .ok (.dup, 1) := by decide +kernel
theorem d_Al_fastRemove_17 : decode b_Al_fastRemove 17 = .ok (.istore_n 3, 1) := by decide +kernel
theorem d_Al_fastRemove_18 : decode b_Al_fastRemove 18 = .ok (.iload_n 2, 1) := by decide +kernel
theorem d_Al_fastRemove_19 : decode b_Al_fastRemove 19 = .ok (.if_icmp .le 15, 3) := by decide +kernel
theorem d_Al_fastRemove_22 : decode b_Al_fastRemove 22 = .ok (.aload_n 1, 1) := by decide +kernel
theorem d_Al_fastRemove_23 : decode b_Al_fastRemove 23 = .ok (.iload_n 2, 1) := by decide +kernel
theorem d_Al_fastRemove_24 : decode b_Al_fastRemove 24 = .ok (.iconst 1, 1) := by decide +kernel
theorem d_Al_fastRemove_25 : decode b_Al_fastRemove 25 = .ok (.iadd, 1) := by decide +kernel
theorem d_Al_fastRemove_26 : decode b_Al_fastRemove 26 = .ok (.aload_n 1, 1) := by decide +kernel
theorem d_Al_fastRemove_27 : decode b_Al_fastRemove 27 = .ok (.iload_n 2, 1) := by decide +kernel
theorem d_Al_fastRemove_28 : decode b_Al_fastRemove 28 = .ok (.iload_n 3, 1) := by decide +kernel
theorem d_Al_fastRemove_29 : decode b_Al_fastRemove 29 = .ok (.iload_n 2, 1) := by decide +kernel
theorem d_Al_fastRemove_30 : decode b_Al_fastRemove 30 = .ok (.isub, 1) := by decide +kernel
theorem d_Al_fastRemove_31 : decode b_Al_fastRemove 31 = .ok (.invokestatic 112, 3) := by decide +kernel
theorem d_Al_fastRemove_34 : decode b_Al_fastRemove 34 = .ok (.aload_n 1, 1) := by decide +kernel
theorem d_Al_fastRemove_35 : decode b_Al_fastRemove 35 = .ok (.aload_n 0, 1) := by decide +kernel
theorem d_Al_fastRemove_36 : decode b_Al_fastRemove 36 = .ok (.iload_n 3, 1) := by decide +kernel
theorem d_Al_fastRemove_37 : decode b_Al_fastRemove 37 = .ok (.dup_x1, 1) := by decide +kernel
theorem d_Al_fastRemove_38 : decode b_Al_fastRemove 38 = .ok (.putfield 48, 3) := by decide +kernel
theorem d_Al_fastRemove_41 : decode b_Al_fastRemove 41 = .ok (.aconst_null, 1) := by decide +kernel
theorem d_Al_fastRemove_42 : decode b_Al_fastRemove 42 = .ok (.aastore, 1) := by decide +kernel
theorem d_Al_fastRemove_43 : decode b_Al_fastRemove 43 = .ok (.return_, 1) := by decide +kernel
theorem d_Pay_locked_0 : decode b_Pay_locked 0 = .ok (.aload_n 0, 1) := by decide +kernel
theorem d_Pay_locked_1 : decode b_Pay_locked 1 = .ok (.invokevirtual 57, 3) := by decide +kernel
theorem d_Pay_locked_4 : decode b_Pay_locked 4 = .ok (.ifCond .eq 10, 3) := by decide +kernel
theorem d_Pay_locked_7 : decode b_Pay_locked 7 = .ok (.aload_n 0, 1) := by decide +kernel
theorem d_Pay_locked_8 : decode b_Pay_locked 8 = .ok (.getfield 31, 3) := by decide +kernel
theorem d_Pay_locked_11 : decode b_Pay_locked 11 = .ok (.goto 4, 3) := by decide +kernel
theorem d_Pay_locked_14 : decode b_Pay_locked 14 = .ok (.lconst 0, 1) := by decide +kernel
theorem d_Pay_locked_15 : decode b_Pay_locked 15 = .ok (.lreturn, 1) := by decide +kernel
theorem d_Pay_isDisputeOpen_0 : decode b_Pay_isDisputeOpen 0 = .ok (.aload_n 0, 1) := by decide +kernel
theorem d_Pay_isDisputeOpen_1 : decode b_Pay_isDisputeOpen 1 = .ok (.getfield 28, 3) := by decide +kernel
theorem d_Pay_isDisputeOpen_4 : decode b_Pay_isDisputeOpen 4 = .ok (.iconst 1, 1) := by decide +kernel
theorem d_Pay_isDisputeOpen_5 : decode b_Pay_isDisputeOpen 5 = .ok (.if_icmp .eq 11, 3) := by decide +kernel
theorem d_Pay_isDisputeOpen_8 : decode b_Pay_isDisputeOpen 8 = .ok (.aload_n 0, 1) := by decide +kernel
theorem d_Pay_isDisputeOpen_9 : decode b_Pay_isDisputeOpen 9 = .ok (.getfield 28, 3) := by decide +kernel
theorem d_Pay_isDisputeOpen_12 : decode b_Pay_isDisputeOpen 12 = .ok (.iconst 2, 1) := by decide +kernel
theorem d_Pay_isDisputeOpen_13 : decode b_Pay_isDisputeOpen 13 = .ok (.if_icmp .ne 7, 3) := by decide +kernel
theorem d_Pay_isDisputeOpen_16 : decode b_Pay_isDisputeOpen 16 = .ok (.iconst 1, 1) := by decide +kernel
theorem d_Pay_isDisputeOpen_17 : decode b_Pay_isDisputeOpen 17 = .ok (.goto 4, 3) := by decide +kernel
theorem d_Pay_isDisputeOpen_20 : decode b_Pay_isDisputeOpen 20 = .ok (.iconst 0, 1) := by decide +kernel
theorem d_Pay_isDisputeOpen_21 : decode b_Pay_isDisputeOpen 21 = .ok (.ireturn, 1) := by decide +kernel
theorem d_Acc_isOverdrawn_0 : decode b_Acc_isOverdrawn 0 = .ok (.aload_n 0, 1) := by decide +kernel
theorem d_Acc_isOverdrawn_1 : decode b_Acc_isOverdrawn 1 = .ok (.invokevirtual 29, 3) := by decide +kernel
theorem d_Acc_isOverdrawn_4 : decode b_Acc_isOverdrawn 4 = .ok (.lstore_n 1, 1) := by decide +kernel
theorem d_Acc_isOverdrawn_5 : decode b_Acc_isOverdrawn 5 = .ok (.lload_n 1, 1) := by decide +kernel
theorem d_Acc_isOverdrawn_6 : decode b_Acc_isOverdrawn 6 = .ok (.lconst 0, 1) := by decide +kernel
theorem d_Acc_isOverdrawn_7 : decode b_Acc_isOverdrawn 7 = .ok (.lcmp, 1) := by decide +kernel
theorem d_Acc_isOverdrawn_8 : decode b_Acc_isOverdrawn 8 = .ok (.ifCond .ge 16, 3) := by decide +kernel
theorem d_Acc_isOverdrawn_11 : decode b_Acc_isOverdrawn 11 = .ok (.lload_n 1, 1) := by decide +kernel
theorem d_Acc_isOverdrawn_12 : decode b_Acc_isOverdrawn 12 = .ok (.aload_n 0, 1) := by decide +kernel
theorem d_Acc_isOverdrawn_13 : decode b_Acc_isOverdrawn 13 = .ok (.getfield 26, 3) := by decide +kernel
theorem d_Acc_isOverdrawn_16 : decode b_Acc_isOverdrawn 16 = .ok (.lcmp, 1) := by decide +kernel
theorem d_Acc_isOverdrawn_17 : decode b_Acc_isOverdrawn 17 = .ok (.ifCond .ge 7, 3) := by decide +kernel
theorem d_Acc_isOverdrawn_20 : decode b_Acc_isOverdrawn 20 = .ok (.iconst 1, 1) := by decide +kernel
theorem d_Acc_isOverdrawn_21 : decode b_Acc_isOverdrawn 21 = .ok (.goto 4, 3) := by decide +kernel
theorem d_Acc_isOverdrawn_24 : decode b_Acc_isOverdrawn 24 = .ok (.iconst 0, 1) := by decide +kernel
theorem d_Acc_isOverdrawn_25 : decode b_Acc_isOverdrawn 25 = .ok (.ireturn, 1) := by decide +kernel
theorem d_Acc_free_0 : decode b_Acc_free 0 = .ok (.aload_n 0, 1) := by decide +kernel
theorem d_Acc_free_1 : decode b_Acc_free 1 = .ok (.getfield 20, 3) := by decide +kernel
theorem d_Acc_free_4 : decode b_Acc_free 4 = .ok (.aload_n 0, 1) := by decide +kernel
theorem d_Acc_free_5 : decode b_Acc_free 5 = .ok (.getfield 23, 3) := by decide +kernel
theorem d_Acc_free_8 : decode b_Acc_free 8 = .ok (.lsub, 1) := by decide +kernel
theorem d_Acc_free_9 : decode b_Acc_free 9 = .ok (.aload_n 0, 1) := by decide +kernel
theorem d_Acc_free_10 : decode b_Acc_free 10 = .ok (.getfield 7, 3) := by decide +kernel
theorem d_Acc_free_13 : decode b_Acc_free 13 = .ok (.lsub, 1) := by decide +kernel
theorem d_Acc_free_14 : decode b_Acc_free 14 = .ok (.aload_n 0, 1) := by decide +kernel
theorem d_Acc_free_15 : decode b_Acc_free 15 = .ok (.getfield 13, 3) := by decide +kernel
theorem d_Acc_free_18 : decode b_Acc_free 18 = .ok (.lsub, 1) := by decide +kernel
theorem d_Acc_free_19 : decode b_Acc_free 19 = .ok (.lreturn, 1) := by decide +kernel
theorem d_Al_add1_0 : decode b_Al_add1 0 = .ok (.aload_n 0, 1) := by decide +kernel
theorem d_Al_add1_1 : decode b_Al_add1 1 = .ok (.dup, 1) := by decide +kernel
theorem d_Al_add1_2 : decode b_Al_add1 2 = .ok (.getfield 63, 3) := by decide +kernel
theorem d_Al_add1_5 : decode b_Al_add1 5 = .ok (.iconst 1, 1) := by decide +kernel
theorem d_Al_add1_6 : decode b_Al_add1 6 = .ok (.iadd, 1) := by decide +kernel
theorem d_Al_add1_7 : decode b_Al_add1 7 = .ok (.putfield 63, 3) := by decide +kernel
theorem d_Al_add1_10 : decode b_Al_add1 10 = .ok (.aload_n 0, 1) := by decide +kernel
theorem d_Al_add1_11 : decode b_Al_add1 11 = .ok (.aload_n 1, 1) := by decide +kernel
theorem d_Al_add1_12 : decode b_Al_add1 12 = .ok (.aload_n 0, 1) := by decide +kernel
theorem d_Al_add1_13 : decode b_Al_add1 13 = .ok (.getfield 9, 3) := by decide +kernel
theorem d_Al_add1_16 : decode b_Al_add1 16 = .ok (.aload_n 0, 1) := by decide +kernel
theorem d_Al_add1_17 : decode b_Al_add1 17 = .ok (.getfield 48, 3) := by decide +kernel
theorem d_Al_add1_20 : decode b_Al_add1 20 = .ok (.invokevirtual 131, 3) := by decide +kernel
theorem d_Al_add1_23 : decode b_Al_add1 23 = .ok (.iconst 1, 1) := by decide +kernel
theorem d_Al_add1_24 : decode b_Al_add1 24 = .ok (.ireturn, 1) := by decide +kernel
theorem d_Al_add2_0 : decode b_Al_add2 0 = .ok (.iload_n 3, 1) := by decide +kernel
theorem d_Al_add2_1 : decode b_Al_add2 1 = .ok (.aload_n 2, 1) := by decide +kernel
theorem d_Al_add2_2 : decode b_Al_add2 2 = .ok (.arraylength, 1) := by decide +kernel
theorem d_Al_add2_3 : decode b_Al_add2 3 = .ok (.if_icmp .ne 8, 3) := by decide +kernel
theorem d_Al_add2_6 : decode b_Al_add2 6 = .ok (.aload_n 0, 1) := by decide +kernel
theorem d_Al_add2_7 : decode b_Al_add2 7 = .ok (.invokevirtual 129, 3) := by decide +kernel
theorem d_Al_add2_10 : decode b_Al_add2 10 = .ok (.astore_n 2, 1) := by decide +kernel
theorem d_Al_add2_11 : decode b_Al_add2 11 = .ok (.aload_n 2, 1) := by decide +kernel
theorem d_Al_add2_12 : decode b_Al_add2 12 = .ok (.iload_n 3, 1) := by decide +kernel
theorem d_Al_add2_13 : decode b_Al_add2 13 = .ok (.aload_n 1, 1) := by decide +kernel
theorem d_Al_add2_14 : decode b_Al_add2 14 = .ok (.aastore, 1) := by decide +kernel
theorem d_Al_add2_15 : decode b_Al_add2 15 = .ok (.aload_n 0, 1) := by decide +kernel
theorem d_Al_add2_16 : decode b_Al_add2 16 = .ok (.iload_n 3, 1) := by decide +kernel
theorem d_Al_add2_17 : decode b_Al_add2 17 = .ok (.iconst 1, 1) := by decide +kernel
theorem d_Al_add2_18 : decode b_Al_add2 18 = .ok (.iadd, 1) := by decide +kernel
theorem d_Al_add2_19 : decode b_Al_add2 19 = .ok (.putfield 48, 3) := by decide +kernel
theorem d_Al_add2_22 : decode b_Al_add2 22 = .ok (.return_, 1) := by decide +kernel
theorem d_Al_grow1_0 : decode b_Al_grow1 0 = .ok (.aload_n 0, 1) := by decide +kernel
theorem d_Al_grow1_1 : decode b_Al_grow1 1 = .ok (.aload_n 0, 1) := by decide +kernel
theorem d_Al_grow1_2 : decode b_Al_grow1 2 = .ok (.getfield 48, 3) := by decide +kernel
theorem d_Al_grow1_5 : decode b_Al_grow1 5 = .ok (.iconst 1, 1) := by decide +kernel
theorem d_Al_grow1_6 : decode b_Al_grow1 6 = .ok (.iadd, 1) := by decide +kernel
theorem d_Al_grow1_7 : decode b_Al_grow1 7 = .ok (.invokevirtual 69, 3) := by decide +kernel
theorem d_Al_grow1_10 : decode b_Al_grow1 10 = .ok (.areturn, 1) := by decide +kernel
theorem d_Al_grow2_0 : decode b_Al_grow2 0 = .ok (.aload_n 0, 1) := by decide +kernel
theorem d_Al_grow2_1 : decode b_Al_grow2 1 = .ok (.getfield 9, 3) := by decide +kernel
theorem d_Al_grow2_4 : decode b_Al_grow2 4 = .ok (.arraylength, 1) := by decide +kernel
theorem d_Al_grow2_5 : decode b_Al_grow2 5 = .ok (.istore_n 2, 1) := by decide +kernel
theorem d_Al_grow2_6 : decode b_Al_grow2 6 = .ok (.iload_n 2, 1) := by decide +kernel
theorem d_Al_grow2_7 : decode b_Al_grow2 7 = .ok (.ifCond .gt 13, 3) := by decide +kernel
theorem d_Al_grow2_10 : decode b_Al_grow2 10 = .ok (.aload_n 0, 1) := by decide +kernel
theorem d_Al_grow2_11 : decode b_Al_grow2 11 = .ok (.getfield 9, 3) := by decide +kernel
theorem d_Al_grow2_14 : decode b_Al_grow2 14 = .ok (.getstatic 39, 3) := by decide +kernel
theorem d_Al_grow2_17 : decode b_Al_grow2 17 = .ok (.if_acmp .eq 28, 3) := by decide +kernel
theorem d_Al_grow2_20 : decode b_Al_grow2 20 = .ok (.iload_n 2, 1) := by decide +kernel
theorem d_Al_grow2_21 : decode b_Al_grow2 21 = .ok (.iload_n 1, 1) := by decide +kernel
theorem d_Al_grow2_22 : decode b_Al_grow2 22 = .ok (.iload_n 2, 1) := by decide +kernel
theorem d_Al_grow2_23 : decode b_Al_grow2 23 = .ok (.isub, 1) := by decide +kernel
theorem d_Al_grow2_24 : decode b_Al_grow2 24 = .ok (.iload_n 2, 1) := by decide +kernel
theorem d_Al_grow2_25 : decode b_Al_grow2 25 = .ok (.iconst 1, 1) := by decide +kernel
theorem d_Al_grow2_26 : decode b_Al_grow2 26 = .ok (.ishr, 1) := by decide +kernel
theorem d_Al_grow2_27 : decode b_Al_grow2 27 = .ok (.invokestatic 73, 3) := by decide +kernel
theorem d_Al_grow2_30 : decode b_Al_grow2 30 = .ok (.istore_n 3, 1) := by decide +kernel
theorem d_Al_grow2_31 : decode b_Al_grow2 31 = .ok (.aload_n 0, 1) := by decide +kernel
theorem d_Al_grow2_32 : decode b_Al_grow2 32 = .ok (.aload_n 0, 1) := by decide +kernel
theorem d_Al_grow2_33 : decode b_Al_grow2 33 = .ok (.getfield 9, 3) := by decide +kernel
theorem d_Al_grow2_36 : decode b_Al_grow2 36 = .ok (.iload_n 3, 1) := by decide +kernel
theorem d_Al_grow2_37 : decode b_Al_grow2 37 = .ok (.invokestatic 66, 3) := by decide +kernel
theorem d_Al_grow2_40 : decode b_Al_grow2 40 = .ok (.dup_x1, 1) := by decide +kernel
theorem d_Al_grow2_41 : decode b_Al_grow2 41 = .ok (.putfield 9, 3) := by decide +kernel
theorem d_Al_grow2_44 : decode b_Al_grow2 44 = .ok (.areturn, 1) := by decide +kernel
theorem d_Al_grow2_45 : decode b_Al_grow2 45 = .ok (.aload_n 0, 1) := by decide +kernel
theorem d_Al_grow2_46 : decode b_Al_grow2 46 = .ok (.bipush 10, 2) := by decide +kernel
theorem d_Al_grow2_48 : decode b_Al_grow2 48 = .ok (.iload_n 1, 1) := by decide +kernel
theorem d_Al_grow2_49 : decode b_Al_grow2 49 = .ok (.invokestatic 79, 3) := by decide +kernel
theorem d_Al_grow2_52 : decode b_Al_grow2 52 = .ok (.anewarray 7, 3) := by decide +kernel
theorem d_Al_grow2_55 : decode b_Al_grow2 55 = .ok (.dup_x1, 1) := by decide +kernel
theorem d_Al_grow2_56 : decode b_Al_grow2 56 = .ok (.putfield 9, 3) := by decide +kernel
theorem d_Al_grow2_59 : decode b_Al_grow2 59 = .ok (.areturn, 1) := by decide +kernel
theorem d_Sup_newLength_0 : decode b_Sup_newLength 0 = .ok (.iload_n 0, 1) := by decide +kernel
theorem d_Sup_newLength_1 : decode b_Sup_newLength 1 = .ok (.iload_n 1, 1) := by decide +kernel
theorem d_Sup_newLength_2 : decode b_Sup_newLength 2 = .ok (.iload_n 2, 1) := by decide +kernel
theorem d_Sup_newLength_3 : decode b_Sup_newLength 3 = .ok (.invokestatic 194, 3) := by decide +kernel
theorem d_Sup_newLength_6 : decode b_Sup_newLength 6 = .ok (.iadd, 1) := by decide +kernel
theorem d_Sup_newLength_7 : decode b_Sup_newLength 7 = .ok (.istore_n 3, 1) := by decide +kernel
theorem d_Sup_newLength_8 : decode b_Sup_newLength 8 = .ok (.iconst 0, 1) := by decide +kernel
theorem d_Sup_newLength_9 : decode b_Sup_newLength 9 = .ok (.iload_n 3, 1) := by decide +kernel
theorem d_Sup_newLength_10 : decode b_Sup_newLength 10 = .ok (.if_icmp .ge 11, 3) := by decide +kernel
theorem d_Sup_newLength_13 : decode b_Sup_newLength 13 = .ok (.iload_n 3, 1) := by decide +kernel
theorem d_Sup_newLength_14 : decode b_Sup_newLength 14 = .ok (.ldc 200, 2) := by decide +kernel
theorem d_Sup_newLength_16 : decode b_Sup_newLength 16 = .ok (.if_icmp .gt 5, 3) := by decide +kernel
theorem d_Sup_newLength_19 : decode b_Sup_newLength 19 = .ok (.iload_n 3, 1) := by decide +kernel
theorem d_Sup_newLength_20 : decode b_Sup_newLength 20 = .ok (.ireturn, 1) := by decide +kernel
theorem d_Sup_newLength_21 : decode b_Sup_newLength 21 = .ok (.iload_n 0, 1) := by decide +kernel
theorem d_Sup_newLength_22 : decode b_Sup_newLength 22 = .ok (.iload_n 1, 1) := by decide +kernel
theorem d_Sup_newLength_23 : decode b_Sup_newLength 23 = .ok (.invokestatic 201, 3) := by decide +kernel
theorem d_Sup_newLength_26 : decode b_Sup_newLength 26 = .ok (.ireturn, 1) := by decide +kernel
theorem d_Sup_hugeLength_0 : decode b_Sup_hugeLength 0 = .ok (.iload_n 0, 1) := by decide +kernel
theorem d_Sup_hugeLength_1 : decode b_Sup_hugeLength 1 = .ok (.iload_n 1, 1) := by decide +kernel
theorem d_Sup_hugeLength_2 : decode b_Sup_hugeLength 2 = .ok (.iadd, 1) := by decide +kernel
theorem d_Sup_hugeLength_3 : decode b_Sup_hugeLength 3 = .ok (.istore_n 2, 1) := by decide +kernel
theorem d_Sup_hugeLength_4 : decode b_Sup_hugeLength 4 = .ok (.iload_n 2, 1) := by decide +kernel
theorem d_Sup_hugeLength_5 : decode b_Sup_hugeLength 5 = .ok (.ifCond .ge 44, 3) := by decide +kernel
theorem d_Sup_hugeLength_8 : decode b_Sup_hugeLength 8 = .ok (.new 204, 3) := by decide +kernel
theorem d_Sup_hugeLength_11 : decode b_Sup_hugeLength 11 = .ok (.dup, 1) := by decide +kernel
theorem d_Sup_hugeLength_12 : decode b_Sup_hugeLength 12 = .ok (.new 89, 3) := by decide +kernel
theorem d_Sup_hugeLength_15 : decode b_Sup_hugeLength 15 = .ok (.dup, 1) := by decide +kernel
theorem d_Sup_hugeLength_16 : decode b_Sup_hugeLength 16 = .ok (.invokespecial 91, 3) := by decide +kernel
theorem d_Sup_hugeLength_19 : decode b_Sup_hugeLength 19 = .ok (.ldc 206, 2) := by decide +kernel
theorem d_Sup_hugeLength_21 : decode b_Sup_hugeLength 21 = .ok (.invokevirtual 94, 3) := by decide +kernel
theorem d_Sup_hugeLength_24 : decode b_Sup_hugeLength 24 = .ok (.iload_n 0, 1) := by decide +kernel
theorem d_Sup_hugeLength_25 : decode b_Sup_hugeLength 25 = .ok (.invokevirtual 98, 3) := by decide +kernel
theorem d_Sup_hugeLength_28 : decode b_Sup_hugeLength 28 = .ok (.ldc 208, 2) := by decide +kernel
theorem d_Sup_hugeLength_30 : decode b_Sup_hugeLength 30 = .ok (.invokevirtual 94, 3) := by decide +kernel
theorem d_Sup_hugeLength_33 : decode b_Sup_hugeLength 33 = .ok (.iload_n 1, 1) := by decide +kernel
theorem d_Sup_hugeLength_34 : decode b_Sup_hugeLength 34 = .ok (.invokevirtual 98, 3) := by decide +kernel
theorem d_Sup_hugeLength_37 : decode b_Sup_hugeLength 37 = .ok (.ldc 210, 2) := by decide +kernel
theorem d_Sup_hugeLength_39 : decode b_Sup_hugeLength 39 = .ok (.invokevirtual 94, 3) := by decide +kernel
theorem d_Sup_hugeLength_42 : decode b_Sup_hugeLength 42 = .ok (.invokevirtual 101, 3) := by decide +kernel
theorem d_Sup_hugeLength_45 : decode b_Sup_hugeLength 45 = .ok (.invokespecial 212, 3) := by decide +kernel
theorem d_Sup_hugeLength_48 : decode b_Sup_hugeLength 48 = .ok (.athrow, 1) := by decide +kernel
theorem d_Sup_hugeLength_49 : decode b_Sup_hugeLength 49 = .ok (.iload_n 2, 1) := by decide +kernel
theorem d_Sup_hugeLength_50 : decode b_Sup_hugeLength 50 = .ok (.ldc 200, 2) := by decide +kernel
theorem d_Sup_hugeLength_52 : decode b_Sup_hugeLength 52 = .ok (.if_icmp .gt 6, 3) := by decide +kernel
theorem d_Sup_hugeLength_55 : decode b_Sup_hugeLength 55 = .ok (.ldc 200, 2) := by decide +kernel
theorem d_Sup_hugeLength_57 : decode b_Sup_hugeLength 57 = .ok (.ireturn, 1) := by decide +kernel
theorem d_Sup_hugeLength_58 : decode b_Sup_hugeLength 58 = .ok (.iload_n 2, 1) := by decide +kernel
theorem d_Sup_hugeLength_59 : decode b_Sup_hugeLength 59 = .ok (.ireturn, 1) := by decide +kernel
theorem d_Ars_copyOf1_0 : decode b_Ars_copyOf1 0 = .ok (.aload_n 0, 1) := by decide +kernel
theorem d_Ars_copyOf1_1 : decode b_Ars_copyOf1 1 = .ok (.iload_n 1, 1) := by decide +kernel
theorem d_Ars_copyOf1_2 : decode b_Ars_copyOf1 2 = .ok (.aload_n 0, 1) := by decide +kernel
theorem d_Ars_copyOf1_3 : decode b_Ars_copyOf1 3 = .ok (.invokevirtual 86, 3) := by decide +kernel
theorem d_Ars_copyOf1_6 : decode b_Ars_copyOf1 6 = .ok (.invokestatic 300, 3) := by decide +kernel
theorem d_Ars_copyOf1_9 : decode b_Ars_copyOf1 9 = .ok (.areturn, 1) := by decide +kernel
theorem d_Ars_copyOf2_0 : decode b_Ars_copyOf2 0 = .ok (.aload_n 2, 1) := by decide +kernel
theorem d_Ars_copyOf2_1 : decode b_Ars_copyOf2 1 = .ok (.ldc 110, 2) := by decide +kernel
theorem d_Ars_copyOf2_3 : decode b_Ars_copyOf2 3 = .ok (.if_acmp .ne 10, 3) := by decide +kernel
theorem d_Ars_copyOf2_6 : decode b_Ars_copyOf2 6 = .ok (.iload_n 1, 1) := by decide +kernel
theorem d_Ars_copyOf2_7 : decode b_Ars_copyOf2 7 = .ok (.anewarray 2, 3) := by decide +kernel
theorem d_Ars_copyOf2_10 : decode b_Ars_copyOf2 10 = .ok (.goto 14, 3) := by decide +kernel
theorem d_Ars_copyOf2_13 : decode b_Ars_copyOf2 13 = .ok (.aload_n 2, 1) := by decide +kernel
theorem d_Ars_copyOf2_14 : decode b_Ars_copyOf2 14 = .ok (.invokevirtual 90, 3) := by decide +kernel
theorem d_Ars_copyOf2_17 : decode b_Ars_copyOf2 17 = .ok (.iload_n 1, 1) := by decide +kernel
theorem d_Ars_copyOf2_18 : decode b_Ars_copyOf2 18 = .ok (.invokestatic 95, 3) := by decide +kernel
theorem d_Ars_copyOf2_21 : decode b_Ars_copyOf2 21 = .ok (.checkcast 110, 3) := by decide +kernel
theorem d_Ars_copyOf2_24 : decode b_Ars_copyOf2 24 = .ok (.astore_n 3, 1) := by decide +kernel
theorem d_Ars_copyOf2_25 : decode b_Ars_copyOf2 25 = .ok (.aload_n 0, 1) := by decide +kernel
theorem d_Ars_copyOf2_26 : decode b_Ars_copyOf2 26 = .ok (.iconst 0, 1) := by decide +kernel
theorem d_Ars_copyOf2_27 : decode b_Ars_copyOf2 27 = .ok (.aload_n 3, 1) := by decide +kernel
theorem d_Ars_copyOf2_28 : decode b_Ars_copyOf2 28 = .ok (.iconst 0, 1) := by decide +kernel
theorem d_Ars_copyOf2_29 : decode b_Ars_copyOf2 29 = .ok (.aload_n 0, 1) := by decide +kernel
theorem d_Ars_copyOf2_30 : decode b_Ars_copyOf2 30 = .ok (.arraylength, 1) := by decide +kernel
theorem d_Ars_copyOf2_31 : decode b_Ars_copyOf2 31 = .ok (.iload_n 1, 1) := by decide +kernel
theorem d_Ars_copyOf2_32 : decode b_Ars_copyOf2 32 = .ok (.invokestatic 304, 3) := by decide +kernel
theorem d_Ars_copyOf2_35 : decode b_Ars_copyOf2 35 = .ok (.invokestatic 150, 3) := by decide +kernel
theorem d_Ars_copyOf2_38 : decode b_Ars_copyOf2 38 = .ok (.aload_n 3, 1) := by decide +kernel
theorem d_Ars_copyOf2_39 : decode b_Ars_copyOf2 39 = .ok (.areturn, 1) := by decide +kernel
theorem d_Pay_init_0 : decode b_Pay_init 0 = .ok (.aload_n 0, 1) := by decide +kernel
theorem d_Pay_init_1 : decode b_Pay_init 1 = .ok (.invokespecial 3, 3) := by decide +kernel
theorem d_Pay_init_4 : decode b_Pay_init 4 = .ok (.aload_n 0, 1) := by decide +kernel
theorem d_Pay_init_5 : decode b_Pay_init 5 = .ok (.iconst 2, 1) := by decide +kernel
theorem d_Pay_init_6 : decode b_Pay_init 6 = .ok (.putfield 11, 3) := by decide +kernel
theorem d_Pay_init_9 : decode b_Pay_init 9 = .ok (.aload_n 0, 1) := by decide +kernel
theorem d_Pay_init_10 : decode b_Pay_init 10 = .ok (.lconst 0, 1) := by decide +kernel
theorem d_Pay_init_11 : decode b_Pay_init 11 = .ok (.putfield 15, 3) := by decide +kernel
theorem d_Pay_init_14 : decode b_Pay_init 14 = .ok (.aload_n 0, 1) := by decide +kernel
theorem d_Pay_init_15 : decode b_Pay_init 15 = .ok (.lconst 0, 1) := by decide +kernel
theorem d_Pay_init_16 : decode b_Pay_init 16 = .ok (.putfield 19, 3) := by decide +kernel
theorem d_Pay_init_19 : decode b_Pay_init 19 = .ok (.aload_n 0, 1) := by decide +kernel
theorem d_Pay_init_20 : decode b_Pay_init 20 = .ok (.iconst 0, 1) := by decide +kernel
theorem d_Pay_init_21 : decode b_Pay_init 21 = .ok (.putfield 22, 3) := by decide +kernel
theorem d_Pay_init_24 : decode b_Pay_init 24 = .ok (.aload_n 0, 1) := by decide +kernel
theorem d_Pay_init_25 : decode b_Pay_init 25 = .ok (.iconst (-1), 1) := by decide +kernel
theorem d_Pay_init_26 : decode b_Pay_init 26 = .ok (.putfield 25, 3) := by decide +kernel
theorem d_Pay_init_29 : decode b_Pay_init 29 = .ok (.aload_n 0, 1) := by decide +kernel
theorem d_Pay_init_30 : decode b_Pay_init 30 = .ok (.iconst 0, 1) := by decide +kernel
theorem d_Pay_init_31 : decode b_Pay_init 31 = .ok (.putfield 28, 3) := by decide +kernel
theorem d_Pay_init_34 : decode b_Pay_init 34 = .ok (.aload_n 0, 1) := by decide +kernel
theorem d_Pay_init_35 : decode b_Pay_init 35 = .ok (.lconst 0, 1) := by decide +kernel
theorem d_Pay_init_36 : decode b_Pay_init 36 = .ok (.putfield 31, 3) := by decide +kernel
theorem d_Pay_init_39 : decode b_Pay_init 39 = .ok (.aload_n 0, 1) := by decide +kernel
theorem d_Pay_init_40 : decode b_Pay_init 40 = .ok (.iconst (-1), 1) := by decide +kernel
theorem d_Pay_init_41 : decode b_Pay_init 41 = .ok (.putfield 34, 3) := by decide +kernel
theorem d_Pay_init_44 : decode b_Pay_init 44 = .ok (.aload_n 0, 1) := by decide +kernel
theorem d_Pay_init_45 : decode b_Pay_init 45 = .ok (.iload_n 1, 1) := by decide +kernel
theorem d_Pay_init_46 : decode b_Pay_init 46 = .ok (.putfield 37, 3) := by decide +kernel
theorem d_Pay_init_49 : decode b_Pay_init 49 = .ok (.aload_n 0, 1) := by decide +kernel
theorem d_Pay_init_50 : decode b_Pay_init 50 = .ok (.aload_n 2, 1) := by decide +kernel
theorem d_Pay_init_51 : decode b_Pay_init 51 = .ok (.putfield 40, 3) := by decide +kernel
theorem d_Pay_init_54 : decode b_Pay_init 54 = .ok (.return_, 1) := by decide +kernel
theorem d_Mth_min2_0 : decode b_Mth_min2 0 = .ok (.lload_n 0, 1) := by decide +kernel
theorem d_Mth_min2_1 : decode b_Mth_min2 1 = .ok (.lload_n 2, 1) := by decide +kernel
theorem d_Mth_min2_2 : decode b_Mth_min2 2 = .ok (.lcmp, 1) := by decide +kernel
theorem d_Mth_min2_3 : decode b_Mth_min2 3 = .ok (.ifCond .gt 7, 3) := by decide +kernel
theorem d_Mth_min2_6 : decode b_Mth_min2 6 = .ok (.lload_n 0, 1) := by decide +kernel
theorem d_Mth_min2_7 : decode b_Mth_min2 7 = .ok (.goto 4, 3) := by decide +kernel
theorem d_Mth_min2_10 : decode b_Mth_min2 10 = .ok (.lload_n 2, 1) := by decide +kernel
theorem d_Mth_min2_11 : decode b_Mth_min2 11 = .ok (.lreturn, 1) := by decide +kernel
theorem d_Pay_holdUntil_0 : decode b_Pay_holdUntil 0 = .ok (.aload_n 0, 1) := by decide +kernel
theorem d_Pay_holdUntil_1 : decode b_Pay_holdUntil 1 = .ok (.iconst 1, 1) := by decide +kernel
theorem d_Pay_holdUntil_2 : decode b_Pay_holdUntil 2 = .ok (.putfield 11, 3) := by decide +kernel
theorem d_Pay_holdUntil_5 : decode b_Pay_holdUntil 5 = .ok (.aload_n 0, 1) := by decide +kernel
theorem d_Pay_holdUntil_6 : decode b_Pay_holdUntil 6 = .ok (.iload_n 3, 1) := by decide +kernel
theorem d_Pay_holdUntil_7 : decode b_Pay_holdUntil 7 = .ok (.putfield 22, 3) := by decide +kernel
theorem d_Pay_holdUntil_10 : decode b_Pay_holdUntil 10 = .ok (.aload_n 0, 1) := by decide +kernel
theorem d_Pay_holdUntil_11 : decode b_Pay_holdUntil 11 = .ok (.lload_n 1, 1) := by decide +kernel
theorem d_Pay_holdUntil_12 : decode b_Pay_holdUntil 12 = .ok (.invokevirtual 44, 3) := by decide +kernel
theorem d_Pay_holdUntil_15 : decode b_Pay_holdUntil 15 = .ok (.return_, 1) := by decide +kernel
theorem d_Pay_keepHeld_0 : decode b_Pay_keepHeld 0 = .ok (.aload_n 0, 1) := by decide +kernel
theorem d_Pay_keepHeld_1 : decode b_Pay_keepHeld 1 = .ok (.getfield 40, 3) := by decide +kernel
theorem d_Pay_keepHeld_4 : decode b_Pay_keepHeld 4 = .ok (.dup, 1) := by decide +kernel
theorem d_Pay_keepHeld_5 : decode b_Pay_keepHeld 5 = .ok (.getfield 48, 3) := by decide +kernel
theorem d_Pay_keepHeld_8 : decode b_Pay_keepHeld 8 = .ok (.lload_n 1, 1) := by decide +kernel
theorem d_Pay_keepHeld_9 : decode b_Pay_keepHeld 9 = .ok (.aload_n 0, 1) := by decide +kernel
theorem d_Pay_keepHeld_10 : decode b_Pay_keepHeld 10 = .ok (.getfield 15, 3) := by decide +kernel
theorem d_Pay_keepHeld_13 : decode b_Pay_keepHeld 13 = .ok (.lsub, 1) := by decide +kernel
theorem d_Pay_keepHeld_14 : decode b_Pay_keepHeld 14 = .ok (.ladd, 1) := by decide +kernel
theorem d_Pay_keepHeld_15 : decode b_Pay_keepHeld 15 = .ok (.putfield 48, 3) := by decide +kernel
theorem d_Pay_keepHeld_18 : decode b_Pay_keepHeld 18 = .ok (.aload_n 0, 1) := by decide +kernel
theorem d_Pay_keepHeld_19 : decode b_Pay_keepHeld 19 = .ok (.lload_n 1, 1) := by decide +kernel
theorem d_Pay_keepHeld_20 : decode b_Pay_keepHeld 20 = .ok (.putfield 15, 3) := by decide +kernel
theorem d_Pay_keepHeld_23 : decode b_Pay_keepHeld 23 = .ok (.return_, 1) := by decide +kernel
theorem d_Al_add3_0 : decode b_Al_add3 0 = .ok (.aload_n 0, 1) := by decide +kernel
theorem d_Al_add3_1 : decode b_Al_add3 1 = .ok (.iload_n 1, 1) := by decide +kernel
theorem d_Al_add3_2 : decode b_Al_add3 2 = .ok (.invokevirtual 135, 3) := by decide +kernel
theorem d_Al_add3_5 : decode b_Al_add3 5 = .ok (.aload_n 0, 1) := by decide +kernel
theorem d_Al_add3_6 : decode b_Al_add3 6 = .ok (.dup, 1) := by decide +kernel
theorem d_Al_add3_7 : decode b_Al_add3 7 = .ok (.getfield 63, 3) := by decide +kernel
theorem d_Al_add3_10 : decode b_Al_add3 10 = .ok (.iconst 1, 1) := by decide +kernel
theorem d_Al_add3_11 : decode b_Al_add3 11 = .ok (.iadd, 1) := by decide +kernel
theorem d_Al_add3_12 : decode b_Al_add3 12 = .ok (.putfield 63, 3) := by decide +kernel
theorem d_Al_add3_15 : decode b_Al_add3 15 = .ok (.aload_n 0, 1) := by decide +kernel
theorem d_Al_add3_16 : decode b_Al_add3 16 = .ok (.getfield 48, 3) := by decide +kernel
theorem d_Al_add3_19 : decode b_Al_add3 19 = .ok (.dup, 1) := by decide +kernel
theorem d_Al_add3_20 : decode b_Al_add3 20 = .ok (.istore_n 3, 1) := by decide +kernel
theorem d_Al_add3_21 : decode b_Al_add3 21 = .ok (.aload_n 0, 1) := by decide +kernel
theorem d_Al_add3_22 : decode b_Al_add3 22 = .ok (.getfield 9, 3) := by decide +kernel
theorem d_Al_add3_25 : decode b_Al_add3 25 = .ok (.dup, 1) := by decide +kernel
theorem d_Al_add3_26 : decode b_Al_add3 26 = .ok (.astore 4, 2) := by decide +kernel
theorem d_Al_add3_28 : decode b_Al_add3 28 = .ok (.arraylength, 1) := by decide +kernel
theorem d_Al_add3_29 : decode b_Al_add3 29 = .ok (.if_icmp .ne 9, 3) := by decide +kernel
theorem d_Al_add3_32 : decode b_Al_add3 32 = .ok (.aload_n 0, 1) := by decide +kernel
theorem d_Al_add3_33 : decode b_Al_add3 33 = .ok (.invokevirtual 129, 3) := by decide +kernel
theorem d_Al_add3_36 : decode b_Al_add3 36 = .ok (.astore 4, 2) := by decide +kernel
theorem d_Al_add3_38 : decode b_Al_add3 38 = .ok (.aload 4, 2) := by decide +kernel
theorem d_Al_add3_40 : decode b_Al_add3 40 = .ok (.iload_n 1, 1) := by decide +kernel
theorem d_Al_add3_41 : decode b_Al_add3 41 = .ok (.aload 4, 2) := by decide +kernel
theorem d_Al_add3_43 : decode b_Al_add3 43 = .ok (.iload_n 1, 1) := by decide +kernel
theorem d_Al_add3_44 : decode b_Al_add3 44 = .ok (.iconst 1, 1) := by decide +kernel
theorem d_Al_add3_45 : decode b_Al_add3 45 = .ok (.iadd, 1) := by decide +kernel
theorem d_Al_add3_46 : decode b_Al_add3 46 = .ok (.iload_n 3, 1) := by decide +kernel
theorem d_Al_add3_47 : decode b_Al_add3 47 = .ok (.iload_n 1, 1) := by decide +kernel
theorem d_Al_add3_48 : decode b_Al_add3 48 = .ok (.isub, 1) := by decide +kernel
theorem d_Al_add3_49 : decode b_Al_add3 49 = .ok (.invokestatic 112, 3) := by decide +kernel
theorem d_Al_add3_52 : decode b_Al_add3 52 = .ok (.aload 4, 2) := by decide +kernel
theorem d_Al_add3_54 : decode b_Al_add3 54 = .ok (.iload_n 1, 1) := by decide +kernel
theorem d_Al_add3_55 : decode b_Al_add3 55 = .ok (.aload_n 2, 1) := by decide +kernel
theorem d_Al_add3_56 : decode b_Al_add3 56 = .ok (.aastore, 1) := by decide +kernel
theorem d_Al_add3_57 : decode b_Al_add3 57 = .ok (.aload_n 0, 1) := by decide +kernel
theorem d_Al_add3_58 : decode b_Al_add3 58 = .ok (.iload_n 3, 1) := by decide +kernel
theorem d_Al_add3_59 : decode b_Al_add3 59 = .ok (.iconst 1, 1) := by decide +kernel
theorem d_Al_add3_60 : decode b_Al_add3 60 = .ok (.iadd, 1) := by decide +kernel
theorem d_Al_add3_61 : decode b_Al_add3 61 = .ok (.putfield 48, 3) := by decide +kernel
theorem d_Al_add3_64 : decode b_Al_add3 64 = .ok (.return_, 1) := by decide +kernel
theorem d_Al_rangeCheckForAdd_0 : decode b_Al_rangeCheckForAdd 0 = .ok (.iload_n 1, 1) := by decide +kernel
theorem d_Al_rangeCheckForAdd_1 : decode b_Al_rangeCheckForAdd 1 = .ok (.aload_n 0, 1) := by decide +kernel
theorem d_Al_rangeCheckForAdd_2 : decode b_Al_rangeCheckForAdd 2 = .ok (.getfield 48, 3) := by decide +kernel
theorem d_Al_rangeCheckForAdd_5 : decode b_Al_rangeCheckForAdd 5 = .ok (.if_icmp .gt 7, 3) := by decide +kernel
theorem d_Al_rangeCheckForAdd_8 : decode b_Al_rangeCheckForAdd 8 = .ok (.iload_n 1, 1) := by decide +kernel
theorem d_Al_rangeCheckForAdd_9 : decode b_Al_rangeCheckForAdd 9 = .ok (.ifCond .ge 16, 3) := by decide +kernel
theorem d_Al_rangeCheckForAdd_12 : decode b_Al_rangeCheckForAdd 12 = .ok (.new 187, 3) := by decide +kernel
theorem d_Al_rangeCheckForAdd_15 : decode b_Al_rangeCheckForAdd 15 = .ok (.dup, 1) := by decide +kernel
theorem d_Al_rangeCheckForAdd_16 : decode b_Al_rangeCheckForAdd 16 = .ok (.aload_n 0, 1) := by decide +kernel
theorem d_Al_rangeCheckForAdd_17 : decode b_Al_rangeCheckForAdd 17 = .ok (.iload_n 1, 1) := by decide +kernel
theorem d_Al_rangeCheckForAdd_18 : decode b_Al_rangeCheckForAdd 18 = .ok (.invokevirtual 198, 3) := by decide +kernel
theorem d_Al_rangeCheckForAdd_21 : decode b_Al_rangeCheckForAdd 21 = .ok (.invokespecial 193, 3) := by decide +kernel
theorem d_Al_rangeCheckForAdd_24 : decode b_Al_rangeCheckForAdd 24 = .ok (.athrow, 1) := by decide +kernel
theorem d_Al_rangeCheckForAdd_25 : decode b_Al_rangeCheckForAdd 25 = .ok (.return_, 1) := by decide +kernel
theorem d_Pay_take_0 : decode b_Pay_take 0 = .ok (.aload_n 0, 1) := by decide +kernel
theorem d_Pay_take_1 : decode b_Pay_take 1 = .ok (.aload_n 0, 1) := by decide +kernel
theorem d_Pay_take_2 : decode b_Pay_take 2 = .ok (.getfield 15, 3) := by decide +kernel
theorem d_Pay_take_5 : decode b_Pay_take 5 = .ok (.lload_n 1, 1) := by decide +kernel
theorem d_Pay_take_6 : decode b_Pay_take 6 = .ok (.lsub, 1) := by decide +kernel
theorem d_Pay_take_7 : decode b_Pay_take 7 = .ok (.invokevirtual 44, 3) := by decide +kernel
theorem d_Pay_take_10 : decode b_Pay_take 10 = .ok (.aload_n 0, 1) := by decide +kernel
theorem d_Pay_take_11 : decode b_Pay_take 11 = .ok (.dup, 1) := by decide +kernel
theorem d_Pay_take_12 : decode b_Pay_take 12 = .ok (.getfield 19, 3) := by decide +kernel
theorem d_Pay_take_15 : decode b_Pay_take 15 = .ok (.lload_n 1, 1) := by decide +kernel
theorem d_Pay_take_16 : decode b_Pay_take 16 = .ok (.ladd, 1) := by decide +kernel
theorem d_Pay_take_17 : decode b_Pay_take 17 = .ok (.putfield 19, 3) := by decide +kernel
theorem d_Pay_take_20 : decode b_Pay_take 20 = .ok (.aload_n 0, 1) := by decide +kernel
theorem d_Pay_take_21 : decode b_Pay_take 21 = .ok (.getfield 40, 3) := by decide +kernel
theorem d_Pay_take_24 : decode b_Pay_take 24 = .ok (.dup, 1) := by decide +kernel
theorem d_Pay_take_25 : decode b_Pay_take 25 = .ok (.getfield 51, 3) := by decide +kernel
theorem d_Pay_take_28 : decode b_Pay_take 28 = .ok (.lload_n 1, 1) := by decide +kernel
theorem d_Pay_take_29 : decode b_Pay_take 29 = .ok (.lsub, 1) := by decide +kernel
theorem d_Pay_take_30 : decode b_Pay_take 30 = .ok (.putfield 51, 3) := by decide +kernel
theorem d_Pay_take_33 : decode b_Pay_take 33 = .ok (.return_, 1) := by decide +kernel
theorem d_Pay_endHold_0 : decode b_Pay_endHold 0 = .ok (.aload_n 0, 1) := by decide +kernel
theorem d_Pay_endHold_1 : decode b_Pay_endHold 1 = .ok (.lconst 0, 1) := by decide +kernel
theorem d_Pay_endHold_2 : decode b_Pay_endHold 2 = .ok (.invokevirtual 44, 3) := by decide +kernel
theorem d_Pay_endHold_5 : decode b_Pay_endHold 5 = .ok (.aload_n 0, 1) := by decide +kernel
theorem d_Pay_endHold_6 : decode b_Pay_endHold 6 = .ok (.iconst 0, 1) := by decide +kernel
theorem d_Pay_endHold_7 : decode b_Pay_endHold 7 = .ok (.putfield 22, 3) := by decide +kernel
theorem d_Pay_endHold_10 : decode b_Pay_endHold 10 = .ok (.aload_n 0, 1) := by decide +kernel
theorem d_Pay_endHold_11 : decode b_Pay_endHold 11 = .ok (.getfield 19, 3) := by decide +kernel
theorem d_Pay_endHold_14 : decode b_Pay_endHold 14 = .ok (.lconst 0, 1) := by decide +kernel
theorem d_Pay_endHold_15 : decode b_Pay_endHold 15 = .ok (.lcmp, 1) := by decide +kernel
theorem d_Pay_endHold_16 : decode b_Pay_endHold 16 = .ok (.ifCond .le 16, 3) := by decide +kernel
theorem d_Pay_endHold_19 : decode b_Pay_endHold 19 = .ok (.aload_n 0, 1) := by decide +kernel
theorem d_Pay_endHold_20 : decode b_Pay_endHold 20 = .ok (.iconst 3, 1) := by decide +kernel
theorem d_Pay_endHold_21 : decode b_Pay_endHold 21 = .ok (.putfield 11, 3) := by decide +kernel
theorem d_Pay_endHold_24 : decode b_Pay_endHold 24 = .ok (.aload_n 0, 1) := by decide +kernel
theorem d_Pay_endHold_25 : decode b_Pay_endHold 25 = .ok (.iload_n 1, 1) := by decide +kernel
theorem d_Pay_endHold_26 : decode b_Pay_endHold 26 = .ok (.putfield 25, 3) := by decide +kernel
theorem d_Pay_endHold_29 : decode b_Pay_endHold 29 = .ok (.goto 8, 3) := by decide +kernel
theorem d_Pay_endHold_32 : decode b_Pay_endHold 32 = .ok (.aload_n 0, 1) := by decide +kernel
theorem d_Pay_endHold_33 : decode b_Pay_endHold 33 = .ok (.iconst 2, 1) := by decide +kernel
theorem d_Pay_endHold_34 : decode b_Pay_endHold 34 = .ok (.putfield 11, 3) := by decide +kernel
theorem d_Pay_endHold_37 : decode b_Pay_endHold 37 = .ok (.return_, 1) := by decide +kernel
theorem d_Pay_passTo_0 : decode b_Pay_passTo 0 = .ok (.aload_n 0, 1) := by decide +kernel
theorem d_Pay_passTo_1 : decode b_Pay_passTo 1 = .ok (.getfield 11, 3) := by decide +kernel
theorem d_Pay_passTo_4 : decode b_Pay_passTo 4 = .ok (.iconst 1, 1) := by decide +kernel
theorem d_Pay_passTo_5 : decode b_Pay_passTo 5 = .ok (.if_icmp .ne 19, 3) := by decide +kernel
theorem d_Pay_passTo_8 : decode b_Pay_passTo 8 = .ok (.aload_n 0, 1) := by decide +kernel
theorem d_Pay_passTo_9 : decode b_Pay_passTo 9 = .ok (.getfield 22, 3) := by decide +kernel
theorem d_Pay_passTo_12 : decode b_Pay_passTo 12 = .ok (.iload_n 1, 1) := by decide +kernel
theorem d_Pay_passTo_13 : decode b_Pay_passTo 13 = .ok (.if_icmp .gt 11, 3) := by decide +kernel
theorem d_Pay_passTo_16 : decode b_Pay_passTo 16 = .ok (.aload_n 0, 1) := by decide +kernel
theorem d_Pay_passTo_17 : decode b_Pay_passTo 17 = .ok (.aload_n 0, 1) := by decide +kernel
theorem d_Pay_passTo_18 : decode b_Pay_passTo 18 = .ok (.getfield 22, 3) := by decide +kernel
theorem d_Pay_passTo_21 : decode b_Pay_passTo 21 = .ok (.invokevirtual 61, 3) := by decide +kernel
theorem d_Pay_passTo_24 : decode b_Pay_passTo 24 = .ok (.aload_n 0, 1) := by decide +kernel
theorem d_Pay_passTo_25 : decode b_Pay_passTo 25 = .ok (.invokevirtual 57, 3) := by decide +kernel
theorem d_Pay_passTo_28 : decode b_Pay_passTo 28 = .ok (.ifCond .eq 28, 3) := by decide +kernel
theorem d_Pay_passTo_31 : decode b_Pay_passTo 31 = .ok (.aload_n 0, 1) := by decide +kernel
theorem d_Pay_passTo_32 : decode b_Pay_passTo 32 = .ok (.getfield 34, 3) := by decide +kernel
theorem d_Pay_passTo_35 : decode b_Pay_passTo 35 = .ok (.iload_n 1, 1) := by decide +kernel
theorem d_Pay_passTo_36 : decode b_Pay_passTo 36 = .ok (.if_icmp .ge 20, 3) := by decide +kernel
theorem d_Pay_passTo_39 : decode b_Pay_passTo 39 = .ok (.aload_n 0, 1) := by decide +kernel
theorem d_Pay_passTo_40 : decode b_Pay_passTo 40 = .ok (.aload_n 0, 1) := by decide +kernel
theorem d_Pay_passTo_41 : decode b_Pay_passTo 41 = .ok (.getfield 28, 3) := by decide +kernel
theorem d_Pay_passTo_44 : decode b_Pay_passTo 44 = .ok (.iconst 1, 1) := by decide +kernel
theorem d_Pay_passTo_45 : decode b_Pay_passTo 45 = .ok (.if_icmp .ne 7, 3) := by decide +kernel
theorem d_Pay_passTo_48 : decode b_Pay_passTo 48 = .ok (.iconst 1, 1) := by decide +kernel
theorem d_Pay_passTo_49 : decode b_Pay_passTo 49 = .ok (.goto 4, 3) := by decide +kernel
theorem d_Pay_passTo_52 : decode b_Pay_passTo 52 = .ok (.iconst 0, 1) := by decide +kernel
theorem d_Pay_passTo_53 : decode b_Pay_passTo 53 = .ok (.invokevirtual 65, 3) := by decide +kernel
theorem d_Pay_passTo_56 : decode b_Pay_passTo 56 = .ok (.return_, 1) := by decide +kernel
theorem d_Pay_endDispute_0 : decode b_Pay_endDispute 0 = .ok (.aload_n 0, 1) := by decide +kernel
theorem d_Pay_endDispute_1 : decode b_Pay_endDispute 1 = .ok (.getfield 40, 3) := by decide +kernel
theorem d_Pay_endDispute_4 : decode b_Pay_endDispute 4 = .ok (.dup, 1) := by decide +kernel
theorem d_Pay_endDispute_5 : decode b_Pay_endDispute 5 = .ok (.getfield 54, 3) := by decide +kernel
theorem d_Pay_endDispute_8 : decode b_Pay_endDispute 8 = .ok (.aload_n 0, 1) := by decide +kernel
theorem d_Pay_endDispute_9 : decode b_Pay_endDispute 9 = .ok (.getfield 31, 3) := by decide +kernel
theorem d_Pay_endDispute_12 : decode b_Pay_endDispute 12 = .ok (.lsub, 1) := by decide +kernel
theorem d_Pay_endDispute_13 : decode b_Pay_endDispute 13 = .ok (.putfield 54, 3) := by decide +kernel
theorem d_Pay_endDispute_16 : decode b_Pay_endDispute 16 = .ok (.iload_n 1, 1) := by decide +kernel
theorem d_Pay_endDispute_17 : decode b_Pay_endDispute 17 = .ok (.ifCond .ne 19, 3) := by decide +kernel
theorem d_Pay_endDispute_20 : decode b_Pay_endDispute 20 = .ok (.aload_n 0, 1) := by decide +kernel
theorem d_Pay_endDispute_21 : decode b_Pay_endDispute 21 = .ok (.getfield 40, 3) := by decide +kernel
theorem d_Pay_endDispute_24 : decode b_Pay_endDispute 24 = .ok (.dup, 1) := by decide +kernel
theorem d_Pay_endDispute_25 : decode b_Pay_endDispute 25 = .ok (.getfield 51, 3) := by decide +kernel
theorem d_Pay_endDispute_28 : decode b_Pay_endDispute 28 = .ok (.aload_n 0, 1) := by decide +kernel
theorem d_Pay_endDispute_29 : decode b_Pay_endDispute 29 = .ok (.getfield 31, 3) := by decide +kernel
theorem d_Pay_endDispute_32 : decode b_Pay_endDispute 32 = .ok (.lsub, 1) := by decide +kernel
theorem d_Pay_endDispute_33 : decode b_Pay_endDispute 33 = .ok (.putfield 51, 3) := by decide +kernel
theorem d_Pay_endDispute_36 : decode b_Pay_endDispute 36 = .ok (.aload_n 0, 1) := by decide +kernel
theorem d_Pay_endDispute_37 : decode b_Pay_endDispute 37 = .ok (.iload_n 1, 1) := by decide +kernel
theorem d_Pay_endDispute_38 : decode b_Pay_endDispute 38 = .ok (.ifCond .eq 7, 3) := by decide +kernel
theorem d_Pay_endDispute_41 : decode b_Pay_endDispute 41 = .ok (.iconst 3, 1) := by decide +kernel
theorem d_Pay_endDispute_42 : decode b_Pay_endDispute 42 = .ok (.goto 4, 3) := by decide +kernel
theorem d_Pay_endDispute_45 : decode b_Pay_endDispute 45 = .ok (.iconst 4, 1) := by decide +kernel
theorem d_Pay_endDispute_46 : decode b_Pay_endDispute 46 = .ok (.putfield 28, 3) := by decide +kernel
theorem d_Pay_endDispute_49 : decode b_Pay_endDispute 49 = .ok (.aload_n 0, 1) := by decide +kernel
theorem d_Pay_endDispute_50 : decode b_Pay_endDispute 50 = .ok (.iconst (-1), 1) := by decide +kernel
theorem d_Pay_endDispute_51 : decode b_Pay_endDispute 51 = .ok (.putfield 34, 3) := by decide +kernel
theorem d_Pay_endDispute_54 : decode b_Pay_endDispute 54 = .ok (.return_, 1) := by decide +kernel
theorem d_Pay_openDispute_0 : decode b_Pay_openDispute 0 = .ok (.aload_n 0, 1) := by decide +kernel
theorem d_Pay_openDispute_1 : decode b_Pay_openDispute 1 = .ok (.iconst 1, 1) := by decide +kernel
theorem d_Pay_openDispute_2 : decode b_Pay_openDispute 2 = .ok (.putfield 28, 3) := by decide +kernel
theorem d_Pay_openDispute_5 : decode b_Pay_openDispute 5 = .ok (.aload_n 0, 1) := by decide +kernel
theorem d_Pay_openDispute_6 : decode b_Pay_openDispute 6 = .ok (.lload_n 1, 1) := by decide +kernel
theorem d_Pay_openDispute_7 : decode b_Pay_openDispute 7 = .ok (.putfield 31, 3) := by decide +kernel
theorem d_Pay_openDispute_10 : decode b_Pay_openDispute 10 = .ok (.aload_n 0, 1) := by decide +kernel
theorem d_Pay_openDispute_11 : decode b_Pay_openDispute 11 = .ok (.iload_n 3, 1) := by decide +kernel
theorem d_Pay_openDispute_12 : decode b_Pay_openDispute 12 = .ok (.putfield 34, 3) := by decide +kernel
theorem d_Pay_openDispute_15 : decode b_Pay_openDispute 15 = .ok (.aload_n 0, 1) := by decide +kernel
theorem d_Pay_openDispute_16 : decode b_Pay_openDispute 16 = .ok (.getfield 40, 3) := by decide +kernel
theorem d_Pay_openDispute_19 : decode b_Pay_openDispute 19 = .ok (.dup, 1) := by decide +kernel
theorem d_Pay_openDispute_20 : decode b_Pay_openDispute 20 = .ok (.getfield 51, 3) := by decide +kernel
theorem d_Pay_openDispute_23 : decode b_Pay_openDispute 23 = .ok (.lload_n 1, 1) := by decide +kernel
theorem d_Pay_openDispute_24 : decode b_Pay_openDispute 24 = .ok (.ladd, 1) := by decide +kernel
theorem d_Pay_openDispute_25 : decode b_Pay_openDispute 25 = .ok (.putfield 51, 3) := by decide +kernel
theorem d_Pay_openDispute_28 : decode b_Pay_openDispute 28 = .ok (.aload_n 0, 1) := by decide +kernel
theorem d_Pay_openDispute_29 : decode b_Pay_openDispute 29 = .ok (.getfield 40, 3) := by decide +kernel
theorem d_Pay_openDispute_32 : decode b_Pay_openDispute 32 = .ok (.dup, 1) := by decide +kernel
theorem d_Pay_openDispute_33 : decode b_Pay_openDispute 33 = .ok (.getfield 54, 3) := by decide +kernel
theorem d_Pay_openDispute_36 : decode b_Pay_openDispute 36 = .ok (.lload_n 1, 1) := by decide +kernel
theorem d_Pay_openDispute_37 : decode b_Pay_openDispute 37 = .ok (.ladd, 1) := by decide +kernel
theorem d_Pay_openDispute_38 : decode b_Pay_openDispute 38 = .ok (.putfield 54, 3) := by decide +kernel
theorem d_Pay_openDispute_41 : decode b_Pay_openDispute 41 = .ok (.return_, 1) := by decide +kernel
theorem d_Pay_answerDispute_0 : decode b_Pay_answerDispute 0 = .ok (.aload_n 0, 1) := by decide +kernel
theorem d_Pay_answerDispute_1 : decode b_Pay_answerDispute 1 = .ok (.iconst 2, 1) := by decide +kernel
theorem d_Pay_answerDispute_2 : decode b_Pay_answerDispute 2 = .ok (.putfield 28, 3) := by decide +kernel
theorem d_Pay_answerDispute_5 : decode b_Pay_answerDispute 5 = .ok (.aload_n 0, 1) := by decide +kernel
theorem d_Pay_answerDispute_6 : decode b_Pay_answerDispute 6 = .ok (.iload_n 1, 1) := by decide +kernel
theorem d_Pay_answerDispute_7 : decode b_Pay_answerDispute 7 = .ok (.putfield 34, 3) := by decide +kernel
theorem d_Pay_answerDispute_10 : decode b_Pay_answerDispute 10 = .ok (.return_, 1) := by decide +kernel
theorem d_Acc_tell_0 : decode b_Acc_tell 0 = .ok (.iload_n 1, 1) := by decide +kernel
theorem d_Acc_tell_1 : decode b_Acc_tell 1 = .ok (.tableswitch 42 0 2 #[27, 32, 37], 27) := by decide +kernel
theorem d_Acc_tell_28 : decode b_Acc_tell 28 = .ok (.aload_n 0, 1) := by decide +kernel
theorem d_Acc_tell_29 : decode b_Acc_tell 29 = .ok (.getfield 20, 3) := by decide +kernel
theorem d_Acc_tell_32 : decode b_Acc_tell 32 = .ok (.lreturn, 1) := by decide +kernel
theorem d_Acc_tell_33 : decode b_Acc_tell 33 = .ok (.aload_n 0, 1) := by decide +kernel
theorem d_Acc_tell_34 : decode b_Acc_tell 34 = .ok (.getfield 7, 3) := by decide +kernel
theorem d_Acc_tell_37 : decode b_Acc_tell 37 = .ok (.lreturn, 1) := by decide +kernel
theorem d_Acc_tell_38 : decode b_Acc_tell 38 = .ok (.aload_n 0, 1) := by decide +kernel
theorem d_Acc_tell_39 : decode b_Acc_tell 39 = .ok (.getfield 13, 3) := by decide +kernel
theorem d_Acc_tell_42 : decode b_Acc_tell 42 = .ok (.lreturn, 1) := by decide +kernel
theorem d_Acc_tell_43 : decode b_Acc_tell 43 = .ok (.aload_n 0, 1) := by decide +kernel
theorem d_Acc_tell_44 : decode b_Acc_tell 44 = .ok (.invokevirtual 29, 3) := by decide +kernel
theorem d_Acc_tell_47 : decode b_Acc_tell 47 = .ok (.lreturn, 1) := by decide +kernel
theorem d_Pay_tell_0 : decode b_Pay_tell 0 = .ok (.iload_n 1, 1) := by decide +kernel
theorem d_Pay_tell_1 : decode b_Pay_tell 1 = .ok (.tableswitch 95 0 7 #[47, 53, 58, 63, 69, 75, 84, 90], 47) := by decide +kernel
theorem d_Pay_tell_48 : decode b_Pay_tell 48 = .ok (.aload_n 0, 1) := by decide +kernel
theorem d_Pay_tell_49 : decode b_Pay_tell 49 = .ok (.getfield 11, 3) := by decide +kernel
theorem d_Pay_tell_52 : decode b_Pay_tell 52 = .ok (.i2l, 1) := by decide +kernel
theorem d_Pay_tell_53 : decode b_Pay_tell 53 = .ok (.lreturn, 1) := by decide +kernel
theorem d_Pay_tell_54 : decode b_Pay_tell 54 = .ok (.aload_n 0, 1) := by decide +kernel
theorem d_Pay_tell_55 : decode b_Pay_tell 55 = .ok (.getfield 15, 3) := by decide +kernel
theorem d_Pay_tell_58 : decode b_Pay_tell 58 = .ok (.lreturn, 1) := by decide +kernel
theorem d_Pay_tell_59 : decode b_Pay_tell 59 = .ok (.aload_n 0, 1) := by decide +kernel
theorem d_Pay_tell_60 : decode b_Pay_tell 60 = .ok (.getfield 19, 3) := by decide +kernel
theorem d_Pay_tell_63 : decode b_Pay_tell 63 = .ok (.lreturn, 1) := by decide +kernel
theorem d_Pay_tell_64 : decode b_Pay_tell 64 = .ok (.aload_n 0, 1) := by decide +kernel
theorem d_Pay_tell_65 : decode b_Pay_tell 65 = .ok (.getfield 22, 3) := by decide +kernel
theorem d_Pay_tell_68 : decode b_Pay_tell 68 = .ok (.i2l, 1) := by decide +kernel
theorem d_Pay_tell_69 : decode b_Pay_tell 69 = .ok (.lreturn, 1) := by decide +kernel
theorem d_Pay_tell_70 : decode b_Pay_tell 70 = .ok (.aload_n 0, 1) := by decide +kernel
theorem d_Pay_tell_71 : decode b_Pay_tell 71 = .ok (.getfield 25, 3) := by decide +kernel
theorem d_Pay_tell_74 : decode b_Pay_tell 74 = .ok (.i2l, 1) := by decide +kernel
theorem d_Pay_tell_75 : decode b_Pay_tell 75 = .ok (.lreturn, 1) := by decide +kernel
theorem d_Pay_tell_76 : decode b_Pay_tell 76 = .ok (.aload_n 0, 1) := by decide +kernel
theorem d_Pay_tell_77 : decode b_Pay_tell 77 = .ok (.getfield 40, 3) := by decide +kernel
theorem d_Pay_tell_80 : decode b_Pay_tell 80 = .ok (.getfield 69, 3) := by decide +kernel
theorem d_Pay_tell_83 : decode b_Pay_tell 83 = .ok (.i2l, 1) := by decide +kernel
theorem d_Pay_tell_84 : decode b_Pay_tell 84 = .ok (.lreturn, 1) := by decide +kernel
theorem d_Pay_tell_85 : decode b_Pay_tell 85 = .ok (.aload_n 0, 1) := by decide +kernel
theorem d_Pay_tell_86 : decode b_Pay_tell 86 = .ok (.getfield 28, 3) := by decide +kernel
theorem d_Pay_tell_89 : decode b_Pay_tell 89 = .ok (.i2l, 1) := by decide +kernel
theorem d_Pay_tell_90 : decode b_Pay_tell 90 = .ok (.lreturn, 1) := by decide +kernel
theorem d_Pay_tell_91 : decode b_Pay_tell 91 = .ok (.aload_n 0, 1) := by decide +kernel
theorem d_Pay_tell_92 : decode b_Pay_tell 92 = .ok (.getfield 31, 3) := by decide +kernel
theorem d_Pay_tell_95 : decode b_Pay_tell 95 = .ok (.lreturn, 1) := by decide +kernel
theorem d_Pay_tell_96 : decode b_Pay_tell 96 = .ok (.aload_n 0, 1) := by decide +kernel
theorem d_Pay_tell_97 : decode b_Pay_tell 97 = .ok (.getfield 34, 3) := by decide +kernel
theorem d_Pay_tell_100 : decode b_Pay_tell 100 = .ok (.i2l, 1) := by decide +kernel
theorem d_Pay_tell_101 : decode b_Pay_tell 101 = .ok (.lreturn, 1) := by decide +kernel

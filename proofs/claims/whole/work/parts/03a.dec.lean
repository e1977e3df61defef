theorem dX0_init_0 : decode cX0_init 0 = .ok (.aload_n 0, 1) := by decide +kernel
theorem dX0_init_1 : decode cX0_init 1 = .ok (.iload_n 1, 1) := by decide +kernel
theorem dX0_init_2 : decode cX0_init 2 = .ok (.iload_n 2, 1) := by decide +kernel
theorem dX0_init_3 : decode cX0_init 3 = .ok (.iload_n 3, 1) := by decide +kernel
theorem dX0_init_4 : decode cX0_init 4 = .ok (.invokespecial 1, 3) := by decide +kernel
theorem dX0_init_7 : decode cX0_init 7 = .ok (.aload_n 0, 1) := by decide +kernel
theorem dX0_init_8 : decode cX0_init 8 = .ok (.iload 4, 2) := by decide +kernel
theorem dX0_init_10 : decode cX0_init 10 = .ok (.putfield 7, 3) := by decide +kernel
theorem dX0_init_13 : decode cX0_init 13 = .ok (.aload_n 0, 1) := by decide +kernel
theorem dX0_init_14 : decode cX0_init 14 = .ok (.iload 5, 2) := by decide +kernel
theorem dX0_init_16 : decode cX0_init 16 = .ok (.putfield 13, 3) := by decide +kernel
theorem dX0_init_19 : decode cX0_init 19 = .ok (.return_, 1) := by decide +kernel
theorem dX0_kind_0 : decode cX0_kind 0 = .ok (.iconst 1, 1) := by decide +kernel
theorem dX0_kind_1 : decode cX0_kind 1 = .ok (.ireturn, 1) := by decide +kernel
theorem dX0_isFreed_0 : decode cX0_isFreed 0 = .ok (.aload_n 0, 1) := by decide +kernel
theorem dX0_isFreed_1 : decode cX0_isFreed 1 = .ok (.getfield 13, 3) := by decide +kernel
theorem dX0_isFreed_4 : decode cX0_isFreed 4 = .ok (.aload_n 0, 1) := by decide +kernel
theorem dX0_isFreed_5 : decode cX0_isFreed 5 = .ok (.getfield 16, 3) := by decide +kernel
theorem dX0_isFreed_8 : decode cX0_isFreed 8 = .ok (.if_icmp .ne 12, 3) := by decide +kernel
theorem dX0_isFreed_11 : decode cX0_isFreed 11 = .ok (.iload_n 2, 1) := by decide +kernel
theorem dX0_isFreed_12 : decode cX0_isFreed 12 = .ok (.aload_n 0, 1) := by decide +kernel
theorem dX0_isFreed_13 : decode cX0_isFreed 13 = .ok (.getfield 7, 3) := by decide +kernel
theorem dX0_isFreed_16 : decode cX0_isFreed 16 = .ok (.invokestatic 19, 3) := by decide +kernel
theorem dX0_isFreed_19 : decode cX0_isFreed 19 = .ok (.ireturn, 1) := by decide +kernel
theorem dX0_isFreed_20 : decode cX0_isFreed 20 = .ok (.iload_n 1, 1) := by decide +kernel
theorem dX0_isFreed_21 : decode cX0_isFreed 21 = .ok (.aload_n 0, 1) := by decide +kernel
theorem dX0_isFreed_22 : decode cX0_isFreed 22 = .ok (.getfield 7, 3) := by decide +kernel
theorem dX0_isFreed_25 : decode cX0_isFreed 25 = .ok (.invokestatic 19, 3) := by decide +kernel
theorem dX0_isFreed_28 : decode cX0_isFreed 28 = .ok (.ifCond .eq 18, 3) := by decide +kernel
theorem dX0_isFreed_31 : decode cX0_isFreed 31 = .ok (.iload_n 3, 1) := by decide +kernel
theorem dX0_isFreed_32 : decode cX0_isFreed 32 = .ok (.aload_n 0, 1) := by decide +kernel
theorem dX0_isFreed_33 : decode cX0_isFreed 33 = .ok (.getfield 13, 3) := by decide +kernel
theorem dX0_isFreed_36 : decode cX0_isFreed 36 = .ok (.invokestatic 19, 3) := by decide +kernel
theorem dX0_isFreed_39 : decode cX0_isFreed 39 = .ok (.ifCond .eq 7, 3) := by decide +kernel
theorem dX0_isFreed_42 : decode cX0_isFreed 42 = .ok (.iconst 1, 1) := by decide +kernel
theorem dX0_isFreed_43 : decode cX0_isFreed 43 = .ok (.goto 4, 3) := by decide +kernel
theorem dX0_isFreed_46 : decode cX0_isFreed 46 = .ok (.iconst 0, 1) := by decide +kernel
theorem dX0_isFreed_47 : decode cX0_isFreed 47 = .ok (.ireturn, 1) := by decide +kernel
theorem dX1_init_0 : decode cX1_init 0 = .ok (.aload_n 0, 1) := by decide +kernel
theorem dX1_init_1 : decode cX1_init 1 = .ok (.iload_n 1, 1) := by decide +kernel
theorem dX1_init_2 : decode cX1_init 2 = .ok (.iload_n 2, 1) := by decide +kernel
theorem dX1_init_3 : decode cX1_init 3 = .ok (.iload_n 3, 1) := by decide +kernel
theorem dX1_init_4 : decode cX1_init 4 = .ok (.invokespecial 1, 3) := by decide +kernel
theorem dX1_init_7 : decode cX1_init 7 = .ok (.return_, 1) := by decide +kernel
theorem dX1_kind_0 : decode cX1_kind 0 = .ok (.iconst 4, 1) := by decide +kernel
theorem dX1_kind_1 : decode cX1_kind 1 = .ok (.ireturn, 1) := by decide +kernel
theorem dX1_stands_0 : decode cX1_stands 0 = .ok (.aload_n 0, 1) := by decide +kernel
theorem dX1_stands_1 : decode cX1_stands 1 = .ok (.getfield 7, 3) := by decide +kernel
theorem dX1_stands_4 : decode cX1_stands 4 = .ok (.ifCond .eq 15, 3) := by decide +kernel
theorem dX1_stands_7 : decode cX1_stands 7 = .ok (.aload_n 0, 1) := by decide +kernel
theorem dX1_stands_8 : decode cX1_stands 8 = .ok (.iload_n 1, 1) := by decide +kernel
theorem dX1_stands_9 : decode cX1_stands 9 = .ok (.invokevirtual 13, 3) := by decide +kernel
theorem dX1_stands_12 : decode cX1_stands 12 = .ok (.ifCond .eq 7, 3) := by decide +kernel
theorem dX1_stands_15 : decode cX1_stands 15 = .ok (.iconst 1, 1) := by decide +kernel
theorem dX1_stands_16 : decode cX1_stands 16 = .ok (.goto 4, 3) := by decide +kernel
theorem dX1_stands_19 : decode cX1_stands 19 = .ok (.iconst 0, 1) := by decide +kernel
theorem dX1_stands_20 : decode cX1_stands 20 = .ok (.ireturn, 1) := by decide +kernel
theorem dX2_init_0 : decode cX2_init 0 = .ok (.aload_n 0, 1) := by decide +kernel
theorem dX2_init_1 : decode cX2_init 1 = .ok (.invokespecial 1, 3) := by decide +kernel
theorem dX2_init_4 : decode cX2_init 4 = .ok (.aload_n 0, 1) := by decide +kernel
theorem dX2_init_5 : decode cX2_init 5 = .ok (.iload_n 1, 1) := by decide +kernel
theorem dX2_init_6 : decode cX2_init 6 = .ok (.putfield 7, 3) := by decide +kernel
theorem dX2_init_9 : decode cX2_init 9 = .ok (.aload_n 0, 1) := by decide +kernel
theorem dX2_init_10 : decode cX2_init 10 = .ok (.iload_n 2, 1) := by decide +kernel
theorem dX2_init_11 : decode cX2_init 11 = .ok (.putfield 13, 3) := by decide +kernel
theorem dX2_init_14 : decode cX2_init 14 = .ok (.aload_n 0, 1) := by decide +kernel
theorem dX2_init_15 : decode cX2_init 15 = .ok (.iload_n 3, 1) := by decide +kernel
theorem dX2_init_16 : decode cX2_init 16 = .ok (.putfield 16, 3) := by decide +kernel
theorem dX2_init_19 : decode cX2_init 19 = .ok (.return_, 1) := by decide +kernel
theorem dX2_kind_0 : decode cX2_kind 0 = .ok (.iconst 0, 1) := by decide +kernel
theorem dX2_kind_1 : decode cX2_kind 1 = .ok (.ireturn, 1) := by decide +kernel
theorem dX2_stands_0 : decode cX2_stands 0 = .ok (.aload_n 0, 1) := by decide +kernel
theorem dX2_stands_1 : decode cX2_stands 1 = .ok (.iload_n 1, 1) := by decide +kernel
theorem dX2_stands_2 : decode cX2_stands 2 = .ok (.invokevirtual 19, 3) := by decide +kernel
theorem dX2_stands_5 : decode cX2_stands 5 = .ok (.ireturn, 1) := by decide +kernel
theorem dX2_isFreed_0 : decode cX2_isFreed 0 = .ok (.iconst 1, 1) := by decide +kernel
theorem dX2_isFreed_1 : decode cX2_isFreed 1 = .ok (.ireturn, 1) := by decide +kernel
theorem dX2_isOfVersion_0 : decode cX2_isOfVersion 0 = .ok (.aload_n 0, 1) := by decide +kernel
theorem dX2_isOfVersion_1 : decode cX2_isOfVersion 1 = .ok (.getfield 13, 3) := by decide +kernel
theorem dX2_isOfVersion_4 : decode cX2_isOfVersion 4 = .ok (.iload_n 1, 1) := by decide +kernel
theorem dX2_isOfVersion_5 : decode cX2_isOfVersion 5 = .ok (.if_icmp .gt 15, 3) := by decide +kernel
theorem dX2_isOfVersion_8 : decode cX2_isOfVersion 8 = .ok (.iload_n 1, 1) := by decide +kernel
theorem dX2_isOfVersion_9 : decode cX2_isOfVersion 9 = .ok (.aload_n 0, 1) := by decide +kernel
theorem dX2_isOfVersion_10 : decode cX2_isOfVersion 10 = .ok (.getfield 16, 3) := by decide +kernel
theorem dX2_isOfVersion_13 : decode cX2_isOfVersion 13 = .ok (.if_icmp .gt 7, 3) := by decide +kernel
theorem dX2_isOfVersion_16 : decode cX2_isOfVersion 16 = .ok (.iconst 1, 1) := by decide +kernel
theorem dX2_isOfVersion_17 : decode cX2_isOfVersion 17 = .ok (.goto 4, 3) := by decide +kernel
theorem dX2_isOfVersion_20 : decode cX2_isOfVersion 20 = .ok (.iconst 0, 1) := by decide +kernel
theorem dX2_isOfVersion_21 : decode cX2_isOfVersion 21 = .ok (.ireturn, 1) := by decide +kernel
theorem dX3_init_0 : decode cX3_init 0 = .ok (.aload_n 0, 1) := by decide +kernel
theorem dX3_init_1 : decode cX3_init 1 = .ok (.invokespecial 1, 3) := by decide +kernel
theorem dX3_init_4 : decode cX3_init 4 = .ok (.aload_n 0, 1) := by decide +kernel
theorem dX3_init_5 : decode cX3_init 5 = .ok (.iload_n 1, 1) := by decide +kernel
theorem dX3_init_6 : decode cX3_init 6 = .ok (.putfield 7, 3) := by decide +kernel
theorem dX3_init_9 : decode cX3_init 9 = .ok (.aload_n 0, 1) := by decide +kernel
theorem dX3_init_10 : decode cX3_init 10 = .ok (.iload_n 2, 1) := by decide +kernel
theorem dX3_init_11 : decode cX3_init 11 = .ok (.putfield 13, 3) := by decide +kernel
theorem dX3_init_14 : decode cX3_init 14 = .ok (.aload_n 0, 1) := by decide +kernel
theorem dX3_init_15 : decode cX3_init 15 = .ok (.iload_n 3, 1) := by decide +kernel
theorem dX3_init_16 : decode cX3_init 16 = .ok (.putfield 16, 3) := by decide +kernel
theorem dX3_init_19 : decode cX3_init 19 = .ok (.aload_n 0, 1) := by decide +kernel
theorem dX3_init_20 : decode cX3_init 20 = .ok (.iload 4, 2) := by decide +kernel
theorem dX3_init_22 : decode cX3_init 22 = .ok (.putfield 19, 3) := by decide +kernel
theorem dX3_init_25 : decode cX3_init 25 = .ok (.aload_n 0, 1) := by decide +kernel
theorem dX3_init_26 : decode cX3_init 26 = .ok (.iload 5, 2) := by decide +kernel
theorem dX3_init_28 : decode cX3_init 28 = .ok (.putfield 22, 3) := by decide +kernel
theorem dX3_init_31 : decode cX3_init 31 = .ok (.aload_n 0, 1) := by decide +kernel
theorem dX3_init_32 : decode cX3_init 32 = .ok (.iload 6, 2) := by decide +kernel
theorem dX3_init_34 : decode cX3_init 34 = .ok (.putfield 25, 3) := by decide +kernel
theorem dX3_init_37 : decode cX3_init 37 = .ok (.return_, 1) := by decide +kernel
theorem dX4_init_0 : decode cX4_init 0 = .ok (.aload_n 0, 1) := by decide +kernel
theorem dX4_init_1 : decode cX4_init 1 = .ok (.invokespecial 3, 3) := by decide +kernel
theorem dX4_init_4 : decode cX4_init 4 = .ok (.aload_n 0, 1) := by decide +kernel
theorem dX4_init_5 : decode cX4_init 5 = .ok (.bipush 8, 2) := by decide +kernel
theorem dX4_init_7 : decode cX4_init 7 = .ok (.anewarray 9, 3) := by decide +kernel
theorem dX4_init_10 : decode cX4_init 10 = .ok (.putfield 11, 3) := by decide +kernel
theorem dX4_init_13 : decode cX4_init 13 = .ok (.aload_n 0, 1) := by decide +kernel
theorem dX4_init_14 : decode cX4_init 14 = .ok (.bipush 8, 2) := by decide +kernel
theorem dX4_init_16 : decode cX4_init 16 = .ok (.anewarray 17, 3) := by decide +kernel
theorem dX4_init_19 : decode cX4_init 19 = .ok (.putfield 19, 3) := by decide +kernel
theorem dX4_init_22 : decode cX4_init 22 = .ok (.aload_n 0, 1) := by decide +kernel
theorem dX4_init_23 : decode cX4_init 23 = .ok (.bipush 8, 2) := by decide +kernel
theorem dX4_init_25 : decode cX4_init 25 = .ok (.newarray .int, 2) := by decide +kernel
theorem dX4_init_27 : decode cX4_init 27 = .ok (.putfield 23, 3) := by decide +kernel
theorem dX4_init_30 : decode cX4_init 30 = .ok (.aload_n 0, 1) := by decide +kernel
theorem dX4_init_31 : decode cX4_init 31 = .ok (.aload_n 1, 1) := by decide +kernel
theorem dX4_init_32 : decode cX4_init 32 = .ok (.putfield 27, 3) := by decide +kernel
theorem dX4_init_35 : decode cX4_init 35 = .ok (.aload_n 0, 1) := by decide +kernel
theorem dX4_init_36 : decode cX4_init 36 = .ok (.aload_n 2, 1) := by decide +kernel
theorem dX4_init_37 : decode cX4_init 37 = .ok (.putfield 31, 3) := by decide +kernel
theorem dX4_init_40 : decode cX4_init 40 = .ok (.return_, 1) := by decide +kernel
theorem dX4_mendAt_0 : decode cX4_mendAt 0 = .ok (.iload_n 1, 1) := by decide +kernel
theorem dX4_mendAt_1 : decode cX4_mendAt 1 = .ok (.ifCond .lt 20, 3) := by decide +kernel
theorem dX4_mendAt_4 : decode cX4_mendAt 4 = .ok (.iload_n 1, 1) := by decide +kernel
theorem dX4_mendAt_5 : decode cX4_mendAt 5 = .ok (.aload_n 0, 1) := by decide +kernel
theorem dX4_mendAt_6 : decode cX4_mendAt 6 = .ok (.getfield 35, 3) := by decide +kernel
theorem dX4_mendAt_9 : decode cX4_mendAt 9 = .ok (.if_icmp .ge 12, 3) := by decide +kernel
theorem dX4_mendAt_12 : decode cX4_mendAt 12 = .ok (.aload_n 0, 1) := by decide +kernel
theorem dX4_mendAt_13 : decode cX4_mendAt 13 = .ok (.getfield 11, 3) := by decide +kernel
theorem dX4_mendAt_16 : decode cX4_mendAt 16 = .ok (.iload_n 1, 1) := by decide +kernel
theorem dX4_mendAt_17 : decode cX4_mendAt 17 = .ok (.aaload, 1) := by decide +kernel
theorem dX4_mendAt_18 : decode cX4_mendAt 18 = .ok (.goto 4, 3) := by decide +kernel
theorem dX4_mendAt_21 : decode cX4_mendAt 21 = .ok (.aconst_null, 1) := by decide +kernel
theorem dX4_mendAt_22 : decode cX4_mendAt 22 = .ok (.areturn, 1) := by decide +kernel
theorem dX4_isSet_0 : decode cX4_isSet 0 = .ok (.iload_n 1, 1) := by decide +kernel
theorem dX4_isSet_1 : decode cX4_isSet 1 = .ok (.ifCond .lt 18, 3) := by decide +kernel
theorem dX4_isSet_4 : decode cX4_isSet 4 = .ok (.iload_n 1, 1) := by decide +kernel
theorem dX4_isSet_5 : decode cX4_isSet 5 = .ok (.aload_n 0, 1) := by decide +kernel
theorem dX4_isSet_6 : decode cX4_isSet 6 = .ok (.getfield 35, 3) := by decide +kernel
theorem dX4_isSet_9 : decode cX4_isSet 9 = .ok (.invokestatic 39, 3) := by decide +kernel
theorem dX4_isSet_12 : decode cX4_isSet 12 = .ok (.if_icmp .ge 7, 3) := by decide +kernel
theorem dX4_isSet_15 : decode cX4_isSet 15 = .ok (.iconst 1, 1) := by decide +kernel
theorem dX4_isSet_16 : decode cX4_isSet 16 = .ok (.goto 4, 3) := by decide +kernel
theorem dX4_isSet_19 : decode cX4_isSet 19 = .ok (.iconst 0, 1) := by decide +kernel
theorem dX4_isSet_20 : decode cX4_isSet 20 = .ok (.ireturn, 1) := by decide +kernel
theorem dX4_addMend_0 : decode cX4_addMend 0 = .ok (.aload_n 0, 1) := by decide +kernel
theorem dX4_addMend_1 : decode cX4_addMend 1 = .ok (.getfield 35, 3) := by decide +kernel
theorem dX4_addMend_4 : decode cX4_addMend 4 = .ok (.bipush 8, 2) := by decide +kernel
theorem dX4_addMend_6 : decode cX4_addMend 6 = .ok (.if_icmp .lt 6, 3) := by decide +kernel
theorem dX4_addMend_9 : decode cX4_addMend 9 = .ok (.bipush (-3), 2) := by decide +kernel
theorem dX4_addMend_11 : decode cX4_addMend 11 = .ok (.ireturn, 1) := by decide +kernel
theorem dX4_addMend_12 : decode cX4_addMend 12 = .ok (.aload_n 0, 1) := by decide +kernel
theorem dX4_addMend_13 : decode cX4_addMend 13 = .ok (.getfield 11, 3) := by decide +kernel
theorem dX4_addMend_16 : decode cX4_addMend 16 = .ok (.aload_n 0, 1) := by decide +kernel
theorem dX4_addMend_17 : decode cX4_addMend 17 = .ok (.getfield 35, 3) := by decide +kernel
theorem dX4_addMend_20 : decode cX4_addMend 20 = .ok (.aload_n 1, 1) := by decide +kernel
theorem dX4_addMend_21 : decode cX4_addMend 21 = .ok (.aastore, 1) := by decide +kernel
theorem dX4_addMend_22 : decode cX4_addMend 22 = .ok (.aload_n 0, 1) := by decide +kernel
theorem dX4_addMend_23 : decode cX4_addMend 23 = .ok (.dup, 1) := by decide +kernel
theorem dX4_addMend_24 : decode cX4_addMend 24 = .ok (.getfield 35, 3) := by decide +kernel
theorem dX4_addMend_27 : decode cX4_addMend 27 = .ok (.dup_x1, 1) := by decide +kernel
theorem dX4_addMend_28 : decode cX4_addMend 28 = .ok (.iconst 1, 1) := by decide +kernel
theorem dX4_addMend_29 : decode cX4_addMend 29 = .ok (.iadd, 1) := by decide +kernel
theorem dX4_addMend_30 : decode cX4_addMend 30 = .ok (.putfield 35, 3) := by decide +kernel
theorem dX4_addMend_33 : decode cX4_addMend 33 = .ok (.ireturn, 1) := by decide +kernel
theorem dX4_addQuarrel_0 : decode cX4_addQuarrel 0 = .ok (.aload_n 0, 1) := by decide +kernel
theorem dX4_addQuarrel_1 : decode cX4_addQuarrel 1 = .ok (.getfield 43, 3) := by decide +kernel
theorem dX4_addQuarrel_4 : decode cX4_addQuarrel 4 = .ok (.bipush 8, 2) := by decide +kernel
theorem dX4_addQuarrel_6 : decode cX4_addQuarrel 6 = .ok (.if_icmp .lt 6, 3) := by decide +kernel
theorem dX4_addQuarrel_9 : decode cX4_addQuarrel 9 = .ok (.bipush (-3), 2) := by decide +kernel
theorem dX4_addQuarrel_11 : decode cX4_addQuarrel 11 = .ok (.ireturn, 1) := by decide +kernel
theorem dX4_addQuarrel_12 : decode cX4_addQuarrel 12 = .ok (.aload_n 0, 1) := by decide +kernel
theorem dX4_addQuarrel_13 : decode cX4_addQuarrel 13 = .ok (.getfield 19, 3) := by decide +kernel
theorem dX4_addQuarrel_16 : decode cX4_addQuarrel 16 = .ok (.aload_n 0, 1) := by decide +kernel
theorem dX4_addQuarrel_17 : decode cX4_addQuarrel 17 = .ok (.getfield 43, 3) := by decide +kernel
theorem dX4_addQuarrel_20 : decode cX4_addQuarrel 20 = .ok (.aload_n 1, 1) := by decide +kernel
theorem dX4_addQuarrel_21 : decode cX4_addQuarrel 21 = .ok (.aastore, 1) := by decide +kernel
theorem dX4_addQuarrel_22 : decode cX4_addQuarrel 22 = .ok (.aload_n 0, 1) := by decide +kernel
theorem dX4_addQuarrel_23 : decode cX4_addQuarrel 23 = .ok (.dup, 1) := by decide +kernel
theorem dX4_addQuarrel_24 : decode cX4_addQuarrel 24 = .ok (.getfield 43, 3) := by decide +kernel
theorem dX4_addQuarrel_27 : decode cX4_addQuarrel 27 = .ok (.iconst 1, 1) := by decide +kernel
theorem dX4_addQuarrel_28 : decode cX4_addQuarrel 28 = .ok (.iadd, 1) := by decide +kernel
theorem dX4_addQuarrel_29 : decode cX4_addQuarrel 29 = .ok (.dup_x1, 1) := by decide +kernel
theorem dX4_addQuarrel_30 : decode cX4_addQuarrel 30 = .ok (.putfield 43, 3) := by decide +kernel
theorem dX4_addQuarrel_33 : decode cX4_addQuarrel 33 = .ok (.ireturn, 1) := by decide +kernel
theorem dX4_riskAfter_0 : decode cX4_riskAfter 0 = .ok (.aload_n 0, 1) := by decide +kernel
theorem dX4_riskAfter_1 : decode cX4_riskAfter 1 = .ok (.iload_n 1, 1) := by decide +kernel
theorem dX4_riskAfter_2 : decode cX4_riskAfter 2 = .ok (.invokevirtual 46, 3) := by decide +kernel
theorem dX4_riskAfter_5 : decode cX4_riskAfter 5 = .ok (.aload_n 0, 1) := by decide +kernel
theorem dX4_riskAfter_6 : decode cX4_riskAfter 6 = .ok (.getfield 31, 3) := by decide +kernel
theorem dX4_riskAfter_9 : decode cX4_riskAfter 9 = .ok (.aload_n 0, 1) := by decide +kernel
theorem dX4_riskAfter_10 : decode cX4_riskAfter 10 = .ok (.getfield 23, 3) := by decide +kernel
theorem dX4_riskAfter_13 : decode cX4_riskAfter 13 = .ok (.aload_n 0, 1) := by decide +kernel
theorem dX4_riskAfter_14 : decode cX4_riskAfter 14 = .ok (.getfield 27, 3) := by decide +kernel
theorem dX4_riskAfter_17 : decode cX4_riskAfter 17 = .ok (.getfield 50, 3) := by decide +kernel
theorem dX4_riskAfter_20 : decode cX4_riskAfter 20 = .ok (.invokevirtual 55, 3) := by decide +kernel
theorem dX4_riskAfter_23 : decode cX4_riskAfter 23 = .ok (.ireturn, 1) := by decide +kernel
theorem dX4_isSound_0 : decode cX4_isSound 0 = .ok (.aload_n 0, 1) := by decide +kernel
theorem dX4_isSound_1 : decode cX4_isSound 1 = .ok (.iload_n 1, 1) := by decide +kernel
theorem dX4_isSound_2 : decode cX4_isSound 2 = .ok (.invokevirtual 61, 3) := by decide +kernel
theorem dX4_isSound_5 : decode cX4_isSound 5 = .ok (.ifCond .eq 15, 3) := by decide +kernel
theorem dX4_isSound_8 : decode cX4_isSound 8 = .ok (.aload_n 0, 1) := by decide +kernel
theorem dX4_isSound_9 : decode cX4_isSound 9 = .ok (.iload_n 1, 1) := by decide +kernel
theorem dX4_isSound_10 : decode cX4_isSound 10 = .ok (.invokevirtual 65, 3) := by decide +kernel
theorem dX4_isSound_13 : decode cX4_isSound 13 = .ok (.ifCond .ne 7, 3) := by decide +kernel
theorem dX4_isSound_16 : decode cX4_isSound 16 = .ok (.iconst 1, 1) := by decide +kernel
theorem dX4_isSound_17 : decode cX4_isSound 17 = .ok (.goto 4, 3) := by decide +kernel
theorem dX4_isSound_20 : decode cX4_isSound 20 = .ok (.iconst 0, 1) := by decide +kernel
theorem dX4_isSound_21 : decode cX4_isSound 21 = .ok (.ireturn, 1) := by decide +kernel
theorem dX4_quarrelHolds_0 : decode cX4_quarrelHolds 0 = .ok (.aload_n 0, 1) := by decide +kernel
theorem dX4_quarrelHolds_1 : decode cX4_quarrelHolds 1 = .ok (.iload_n 1, 1) := by decide +kernel
theorem dX4_quarrelHolds_2 : decode cX4_quarrelHolds 2 = .ok (.invokevirtual 46, 3) := by decide +kernel
theorem dX4_quarrelHolds_5 : decode cX4_quarrelHolds 5 = .ok (.iconst 0, 1) := by decide +kernel
theorem dX4_quarrelHolds_6 : decode cX4_quarrelHolds 6 = .ok (.istore_n 2, 1) := by decide +kernel
theorem dX4_quarrelHolds_7 : decode cX4_quarrelHolds 7 = .ok (.iload_n 2, 1) := by decide +kernel
theorem dX4_quarrelHolds_8 : decode cX4_quarrelHolds 8 = .ok (.aload_n 0, 1) := by decide +kernel
theorem dX4_quarrelHolds_9 : decode cX4_quarrelHolds 9 = .ok (.getfield 43, 3) := by decide +kernel
theorem dX4_quarrelHolds_12 : decode cX4_quarrelHolds 12 = .ok (.if_icmp .ge 33, 3) := by decide +kernel
theorem dX4_quarrelHolds_15 : decode cX4_quarrelHolds 15 = .ok (.aload_n 0, 1) := by decide +kernel
theorem dX4_quarrelHolds_16 : decode cX4_quarrelHolds 16 = .ok (.getfield 19, 3) := by decide +kernel
theorem dX4_quarrelHolds_19 : decode cX4_quarrelHolds 19 = .ok (.iload_n 2, 1) := by decide +kernel
theorem dX4_quarrelHolds_20 : decode cX4_quarrelHolds 20 = .ok (.aaload, 1) := by decide +kernel
theorem dX4_quarrelHolds_21 : decode cX4_quarrelHolds 21 = .ok (.astore_n 3, 1) := by decide +kernel
theorem dX4_quarrelHolds_22 : decode cX4_quarrelHolds 22 = .ok (.aload_n 3, 1) := by decide +kernel
theorem dX4_quarrelHolds_23 : decode cX4_quarrelHolds 23 = .ok (.ifnull 16, 3) := by decide +kernel
theorem dX4_quarrelHolds_26 : decode cX4_quarrelHolds 26 = .ok (.aload_n 3, 1) := by decide +kernel
theorem dX4_quarrelHolds_27 : decode cX4_quarrelHolds 27 = .ok (.aload_n 0, 1) := by decide +kernel
theorem dX4_quarrelHolds_28 : decode cX4_quarrelHolds 28 = .ok (.getfield 23, 3) := by decide +kernel
theorem dX4_quarrelHolds_31 : decode cX4_quarrelHolds 31 = .ok (.invokevirtual 68, 3) := by decide +kernel
theorem dX4_quarrelHolds_34 : decode cX4_quarrelHolds 34 = .ok (.ifCond .eq 5, 3) := by decide +kernel
theorem dX4_quarrelHolds_37 : decode cX4_quarrelHolds 37 = .ok (.iconst 1, 1) := by decide +kernel
theorem dX4_quarrelHolds_38 : decode cX4_quarrelHolds 38 = .ok (.ireturn, 1) := by decide +kernel
theorem dX4_quarrelHolds_39 : decode cX4_quarrelHolds 39 = .ok (.iinc 2 1, 3) := by decide +kernel
theorem dX4_quarrelHolds_42 : decode cX4_quarrelHolds 42 = .ok (.goto (-35), 3) := by decide +kernel
theorem dX4_quarrelHolds_45 : decode cX4_quarrelHolds 45 = .ok (.iconst 0, 1) := by decide +kernel
theorem dX4_quarrelHolds_46 : decode cX4_quarrelHolds 46 = .ok (.ireturn, 1) := by decide +kernel
theorem dX4_needIsMet_0 : decode cX4_needIsMet 0 = .ok (.aload_n 0, 1) := by decide +kernel
theorem dX4_needIsMet_1 : decode cX4_needIsMet 1 = .ok (.aload_n 1, 1) := by decide +kernel
theorem dX4_needIsMet_2 : decode cX4_needIsMet 2 = .ok (.getfield 72, 3) := by decide +kernel
theorem dX4_needIsMet_5 : decode cX4_needIsMet 5 = .ok (.invokevirtual 75, 3) := by decide +kernel
theorem dX4_needIsMet_8 : decode cX4_needIsMet 8 = .ok (.astore_n 2, 1) := by decide +kernel
theorem dX4_needIsMet_9 : decode cX4_needIsMet 9 = .ok (.aload_n 2, 1) := by decide +kernel
theorem dX4_needIsMet_10 : decode cX4_needIsMet 10 = .ok (.ifnull 22, 3) := by decide +kernel
theorem dX4_needIsMet_13 : decode cX4_needIsMet 13 = .ok (.aload_n 0, 1) := by decide +kernel
theorem dX4_needIsMet_14 : decode cX4_needIsMet 14 = .ok (.getfield 27, 3) := by decide +kernel
theorem dX4_needIsMet_17 : decode cX4_needIsMet 17 = .ok (.getfield 79, 3) := by decide +kernel
theorem dX4_needIsMet_20 : decode cX4_needIsMet 20 = .ok (.aload_n 2, 1) := by decide +kernel
theorem dX4_needIsMet_21 : decode cX4_needIsMet 21 = .ok (.getfield 82, 3) := by decide +kernel
theorem dX4_needIsMet_24 : decode cX4_needIsMet 24 = .ok (.iaload, 1) := by decide +kernel
theorem dX4_needIsMet_25 : decode cX4_needIsMet 25 = .ok (.aload_n 2, 1) := by decide +kernel
theorem dX4_needIsMet_26 : decode cX4_needIsMet 26 = .ok (.getfield 85, 3) := by decide +kernel
theorem dX4_needIsMet_29 : decode cX4_needIsMet 29 = .ok (.if_icmp .lt 7, 3) := by decide +kernel
theorem dX4_needIsMet_32 : decode cX4_needIsMet 32 = .ok (.iconst 1, 1) := by decide +kernel
theorem dX4_needIsMet_33 : decode cX4_needIsMet 33 = .ok (.goto 4, 3) := by decide +kernel
theorem dX4_needIsMet_36 : decode cX4_needIsMet 36 = .ok (.iconst 0, 1) := by decide +kernel
theorem dX4_needIsMet_37 : decode cX4_needIsMet 37 = .ok (.ireturn, 1) := by decide +kernel
theorem dX4_hasAllNeeds_0 : decode cX4_hasAllNeeds 0 = .ok (.iconst 0, 1) := by decide +kernel
theorem dX4_hasAllNeeds_1 : decode cX4_hasAllNeeds 1 = .ok (.istore_n 2, 1) := by decide +kernel
theorem dX4_hasAllNeeds_2 : decode cX4_hasAllNeeds 2 = .ok (.iload_n 2, 1) := by decide +kernel
theorem dX4_hasAllNeeds_3 : decode cX4_hasAllNeeds 3 = .ok (.aload_n 0, 1) := by decide +kernel
theorem dX4_hasAllNeeds_4 : decode cX4_hasAllNeeds 4 = .ok (.getfield 35, 3) := by decide +kernel
theorem dX4_hasAllNeeds_7 : decode cX4_hasAllNeeds 7 = .ok (.if_icmp .ge 52, 3) := by decide +kernel
theorem dX4_hasAllNeeds_10 : decode cX4_hasAllNeeds 10 = .ok (.aload_n 0, 1) := by decide +kernel
theorem dX4_hasAllNeeds_11 : decode cX4_hasAllNeeds 11 = .ok (.getfield 11, 3) := by decide +kernel
theorem dX4_hasAllNeeds_14 : decode cX4_hasAllNeeds 14 = .ok (.iload_n 2, 1) := by decide +kernel
theorem dX4_hasAllNeeds_15 : decode cX4_hasAllNeeds 15 = .ok (.aaload, 1) := by decide +kernel
theorem dX4_hasAllNeeds_16 : decode cX4_hasAllNeeds 16 = .ok (.astore_n 3, 1) := by decide +kernel
theorem dX4_hasAllNeeds_17 : decode cX4_hasAllNeeds 17 = .ok (.aload_n 3, 1) := by decide +kernel
theorem dX4_hasAllNeeds_18 : decode cX4_hasAllNeeds 18 = .ok (.ifnull 35, 3) := by decide +kernel
theorem dX4_hasAllNeeds_21 : decode cX4_hasAllNeeds 21 = .ok (.iload_n 1, 1) := by decide +kernel
theorem dX4_hasAllNeeds_22 : decode cX4_hasAllNeeds 22 = .ok (.iload_n 2, 1) := by decide +kernel
theorem dX4_hasAllNeeds_23 : decode cX4_hasAllNeeds 23 = .ok (.invokestatic 88, 3) := by decide +kernel
theorem dX4_hasAllNeeds_26 : decode cX4_hasAllNeeds 26 = .ok (.ifCond .eq 27, 3) := by decide +kernel
theorem dX4_hasAllNeeds_29 : decode cX4_hasAllNeeds 29 = .ok (.aload_n 3, 1) := by decide +kernel
theorem dX4_hasAllNeeds_30 : decode cX4_hasAllNeeds 30 = .ok (.getfield 72, 3) := by decide +kernel
theorem dX4_hasAllNeeds_33 : decode cX4_hasAllNeeds 33 = .ok (.iconst (-1), 1) := by decide +kernel
theorem dX4_hasAllNeeds_34 : decode cX4_hasAllNeeds 34 = .ok (.if_icmp .ne 6, 3) := by decide +kernel
theorem dX4_hasAllNeeds_37 : decode cX4_hasAllNeeds 37 = .ok (.goto 16, 3) := by decide +kernel
theorem dX4_hasAllNeeds_40 : decode cX4_hasAllNeeds 40 = .ok (.iload_n 1, 1) := by decide +kernel
theorem dX4_hasAllNeeds_41 : decode cX4_hasAllNeeds 41 = .ok (.aload_n 3, 1) := by decide +kernel
theorem dX4_hasAllNeeds_42 : decode cX4_hasAllNeeds 42 = .ok (.getfield 72, 3) := by decide +kernel
theorem dX4_hasAllNeeds_45 : decode cX4_hasAllNeeds 45 = .ok (.invokestatic 88, 3) := by decide +kernel
theorem dX4_hasAllNeeds_48 : decode cX4_hasAllNeeds 48 = .ok (.ifCond .ne 5, 3) := by decide +kernel
theorem dX4_hasAllNeeds_51 : decode cX4_hasAllNeeds 51 = .ok (.iconst 0, 1) := by decide +kernel
theorem dX4_hasAllNeeds_52 : decode cX4_hasAllNeeds 52 = .ok (.ireturn, 1) := by decide +kernel
theorem dX4_hasAllNeeds_53 : decode cX4_hasAllNeeds 53 = .ok (.iinc 2 1, 3) := by decide +kernel
theorem dX4_hasAllNeeds_56 : decode cX4_hasAllNeeds 56 = .ok (.goto (-54), 3) := by decide +kernel
theorem dX4_hasAllNeeds_59 : decode cX4_hasAllNeeds 59 = .ok (.iconst 1, 1) := by decide +kernel
theorem dX4_hasAllNeeds_60 : decode cX4_hasAllNeeds 60 = .ok (.ireturn, 1) := by decide +kernel
theorem dX4_fillVersions_0 : decode cX4_fillVersions 0 = .ok (.aload_n 0, 1) := by decide +kernel
theorem dX4_fillVersions_1 : decode cX4_fillVersions 1 = .ok (.getfield 27, 3) := by decide +kernel
theorem dX4_fillVersions_4 : decode cX4_fillVersions 4 = .ok (.getfield 79, 3) := by decide +kernel
theorem dX4_fillVersions_7 : decode cX4_fillVersions 7 = .ok (.iconst 0, 1) := by decide +kernel
theorem dX4_fillVersions_8 : decode cX4_fillVersions 8 = .ok (.aload_n 0, 1) := by decide +kernel
theorem dX4_fillVersions_9 : decode cX4_fillVersions 9 = .ok (.getfield 23, 3) := by decide +kernel
theorem dX4_fillVersions_12 : decode cX4_fillVersions 12 = .ok (.iconst 0, 1) := by decide +kernel
theorem dX4_fillVersions_13 : decode cX4_fillVersions 13 = .ok (.bipush 8, 2) := by decide +kernel
theorem dX4_fillVersions_15 : decode cX4_fillVersions 15 = .ok (.invokestatic 92, 3) := by decide +kernel
theorem dX4_fillVersions_18 : decode cX4_fillVersions 18 = .ok (.iconst 0, 1) := by decide +kernel
theorem dX4_fillVersions_19 : decode cX4_fillVersions 19 = .ok (.istore_n 2, 1) := by decide +kernel
theorem dX4_fillVersions_20 : decode cX4_fillVersions 20 = .ok (.iload_n 2, 1) := by decide +kernel
theorem dX4_fillVersions_21 : decode cX4_fillVersions 21 = .ok (.aload_n 0, 1) := by decide +kernel
theorem dX4_fillVersions_22 : decode cX4_fillVersions 22 = .ok (.getfield 35, 3) := by decide +kernel
theorem dX4_fillVersions_25 : decode cX4_fillVersions 25 = .ok (.if_icmp .ge 56, 3) := by decide +kernel
theorem dX4_fillVersions_28 : decode cX4_fillVersions 28 = .ok (.aload_n 0, 1) := by decide +kernel
theorem dX4_fillVersions_29 : decode cX4_fillVersions 29 = .ok (.getfield 11, 3) := by decide +kernel
theorem dX4_fillVersions_32 : decode cX4_fillVersions 32 = .ok (.iload_n 2, 1) := by decide +kernel
theorem dX4_fillVersions_33 : decode cX4_fillVersions 33 = .ok (.aaload, 1) := by decide +kernel
theorem dX4_fillVersions_34 : decode cX4_fillVersions 34 = .ok (.astore_n 3, 1) := by decide +kernel
theorem dX4_fillVersions_35 : decode cX4_fillVersions 35 = .ok (.aload_n 3, 1) := by decide +kernel
theorem dX4_fillVersions_36 : decode cX4_fillVersions 36 = .ok (.ifnull 39, 3) := by decide +kernel
theorem dX4_fillVersions_39 : decode cX4_fillVersions 39 = .ok (.iload_n 1, 1) := by decide +kernel
theorem dX4_fillVersions_40 : decode cX4_fillVersions 40 = .ok (.iload_n 2, 1) := by decide +kernel
theorem dX4_fillVersions_41 : decode cX4_fillVersions 41 = .ok (.invokestatic 88, 3) := by decide +kernel
theorem dX4_fillVersions_44 : decode cX4_fillVersions 44 = .ok (.ifCond .ne 6, 3) := by decide +kernel
theorem dX4_fillVersions_47 : decode cX4_fillVersions 47 = .ok (.goto 28, 3) := by decide +kernel
theorem dX4_fillVersions_50 : decode cX4_fillVersions 50 = .ok (.aload_n 0, 1) := by decide +kernel
theorem dX4_fillVersions_51 : decode cX4_fillVersions 51 = .ok (.getfield 23, 3) := by decide +kernel
theorem dX4_fillVersions_54 : decode cX4_fillVersions 54 = .ok (.aload_n 3, 1) := by decide +kernel
theorem dX4_fillVersions_55 : decode cX4_fillVersions 55 = .ok (.getfield 82, 3) := by decide +kernel
theorem dX4_fillVersions_58 : decode cX4_fillVersions 58 = .ok (.aload_n 0, 1) := by decide +kernel
theorem dX4_fillVersions_59 : decode cX4_fillVersions 59 = .ok (.getfield 23, 3) := by decide +kernel
theorem dX4_fillVersions_62 : decode cX4_fillVersions 62 = .ok (.aload_n 3, 1) := by decide +kernel
theorem dX4_fillVersions_63 : decode cX4_fillVersions 63 = .ok (.getfield 82, 3) := by decide +kernel
theorem dX4_fillVersions_66 : decode cX4_fillVersions 66 = .ok (.iaload, 1) := by decide +kernel
theorem dX4_fillVersions_67 : decode cX4_fillVersions 67 = .ok (.aload_n 3, 1) := by decide +kernel
theorem dX4_fillVersions_68 : decode cX4_fillVersions 68 = .ok (.getfield 85, 3) := by decide +kernel
theorem dX4_fillVersions_71 : decode cX4_fillVersions 71 = .ok (.invokestatic 98, 3) := by decide +kernel
theorem dX4_fillVersions_74 : decode cX4_fillVersions 74 = .ok (.iastore, 1) := by decide +kernel
theorem dX4_fillVersions_75 : decode cX4_fillVersions 75 = .ok (.iinc 2 1, 3) := by decide +kernel
theorem dX4_fillVersions_78 : decode cX4_fillVersions 78 = .ok (.goto (-58), 3) := by decide +kernel
theorem dX4_fillVersions_81 : decode cX4_fillVersions 81 = .ok (.return_, 1) := by decide +kernel
theorem dX5_init_0 : decode cX5_init 0 = .ok (.aload_n 0, 1) := by decide +kernel
theorem dX5_init_1 : decode cX5_init 1 = .ok (.invokespecial 3, 3) := by decide +kernel
theorem dX5_init_4 : decode cX5_init 4 = .ok (.aload_n 0, 1) := by decide +kernel
theorem dX5_init_5 : decode cX5_init 5 = .ok (.bipush 8, 2) := by decide +kernel
theorem dX5_init_7 : decode cX5_init 7 = .ok (.newarray .int, 2) := by decide +kernel
theorem dX5_init_9 : decode cX5_init 9 = .ok (.putfield 9, 3) := by decide +kernel
theorem dX5_init_12 : decode cX5_init 12 = .ok (.aload_n 0, 1) := by decide +kernel
theorem dX5_init_13 : decode cX5_init 13 = .ok (.bipush 8, 2) := by decide +kernel
theorem dX5_init_15 : decode cX5_init 15 = .ok (.newarray .int, 2) := by decide +kernel
theorem dX5_init_17 : decode cX5_init 17 = .ok (.putfield 15, 3) := by decide +kernel
theorem dX5_init_20 : decode cX5_init 20 = .ok (.aload_n 0, 1) := by decide +kernel
theorem dX5_init_21 : decode cX5_init 21 = .ok (.bipush 8, 2) := by decide +kernel
theorem dX5_init_23 : decode cX5_init 23 = .ok (.newarray .int, 2) := by decide +kernel
theorem dX5_init_25 : decode cX5_init 25 = .ok (.putfield 18, 3) := by decide +kernel
theorem dX5_init_28 : decode cX5_init 28 = .ok (.aload_n 0, 1) := by decide +kernel
theorem dX5_init_29 : decode cX5_init 29 = .ok (.bipush 12, 2) := by decide +kernel
theorem dX5_init_31 : decode cX5_init 31 = .ok (.anewarray 21, 3) := by decide +kernel
theorem dX5_init_34 : decode cX5_init 34 = .ok (.putfield 23, 3) := by decide +kernel
theorem dX5_init_37 : decode cX5_init 37 = .ok (.return_, 1) := by decide +kernel
theorem dX5_hasPart_0 : decode cX5_hasPart 0 = .ok (.iload_n 1, 1) := by decide +kernel
theorem dX5_hasPart_1 : decode cX5_hasPart 1 = .ok (.ifCond .lt 15, 3) := by decide +kernel
theorem dX5_hasPart_4 : decode cX5_hasPart 4 = .ok (.iload_n 1, 1) := by decide +kernel
theorem dX5_hasPart_5 : decode cX5_hasPart 5 = .ok (.aload_n 0, 1) := by decide +kernel
theorem dX5_hasPart_6 : decode cX5_hasPart 6 = .ok (.getfield 27, 3) := by decide +kernel
theorem dX5_hasPart_9 : decode cX5_hasPart 9 = .ok (.if_icmp .ge 7, 3) := by decide +kernel
theorem dX5_hasPart_12 : decode cX5_hasPart 12 = .ok (.iconst 1, 1) := by decide +kernel
theorem dX5_hasPart_13 : decode cX5_hasPart 13 = .ok (.goto 4, 3) := by decide +kernel
theorem dX5_hasPart_16 : decode cX5_hasPart 16 = .ok (.iconst 0, 1) := by decide +kernel
theorem dX5_hasPart_17 : decode cX5_hasPart 17 = .ok (.ireturn, 1) := by decide +kernel
theorem dX5_holeAt_0 : decode cX5_holeAt 0 = .ok (.iload_n 1, 1) := by decide +kernel
theorem dX5_holeAt_1 : decode cX5_holeAt 1 = .ok (.ifCond .lt 20, 3) := by decide +kernel
theorem dX5_holeAt_4 : decode cX5_holeAt 4 = .ok (.iload_n 1, 1) := by decide +kernel
theorem dX5_holeAt_5 : decode cX5_holeAt 5 = .ok (.aload_n 0, 1) := by decide +kernel
theorem dX5_holeAt_6 : decode cX5_holeAt 6 = .ok (.getfield 31, 3) := by decide +kernel
theorem dX5_holeAt_9 : decode cX5_holeAt 9 = .ok (.if_icmp .ge 12, 3) := by decide +kernel
theorem dX5_holeAt_12 : decode cX5_holeAt 12 = .ok (.aload_n 0, 1) := by decide +kernel
theorem dX5_holeAt_13 : decode cX5_holeAt 13 = .ok (.getfield 23, 3) := by decide +kernel
theorem dX5_holeAt_16 : decode cX5_holeAt 16 = .ok (.iload_n 1, 1) := by decide +kernel
theorem dX5_holeAt_17 : decode cX5_holeAt 17 = .ok (.aaload, 1) := by decide +kernel
theorem dX5_holeAt_18 : decode cX5_holeAt 18 = .ok (.goto 4, 3) := by decide +kernel
theorem dX5_holeAt_21 : decode cX5_holeAt 21 = .ok (.aconst_null, 1) := by decide +kernel
theorem dX5_holeAt_22 : decode cX5_holeAt 22 = .ok (.areturn, 1) := by decide +kernel
theorem dX5_addPart_0 : decode cX5_addPart 0 = .ok (.aload_n 0, 1) := by decide +kernel
theorem dX5_addPart_1 : decode cX5_addPart 1 = .ok (.getfield 27, 3) := by decide +kernel
theorem dX5_addPart_4 : decode cX5_addPart 4 = .ok (.bipush 8, 2) := by decide +kernel
theorem dX5_addPart_6 : decode cX5_addPart 6 = .ok (.if_icmp .lt 6, 3) := by decide +kernel
theorem dX5_addPart_9 : decode cX5_addPart 9 = .ok (.bipush (-3), 2) := by decide +kernel
theorem dX5_addPart_11 : decode cX5_addPart 11 = .ok (.ireturn, 1) := by decide +kernel
theorem dX5_addPart_12 : decode cX5_addPart 12 = .ok (.aload_n 0, 1) := by decide +kernel
theorem dX5_addPart_13 : decode cX5_addPart 13 = .ok (.getfield 9, 3) := by decide +kernel
theorem dX5_addPart_16 : decode cX5_addPart 16 = .ok (.aload_n 0, 1) := by decide +kernel
theorem dX5_addPart_17 : decode cX5_addPart 17 = .ok (.getfield 27, 3) := by decide +kernel
theorem dX5_addPart_20 : decode cX5_addPart 20 = .ok (.iload_n 1, 1) := by decide +kernel
theorem dX5_addPart_21 : decode cX5_addPart 21 = .ok (.iastore, 1) := by decide +kernel
theorem dX5_addPart_22 : decode cX5_addPart 22 = .ok (.aload_n 0, 1) := by decide +kernel
theorem dX5_addPart_23 : decode cX5_addPart 23 = .ok (.getfield 15, 3) := by decide +kernel
theorem dX5_addPart_26 : decode cX5_addPart 26 = .ok (.aload_n 0, 1) := by decide +kernel
theorem dX5_addPart_27 : decode cX5_addPart 27 = .ok (.getfield 27, 3) := by decide +kernel
theorem dX5_addPart_30 : decode cX5_addPart 30 = .ok (.iload_n 2, 1) := by decide +kernel
theorem dX5_addPart_31 : decode cX5_addPart 31 = .ok (.iastore, 1) := by decide +kernel
theorem dX5_addPart_32 : decode cX5_addPart 32 = .ok (.aload_n 0, 1) := by decide +kernel
theorem dX5_addPart_33 : decode cX5_addPart 33 = .ok (.aload_n 0, 1) := by decide +kernel
theorem dX5_addPart_34 : decode cX5_addPart 34 = .ok (.getfield 34, 3) := by decide +kernel
theorem dX5_addPart_37 : decode cX5_addPart 37 = .ok (.aload_n 0, 1) := by decide +kernel
theorem dX5_addPart_38 : decode cX5_addPart 38 = .ok (.getfield 27, 3) := by decide +kernel
theorem dX5_addPart_41 : decode cX5_addPart 41 = .ok (.iload_n 3, 1) := by decide +kernel
theorem dX5_addPart_42 : decode cX5_addPart 42 = .ok (.invokestatic 37, 3) := by decide +kernel
theorem dX5_addPart_45 : decode cX5_addPart 45 = .ok (.putfield 34, 3) := by decide +kernel
theorem dX5_addPart_48 : decode cX5_addPart 48 = .ok (.aload_n 0, 1) := by decide +kernel
theorem dX5_addPart_49 : decode cX5_addPart 49 = .ok (.dup, 1) := by decide +kernel
theorem dX5_addPart_50 : decode cX5_addPart 50 = .ok (.getfield 27, 3) := by decide +kernel
theorem dX5_addPart_53 : decode cX5_addPart 53 = .ok (.dup_x1, 1) := by decide +kernel
theorem dX5_addPart_54 : decode cX5_addPart 54 = .ok (.iconst 1, 1) := by decide +kernel
theorem dX5_addPart_55 : decode cX5_addPart 55 = .ok (.iadd, 1) := by decide +kernel
theorem dX5_addPart_56 : decode cX5_addPart 56 = .ok (.putfield 27, 3) := by decide +kernel
theorem dX5_addPart_59 : decode cX5_addPart 59 = .ok (.ireturn, 1) := by decide +kernel
theorem dX5_addHole_0 : decode cX5_addHole 0 = .ok (.aload_n 0, 1) := by decide +kernel
theorem dX5_addHole_1 : decode cX5_addHole 1 = .ok (.getfield 31, 3) := by decide +kernel
theorem dX5_addHole_4 : decode cX5_addHole 4 = .ok (.bipush 12, 2) := by decide +kernel
theorem dX5_addHole_6 : decode cX5_addHole 6 = .ok (.if_icmp .lt 6, 3) := by decide +kernel
theorem dX5_addHole_9 : decode cX5_addHole 9 = .ok (.bipush (-3), 2) := by decide +kernel
theorem dX5_addHole_11 : decode cX5_addHole 11 = .ok (.ireturn, 1) := by decide +kernel
theorem dX5_addHole_12 : decode cX5_addHole 12 = .ok (.aload_n 0, 1) := by decide +kernel
theorem dX5_addHole_13 : decode cX5_addHole 13 = .ok (.getfield 23, 3) := by decide +kernel
theorem dX5_addHole_16 : decode cX5_addHole 16 = .ok (.aload_n 0, 1) := by decide +kernel
theorem dX5_addHole_17 : decode cX5_addHole 17 = .ok (.getfield 31, 3) := by decide +kernel
theorem dX5_addHole_20 : decode cX5_addHole 20 = .ok (.aload_n 1, 1) := by decide +kernel
theorem dX5_addHole_21 : decode cX5_addHole 21 = .ok (.aastore, 1) := by decide +kernel
theorem dX5_addHole_22 : decode cX5_addHole 22 = .ok (.aload_n 0, 1) := by decide +kernel
theorem dX5_addHole_23 : decode cX5_addHole 23 = .ok (.dup, 1) := by decide +kernel
theorem dX5_addHole_24 : decode cX5_addHole 24 = .ok (.getfield 31, 3) := by decide +kernel
theorem dX5_addHole_27 : decode cX5_addHole 27 = .ok (.dup_x1, 1) := by decide +kernel
theorem dX5_addHole_28 : decode cX5_addHole 28 = .ok (.iconst 1, 1) := by decide +kernel
theorem dX5_addHole_29 : decode cX5_addHole 29 = .ok (.iadd, 1) := by decide +kernel
theorem dX5_addHole_30 : decode cX5_addHole 30 = .ok (.putfield 31, 3) := by decide +kernel
theorem dX5_addHole_33 : decode cX5_addHole 33 = .ok (.ireturn, 1) := by decide +kernel
theorem dX5_standsNow_0 : decode cX5_standsNow 0 = .ok (.aload_n 1, 1) := by decide +kernel
theorem dX5_standsNow_1 : decode cX5_standsNow 1 = .ok (.aload_n 0, 1) := by decide +kernel
theorem dX5_standsNow_2 : decode cX5_standsNow 2 = .ok (.getfield 9, 3) := by decide +kernel
theorem dX5_standsNow_5 : decode cX5_standsNow 5 = .ok (.aload_n 1, 1) := by decide +kernel
theorem dX5_standsNow_6 : decode cX5_standsNow 6 = .ok (.getfield 41, 3) := by decide +kernel
theorem dX5_standsNow_9 : decode cX5_standsNow 9 = .ok (.iaload, 1) := by decide +kernel
theorem dX5_standsNow_10 : decode cX5_standsNow 10 = .ok (.aload_n 0, 1) := by decide +kernel
theorem dX5_standsNow_11 : decode cX5_standsNow 11 = .ok (.getfield 44, 3) := by decide +kernel
theorem dX5_standsNow_14 : decode cX5_standsNow 14 = .ok (.aload_n 1, 1) := by decide +kernel
theorem dX5_standsNow_15 : decode cX5_standsNow 15 = .ok (.getfield 41, 3) := by decide +kernel
theorem dX5_standsNow_18 : decode cX5_standsNow 18 = .ok (.invokestatic 47, 3) := by decide +kernel
theorem dX5_standsNow_21 : decode cX5_standsNow 21 = .ok (.invokevirtual 51, 3) := by decide +kernel
theorem dX5_standsNow_24 : decode cX5_standsNow 24 = .ok (.ireturn, 1) := by decide +kernel
theorem dX6_init_0 : decode cX6_init 0 = .ok (.aload_n 0, 1) := by decide +kernel
theorem dX6_init_1 : decode cX6_init 1 = .ok (.invokespecial 3, 3) := by decide +kernel
theorem dX6_init_4 : decode cX6_init 4 = .ok (.aload_n 0, 1) := by decide +kernel
theorem dX6_init_5 : decode cX6_init 5 = .ok (.sipush 256, 3) := by decide +kernel
theorem dX6_init_8 : decode cX6_init 8 = .ok (.newarray .int, 2) := by decide +kernel
theorem dX6_init_10 : decode cX6_init 10 = .ok (.putfield 9, 3) := by decide +kernel
theorem dX6_init_13 : decode cX6_init 13 = .ok (.aload_n 0, 1) := by decide +kernel
theorem dX6_init_14 : decode cX6_init 14 = .ok (.sipush 256, 3) := by decide +kernel
theorem dX6_init_17 : decode cX6_init 17 = .ok (.newarray .boolean, 2) := by decide +kernel
theorem dX6_init_19 : decode cX6_init 19 = .ok (.putfield 15, 3) := by decide +kernel
theorem dX6_init_22 : decode cX6_init 22 = .ok (.aload_n 0, 1) := by decide +kernel
theorem dX6_init_23 : decode cX6_init 23 = .ok (.bipush 7, 2) := by decide +kernel
theorem dX6_init_25 : decode cX6_init 25 = .ok (.sipush 256, 3) := by decide +kernel
theorem dX6_init_28 : decode cX6_init 28 = .ok (.multianewarray 19 2, 4) := by decide +kernel
theorem dX6_init_32 : decode cX6_init 32 = .ok (.putfield 21, 3) := by decide +kernel
theorem dX6_init_35 : decode cX6_init 35 = .ok (.aload_n 0, 1) := by decide +kernel
theorem dX6_init_36 : decode cX6_init 36 = .ok (.bipush 6, 2) := by decide +kernel
theorem dX6_init_38 : decode cX6_init 38 = .ok (.newarray .int, 2) := by decide +kernel
theorem dX6_init_40 : decode cX6_init 40 = .ok (.putfield 24, 3) := by decide +kernel
theorem dX6_init_43 : decode cX6_init 43 = .ok (.aload_n 0, 1) := by decide +kernel
theorem dX6_init_44 : decode cX6_init 44 = .ok (.bipush 7, 2) := by decide +kernel
theorem dX6_init_46 : decode cX6_init 46 = .ok (.newarray .int, 2) := by decide +kernel
theorem dX6_init_48 : decode cX6_init 48 = .ok (.putfield 27, 3) := by decide +kernel
theorem dX6_init_51 : decode cX6_init 51 = .ok (.aload_n 0, 1) := by decide +kernel
theorem dX6_init_52 : decode cX6_init 52 = .ok (.bipush 8, 2) := by decide +kernel
theorem dX6_init_54 : decode cX6_init 54 = .ok (.newarray .int, 2) := by decide +kernel
theorem dX6_init_56 : decode cX6_init 56 = .ok (.putfield 30, 3) := by decide +kernel
theorem dX6_init_59 : decode cX6_init 59 = .ok (.aload_n 0, 1) := by decide +kernel
theorem dX6_init_60 : decode cX6_init 60 = .ok (.aload_n 1, 1) := by decide +kernel
theorem dX6_init_61 : decode cX6_init 61 = .ok (.putfield 33, 3) := by decide +kernel
theorem dX6_init_64 : decode cX6_init 64 = .ok (.aload_n 0, 1) := by decide +kernel
theorem dX6_init_65 : decode cX6_init 65 = .ok (.getfield 30, 3) := by decide +kernel
theorem dX6_init_68 : decode cX6_init 68 = .ok (.bipush (-4), 2) := by decide +kernel
theorem dX6_init_70 : decode cX6_init 70 = .ok (.invokestatic 37, 3) := by decide +kernel
theorem dX6_init_73 : decode cX6_init 73 = .ok (.return_, 1) := by decide +kernel
theorem dX6_weighSets_0 : decode cX6_weighSets 0 = .ok (.aload_n 0, 1) := by decide +kernel
theorem dX6_weighSets_1 : decode cX6_weighSets 1 = .ok (.iload_n 1, 1) := by decide +kernel
theorem dX6_weighSets_2 : decode cX6_weighSets 2 = .ok (.invokevirtual 43, 3) := by decide +kernel
theorem dX6_weighSets_5 : decode cX6_weighSets 5 = .ok (.iconst 0, 1) := by decide +kernel
theorem dX6_weighSets_6 : decode cX6_weighSets 6 = .ok (.istore_n 3, 1) := by decide +kernel
theorem dX6_weighSets_7 : decode cX6_weighSets 7 = .ok (.iload_n 3, 1) := by decide +kernel
theorem dX6_weighSets_8 : decode cX6_weighSets 8 = .ok (.sipush 256, 3) := by decide +kernel
theorem dX6_weighSets_11 : decode cX6_weighSets 11 = .ok (.if_icmp .ge 74, 3) := by decide +kernel
theorem dX6_weighSets_14 : decode cX6_weighSets 14 = .ok (.iload_n 3, 1) := by decide +kernel
theorem dX6_weighSets_15 : decode cX6_weighSets 15 = .ok (.aload_n 0, 1) := by decide +kernel
theorem dX6_weighSets_16 : decode cX6_weighSets 16 = .ok (.getfield 27, 3) := by decide +kernel
theorem dX6_weighSets_19 : decode cX6_weighSets 19 = .ok (.iload_n 1, 1) := by decide +kernel
theorem dX6_weighSets_20 : decode cX6_weighSets 20 = .ok (.iaload, 1) := by decide +kernel
theorem dX6_weighSets_21 : decode cX6_weighSets 21 = .ok (.iconst (-1), 1) := by decide +kernel
theorem dX6_weighSets_22 : decode cX6_weighSets 22 = .ok (.ixor, 1) := by decide +kernel
theorem dX6_weighSets_23 : decode cX6_weighSets 23 = .ok (.iand, 1) := by decide +kernel
theorem dX6_weighSets_24 : decode cX6_weighSets 24 = .ok (.ifCond .eq 6, 3) := by decide +kernel
theorem dX6_weighSets_27 : decode cX6_weighSets 27 = .ok (.goto 52, 3) := by decide +kernel
theorem dX6_weighSets_30 : decode cX6_weighSets 30 = .ok (.aload_n 0, 1) := by decide +kernel
theorem dX6_weighSets_31 : decode cX6_weighSets 31 = .ok (.getfield 15, 3) := by decide +kernel
theorem dX6_weighSets_34 : decode cX6_weighSets 34 = .ok (.iload_n 3, 1) := by decide +kernel
theorem dX6_weighSets_35 : decode cX6_weighSets 35 = .ok (.aload_n 0, 1) := by decide +kernel
theorem dX6_weighSets_36 : decode cX6_weighSets 36 = .ok (.iload_n 3, 1) := by decide +kernel
theorem dX6_weighSets_37 : decode cX6_weighSets 37 = .ok (.invokevirtual 47, 3) := by decide +kernel
theorem dX6_weighSets_40 : decode cX6_weighSets 40 = .ok (.iload_n 2, 1) := by decide +kernel
theorem dX6_weighSets_41 : decode cX6_weighSets 41 = .ok (.if_icmp .gt 7, 3) := by decide +kernel
theorem dX6_weighSets_44 : decode cX6_weighSets 44 = .ok (.iconst 1, 1) := by decide +kernel
theorem dX6_weighSets_45 : decode cX6_weighSets 45 = .ok (.goto 4, 3) := by decide +kernel
theorem dX6_weighSets_48 : decode cX6_weighSets 48 = .ok (.iconst 0, 1) := by decide +kernel
theorem dX6_weighSets_49 : decode cX6_weighSets 49 = .ok (.bastore, 1) := by decide +kernel
theorem dX6_weighSets_50 : decode cX6_weighSets 50 = .ok (.aload_n 0, 1) := by decide +kernel
theorem dX6_weighSets_51 : decode cX6_weighSets 51 = .ok (.getfield 9, 3) := by decide +kernel
theorem dX6_weighSets_54 : decode cX6_weighSets 54 = .ok (.iload_n 3, 1) := by decide +kernel
theorem dX6_weighSets_55 : decode cX6_weighSets 55 = .ok (.aload_n 0, 1) := by decide +kernel
theorem dX6_weighSets_56 : decode cX6_weighSets 56 = .ok (.getfield 33, 3) := by decide +kernel
theorem dX6_weighSets_59 : decode cX6_weighSets 59 = .ok (.iload_n 3, 1) := by decide +kernel
theorem dX6_weighSets_60 : decode cX6_weighSets 60 = .ok (.invokevirtual 51, 3) := by decide +kernel
theorem dX6_weighSets_63 : decode cX6_weighSets 63 = .ok (.ifCond .eq 14, 3) := by decide +kernel
theorem dX6_weighSets_66 : decode cX6_weighSets 66 = .ok (.aload_n 0, 1) := by decide +kernel
theorem dX6_weighSets_67 : decode cX6_weighSets 67 = .ok (.getfield 33, 3) := by decide +kernel
theorem dX6_weighSets_70 : decode cX6_weighSets 70 = .ok (.iload_n 3, 1) := by decide +kernel
theorem dX6_weighSets_71 : decode cX6_weighSets 71 = .ok (.invokevirtual 57, 3) := by decide +kernel
theorem dX6_weighSets_74 : decode cX6_weighSets 74 = .ok (.goto 4, 3) := by decide +kernel
theorem dX6_weighSets_77 : decode cX6_weighSets 77 = .ok (.iconst (-1), 1) := by decide +kernel
theorem dX6_weighSets_78 : decode cX6_weighSets 78 = .ok (.iastore, 1) := by decide +kernel
theorem dX6_weighSets_79 : decode cX6_weighSets 79 = .ok (.iinc 3 1, 3) := by decide +kernel
theorem dX6_weighSets_82 : decode cX6_weighSets 82 = .ok (.goto (-75), 3) := by decide +kernel
theorem dX6_weighSets_85 : decode cX6_weighSets 85 = .ok (.return_, 1) := by decide +kernel
theorem dX6_findSums_0 : decode cX6_findSums 0 = .ok (.aload_n 0, 1) := by decide +kernel
theorem dX6_findSums_1 : decode cX6_findSums 1 = .ok (.getfield 9, 3) := by decide +kernel
theorem dX6_findSums_4 : decode cX6_findSums 4 = .ok (.iconst 0, 1) := by decide +kernel
theorem dX6_findSums_5 : decode cX6_findSums 5 = .ok (.aload_n 0, 1) := by decide +kernel
theorem dX6_findSums_6 : decode cX6_findSums 6 = .ok (.getfield 21, 3) := by decide +kernel
theorem dX6_findSums_9 : decode cX6_findSums 9 = .ok (.iload_n 1, 1) := by decide +kernel
theorem dX6_findSums_10 : decode cX6_findSums 10 = .ok (.aaload, 1) := by decide +kernel
theorem dX6_findSums_11 : decode cX6_findSums 11 = .ok (.iconst 0, 1) := by decide +kernel
theorem dX6_findSums_12 : decode cX6_findSums 12 = .ok (.sipush 256, 3) := by decide +kernel
theorem dX6_findSums_15 : decode cX6_findSums 15 = .ok (.invokestatic 60, 3) := by decide +kernel
theorem dX6_findSums_18 : decode cX6_findSums 18 = .ok (.iload_n 1, 1) := by decide +kernel
theorem dX6_findSums_19 : decode cX6_findSums 19 = .ok (.iconst 1, 1) := by decide +kernel
theorem dX6_findSums_20 : decode cX6_findSums 20 = .ok (.isub, 1) := by decide +kernel
theorem dX6_findSums_21 : decode cX6_findSums 21 = .ok (.istore_n 2, 1) := by decide +kernel
theorem dX6_findSums_22 : decode cX6_findSums 22 = .ok (.iload_n 2, 1) := by decide +kernel
theorem dX6_findSums_23 : decode cX6_findSums 23 = .ok (.ifCond .lt 82, 3) := by decide +kernel
theorem dX6_findSums_26 : decode cX6_findSums 26 = .ok (.iconst 0, 1) := by decide +kernel
theorem dX6_findSums_27 : decode cX6_findSums 27 = .ok (.istore_n 3, 1) := by decide +kernel
theorem dX6_findSums_28 : decode cX6_findSums 28 = .ok (.iload_n 3, 1) := by decide +kernel
theorem dX6_findSums_29 : decode cX6_findSums 29 = .ok (.sipush 256, 3) := by decide +kernel
theorem dX6_findSums_32 : decode cX6_findSums 32 = .ok (.if_icmp .ge 67, 3) := by decide +kernel
theorem dX6_findSums_35 : decode cX6_findSums 35 = .ok (.iload_n 3, 1) := by decide +kernel
theorem dX6_findSums_36 : decode cX6_findSums 36 = .ok (.aload_n 0, 1) := by decide +kernel
theorem dX6_findSums_37 : decode cX6_findSums 37 = .ok (.getfield 27, 3) := by decide +kernel
theorem dX6_findSums_40 : decode cX6_findSums 40 = .ok (.iload_n 2, 1) := by decide +kernel
theorem dX6_findSums_41 : decode cX6_findSums 41 = .ok (.iaload, 1) := by decide +kernel
theorem dX6_findSums_42 : decode cX6_findSums 42 = .ok (.iconst (-1), 1) := by decide +kernel
theorem dX6_findSums_43 : decode cX6_findSums 43 = .ok (.ixor, 1) := by decide +kernel
theorem dX6_findSums_44 : decode cX6_findSums 44 = .ok (.iand, 1) := by decide +kernel
theorem dX6_findSums_45 : decode cX6_findSums 45 = .ok (.ifCond .ne 48, 3) := by decide +kernel
theorem dX6_findSums_48 : decode cX6_findSums 48 = .ok (.aload_n 0, 1) := by decide +kernel
theorem dX6_findSums_49 : decode cX6_findSums 49 = .ok (.getfield 9, 3) := by decide +kernel
theorem dX6_findSums_52 : decode cX6_findSums 52 = .ok (.iload_n 3, 1) := by decide +kernel
theorem dX6_findSums_53 : decode cX6_findSums 53 = .ok (.iaload, 1) := by decide +kernel
theorem dX6_findSums_54 : decode cX6_findSums 54 = .ok (.iconst (-1), 1) := by decide +kernel
theorem dX6_findSums_55 : decode cX6_findSums 55 = .ok (.if_icmp .ne 6, 3) := by decide +kernel
theorem dX6_findSums_58 : decode cX6_findSums 58 = .ok (.goto 35, 3) := by decide +kernel
theorem dX6_findSums_61 : decode cX6_findSums 61 = .ok (.aload_n 0, 1) := by decide +kernel
theorem dX6_findSums_62 : decode cX6_findSums 62 = .ok (.getfield 21, 3) := by decide +kernel
theorem dX6_findSums_65 : decode cX6_findSums 65 = .ok (.iload_n 2, 1) := by decide +kernel
theorem dX6_findSums_66 : decode cX6_findSums 66 = .ok (.aaload, 1) := by decide +kernel
theorem dX6_findSums_67 : decode cX6_findSums 67 = .ok (.iload_n 3, 1) := by decide +kernel
theorem dX6_findSums_68 : decode cX6_findSums 68 = .ok (.aload_n 0, 1) := by decide +kernel
theorem dX6_findSums_69 : decode cX6_findSums 69 = .ok (.getfield 9, 3) := by decide +kernel
theorem dX6_findSums_72 : decode cX6_findSums 72 = .ok (.iload_n 3, 1) := by decide +kernel
theorem dX6_findSums_73 : decode cX6_findSums 73 = .ok (.iaload, 1) := by decide +kernel
theorem dX6_findSums_74 : decode cX6_findSums 74 = .ok (.aload_n 0, 1) := by decide +kernel
theorem dX6_findSums_75 : decode cX6_findSums 75 = .ok (.getfield 21, 3) := by decide +kernel
theorem dX6_findSums_78 : decode cX6_findSums 78 = .ok (.iload_n 2, 1) := by decide +kernel
theorem dX6_findSums_79 : decode cX6_findSums 79 = .ok (.iconst 1, 1) := by decide +kernel
theorem dX6_findSums_80 : decode cX6_findSums 80 = .ok (.iadd, 1) := by decide +kernel
theorem dX6_findSums_81 : decode cX6_findSums 81 = .ok (.aaload, 1) := by decide +kernel
theorem dX6_findSums_82 : decode cX6_findSums 82 = .ok (.iload_n 3, 1) := by decide +kernel
theorem dX6_findSums_83 : decode cX6_findSums 83 = .ok (.aload_n 0, 1) := by decide +kernel
theorem dX6_findSums_84 : decode cX6_findSums 84 = .ok (.iload_n 2, 1) := by decide +kernel
theorem dX6_findSums_85 : decode cX6_findSums 85 = .ok (.iload_n 3, 1) := by decide +kernel
theorem dX6_findSums_86 : decode cX6_findSums 86 = .ok (.invokevirtual 66, 3) := by decide +kernel
theorem dX6_findSums_89 : decode cX6_findSums 89 = .ok (.ior, 1) := by decide +kernel
theorem dX6_findSums_90 : decode cX6_findSums 90 = .ok (.iaload, 1) := by decide +kernel
theorem dX6_findSums_91 : decode cX6_findSums 91 = .ok (.iadd, 1) := by decide +kernel
theorem dX6_findSums_92 : decode cX6_findSums 92 = .ok (.iastore, 1) := by decide +kernel
theorem dX6_findSums_93 : decode cX6_findSums 93 = .ok (.iinc 3 1, 3) := by decide +kernel
theorem dX6_findSums_96 : decode cX6_findSums 96 = .ok (.goto (-68), 3) := by decide +kernel
theorem dX6_findSums_99 : decode cX6_findSums 99 = .ok (.iinc 2 (-1), 3) := by decide +kernel
theorem dX6_findSums_102 : decode cX6_findSums 102 = .ok (.goto (-80), 3) := by decide +kernel
theorem dX6_findSums_105 : decode cX6_findSums 105 = .ok (.return_, 1) := by decide +kernel
theorem dX6_leastSum_0 : decode cX6_leastSum 0 = .ok (.aload_n 0, 1) := by decide +kernel
theorem dX6_leastSum_1 : decode cX6_leastSum 1 = .ok (.getfield 21, 3) := by decide +kernel
theorem dX6_leastSum_4 : decode cX6_leastSum 4 = .ok (.iconst 0, 1) := by decide +kernel
theorem dX6_leastSum_5 : decode cX6_leastSum 5 = .ok (.aaload, 1) := by decide +kernel
theorem dX6_leastSum_6 : decode cX6_leastSum 6 = .ok (.iconst 0, 1) := by decide +kernel
theorem dX6_leastSum_7 : decode cX6_leastSum 7 = .ok (.iaload, 1) := by decide +kernel
theorem dX6_leastSum_8 : decode cX6_leastSum 8 = .ok (.ireturn, 1) := by decide +kernel
theorem dX6_fixWeeks_0 : decode cX6_fixWeeks 0 = .ok (.aload_n 0, 1) := by decide +kernel
theorem dX6_fixWeeks_1 : decode cX6_fixWeeks 1 = .ok (.iconst 0, 1) := by decide +kernel
theorem dX6_fixWeeks_2 : decode cX6_fixWeeks 2 = .ok (.putfield 70, 3) := by decide +kernel
theorem dX6_fixWeeks_5 : decode cX6_fixWeeks 5 = .ok (.iconst 0, 1) := by decide +kernel
theorem dX6_fixWeeks_6 : decode cX6_fixWeeks 6 = .ok (.istore_n 2, 1) := by decide +kernel
theorem dX6_fixWeeks_7 : decode cX6_fixWeeks 7 = .ok (.iconst 0, 1) := by decide +kernel
theorem dX6_fixWeeks_8 : decode cX6_fixWeeks 8 = .ok (.istore_n 3, 1) := by decide +kernel
theorem dX6_fixWeeks_9 : decode cX6_fixWeeks 9 = .ok (.iload_n 3, 1) := by decide +kernel
theorem dX6_fixWeeks_10 : decode cX6_fixWeeks 10 = .ok (.iload_n 1, 1) := by decide +kernel
theorem dX6_fixWeeks_11 : decode cX6_fixWeeks 11 = .ok (.if_icmp .ge 55, 3) := by decide +kernel
theorem dX6_fixWeeks_14 : decode cX6_fixWeeks 14 = .ok (.aload_n 0, 1) := by decide +kernel
theorem dX6_fixWeeks_15 : decode cX6_fixWeeks 15 = .ok (.iload_n 3, 1) := by decide +kernel
theorem dX6_fixWeeks_16 : decode cX6_fixWeeks 16 = .ok (.iload_n 2, 1) := by decide +kernel
theorem dX6_fixWeeks_17 : decode cX6_fixWeeks 17 = .ok (.invokevirtual 66, 3) := by decide +kernel
theorem dX6_fixWeeks_20 : decode cX6_fixWeeks 20 = .ok (.istore 4, 2) := by decide +kernel
theorem dX6_fixWeeks_22 : decode cX6_fixWeeks 22 = .ok (.iload_n 2, 1) := by decide +kernel
theorem dX6_fixWeeks_23 : decode cX6_fixWeeks 23 = .ok (.iload 4, 2) := by decide +kernel
theorem dX6_fixWeeks_25 : decode cX6_fixWeeks 25 = .ok (.ior, 1) := by decide +kernel
theorem dX6_fixWeeks_26 : decode cX6_fixWeeks 26 = .ok (.istore_n 2, 1) := by decide +kernel
theorem dX6_fixWeeks_27 : decode cX6_fixWeeks 27 = .ok (.iconst 0, 1) := by decide +kernel
theorem dX6_fixWeeks_28 : decode cX6_fixWeeks 28 = .ok (.istore 5, 2) := by decide +kernel
theorem dX6_fixWeeks_30 : decode cX6_fixWeeks 30 = .ok (.iload 5, 2) := by decide +kernel
theorem dX6_fixWeeks_32 : decode cX6_fixWeeks 32 = .ok (.bipush 8, 2) := by decide +kernel
theorem dX6_fixWeeks_34 : decode cX6_fixWeeks 34 = .ok (.if_icmp .ge 26, 3) := by decide +kernel
theorem dX6_fixWeeks_37 : decode cX6_fixWeeks 37 = .ok (.iload 4, 2) := by decide +kernel
theorem dX6_fixWeeks_39 : decode cX6_fixWeeks 39 = .ok (.iload 5, 2) := by decide +kernel
theorem dX6_fixWeeks_41 : decode cX6_fixWeeks 41 = .ok (.invokestatic 74, 3) := by decide +kernel
theorem dX6_fixWeeks_44 : decode cX6_fixWeeks 44 = .ok (.ifCond .eq 10, 3) := by decide +kernel
theorem dX6_fixWeeks_47 : decode cX6_fixWeeks 47 = .ok (.aload_n 0, 1) := by decide +kernel
theorem dX6_fixWeeks_48 : decode cX6_fixWeeks 48 = .ok (.iload 5, 2) := by decide +kernel
theorem dX6_fixWeeks_50 : decode cX6_fixWeeks 50 = .ok (.iload_n 3, 1) := by decide +kernel
theorem dX6_fixWeeks_51 : decode cX6_fixWeeks 51 = .ok (.invokevirtual 78, 3) := by decide +kernel
theorem dX6_fixWeeks_54 : decode cX6_fixWeeks 54 = .ok (.iinc 5 1, 3) := by decide +kernel
theorem dX6_fixWeeks_57 : decode cX6_fixWeeks 57 = .ok (.goto (-27), 3) := by decide +kernel
theorem dX6_fixWeeks_60 : decode cX6_fixWeeks 60 = .ok (.iinc 3 1, 3) := by decide +kernel
theorem dX6_fixWeeks_63 : decode cX6_fixWeeks 63 = .ok (.goto (-54), 3) := by decide +kernel
theorem dX6_fixWeeks_66 : decode cX6_fixWeeks 66 = .ok (.iconst 0, 1) := by decide +kernel
theorem dX6_fixWeeks_67 : decode cX6_fixWeeks 67 = .ok (.istore_n 3, 1) := by decide +kernel
theorem dX6_fixWeeks_68 : decode cX6_fixWeeks 68 = .ok (.iload_n 3, 1) := by decide +kernel
theorem dX6_fixWeeks_69 : decode cX6_fixWeeks 69 = .ok (.bipush 8, 2) := by decide +kernel
theorem dX6_fixWeeks_71 : decode cX6_fixWeeks 71 = .ok (.if_icmp .ge 24, 3) := by decide +kernel
theorem dX6_fixWeeks_74 : decode cX6_fixWeeks 74 = .ok (.iload_n 2, 1) := by decide +kernel
theorem dX6_fixWeeks_75 : decode cX6_fixWeeks 75 = .ok (.iload_n 3, 1) := by decide +kernel
theorem dX6_fixWeeks_76 : decode cX6_fixWeeks 76 = .ok (.invokestatic 74, 3) := by decide +kernel
theorem dX6_fixWeeks_79 : decode cX6_fixWeeks 79 = .ok (.ifCond .ne 10, 3) := by decide +kernel
theorem dX6_fixWeeks_82 : decode cX6_fixWeeks 82 = .ok (.aload_n 0, 1) := by decide +kernel
theorem dX6_fixWeeks_83 : decode cX6_fixWeeks 83 = .ok (.iload_n 3, 1) := by decide +kernel
theorem dX6_fixWeeks_84 : decode cX6_fixWeeks 84 = .ok (.bipush (-4), 2) := by decide +kernel
theorem dX6_fixWeeks_86 : decode cX6_fixWeeks 86 = .ok (.invokevirtual 78, 3) := by decide +kernel
theorem dX6_fixWeeks_89 : decode cX6_fixWeeks 89 = .ok (.iinc 3 1, 3) := by decide +kernel
theorem dX6_fixWeeks_92 : decode cX6_fixWeeks 92 = .ok (.goto (-24), 3) := by decide +kernel
theorem dX6_fixWeeks_95 : decode cX6_fixWeeks 95 = .ok (.aload_n 0, 1) := by decide +kernel
theorem dX6_fixWeeks_96 : decode cX6_fixWeeks 96 = .ok (.dup, 1) := by decide +kernel
theorem dX6_fixWeeks_97 : decode cX6_fixWeeks 97 = .ok (.getfield 82, 3) := by decide +kernel
theorem dX6_fixWeeks_100 : decode cX6_fixWeeks 100 = .ok (.iconst 1, 1) := by decide +kernel
theorem dX6_fixWeeks_101 : decode cX6_fixWeeks 101 = .ok (.iadd, 1) := by decide +kernel
theorem dX6_fixWeeks_102 : decode cX6_fixWeeks 102 = .ok (.putfield 82, 3) := by decide +kernel
theorem dX6_fixWeeks_105 : decode cX6_fixWeeks 105 = .ok (.return_, 1) := by decide +kernel
theorem dX6_putInWeek_0 : decode cX6_putInWeek 0 = .ok (.aload_n 0, 1) := by decide +kernel
theorem dX6_putInWeek_1 : decode cX6_putInWeek 1 = .ok (.getfield 30, 3) := by decide +kernel
theorem dX6_putInWeek_4 : decode cX6_putInWeek 4 = .ok (.iload_n 1, 1) := by decide +kernel
theorem dX6_putInWeek_5 : decode cX6_putInWeek 5 = .ok (.iaload, 1) := by decide +kernel
theorem dX6_putInWeek_6 : decode cX6_putInWeek 6 = .ok (.iload_n 2, 1) := by decide +kernel
theorem dX6_putInWeek_7 : decode cX6_putInWeek 7 = .ok (.if_icmp .eq 16, 3) := by decide +kernel
theorem dX6_putInWeek_10 : decode cX6_putInWeek 10 = .ok (.aload_n 0, 1) := by decide +kernel
theorem dX6_putInWeek_11 : decode cX6_putInWeek 11 = .ok (.dup, 1) := by decide +kernel
theorem dX6_putInWeek_12 : decode cX6_putInWeek 12 = .ok (.getfield 70, 3) := by decide +kernel
theorem dX6_putInWeek_15 : decode cX6_putInWeek 15 = .ok (.iload_n 1, 1) := by decide +kernel
theorem dX6_putInWeek_16 : decode cX6_putInWeek 16 = .ok (.invokestatic 85, 3) := by decide +kernel
theorem dX6_putInWeek_19 : decode cX6_putInWeek 19 = .ok (.ior, 1) := by decide +kernel
theorem dX6_putInWeek_20 : decode cX6_putInWeek 20 = .ok (.putfield 70, 3) := by decide +kernel
theorem dX6_putInWeek_23 : decode cX6_putInWeek 23 = .ok (.aload_n 0, 1) := by decide +kernel
theorem dX6_putInWeek_24 : decode cX6_putInWeek 24 = .ok (.getfield 30, 3) := by decide +kernel
theorem dX6_putInWeek_27 : decode cX6_putInWeek 27 = .ok (.iload_n 1, 1) := by decide +kernel
theorem dX6_putInWeek_28 : decode cX6_putInWeek 28 = .ok (.iload_n 2, 1) := by decide +kernel
theorem dX6_putInWeek_29 : decode cX6_putInWeek 29 = .ok (.iastore, 1) := by decide +kernel
theorem dX6_putInWeek_30 : decode cX6_putInWeek 30 = .ok (.return_, 1) := by decide +kernel
theorem dX6_bestSet_0 : decode cX6_bestSet 0 = .ok (.aload_n 0, 1) := by decide +kernel
theorem dX6_bestSet_1 : decode cX6_bestSet 1 = .ok (.getfield 24, 3) := by decide +kernel
theorem dX6_bestSet_4 : decode cX6_bestSet 4 = .ok (.iload_n 1, 1) := by decide +kernel
theorem dX6_bestSet_5 : decode cX6_bestSet 5 = .ok (.iaload, 1) := by decide +kernel
theorem dX6_bestSet_6 : decode cX6_bestSet 6 = .ok (.iload_n 2, 1) := by decide +kernel
theorem dX6_bestSet_7 : decode cX6_bestSet 7 = .ok (.iconst (-1), 1) := by decide +kernel
theorem dX6_bestSet_8 : decode cX6_bestSet 8 = .ok (.ixor, 1) := by decide +kernel
theorem dX6_bestSet_9 : decode cX6_bestSet 9 = .ok (.iand, 1) := by decide +kernel
theorem dX6_bestSet_10 : decode cX6_bestSet 10 = .ok (.istore_n 3, 1) := by decide +kernel
theorem dX6_bestSet_11 : decode cX6_bestSet 11 = .ok (.aload_n 0, 1) := by decide +kernel
theorem dX6_bestSet_12 : decode cX6_bestSet 12 = .ok (.getfield 21, 3) := by decide +kernel
theorem dX6_bestSet_15 : decode cX6_bestSet 15 = .ok (.iload_n 1, 1) := by decide +kernel
theorem dX6_bestSet_16 : decode cX6_bestSet 16 = .ok (.iconst 1, 1) := by decide +kernel
theorem dX6_bestSet_17 : decode cX6_bestSet 17 = .ok (.iadd, 1) := by decide +kernel
theorem dX6_bestSet_18 : decode cX6_bestSet 18 = .ok (.aaload, 1) := by decide +kernel
theorem dX6_bestSet_19 : decode cX6_bestSet 19 = .ok (.astore 4, 2) := by decide +kernel
theorem dX6_bestSet_21 : decode cX6_bestSet 21 = .ok (.iconst 0, 1) := by decide +kernel
theorem dX6_bestSet_22 : decode cX6_bestSet 22 = .ok (.istore 5, 2) := by decide +kernel
theorem dX6_bestSet_24 : decode cX6_bestSet 24 = .ok (.iconst 0, 1) := by decide +kernel
theorem dX6_bestSet_25 : decode cX6_bestSet 25 = .ok (.istore 6, 2) := by decide +kernel
theorem dX6_bestSet_27 : decode cX6_bestSet 27 = .ok (.iconst 0, 1) := by decide +kernel
theorem dX6_bestSet_28 : decode cX6_bestSet 28 = .ok (.istore 7, 2) := by decide +kernel
theorem dX6_bestSet_30 : decode cX6_bestSet 30 = .ok (.iload 7, 2) := by decide +kernel
theorem dX6_bestSet_32 : decode cX6_bestSet 32 = .ok (.sipush 256, 3) := by decide +kernel
theorem dX6_bestSet_35 : decode cX6_bestSet 35 = .ok (.if_icmp .ge 71, 3) := by decide +kernel
theorem dX6_bestSet_38 : decode cX6_bestSet 38 = .ok (.iload_n 2, 1) := by decide +kernel
theorem dX6_bestSet_39 : decode cX6_bestSet 39 = .ok (.iload 6, 2) := by decide +kernel
theorem dX6_bestSet_41 : decode cX6_bestSet 41 = .ok (.ior, 1) := by decide +kernel
theorem dX6_bestSet_42 : decode cX6_bestSet 42 = .ok (.istore 8, 2) := by decide +kernel
theorem dX6_bestSet_44 : decode cX6_bestSet 44 = .ok (.aload_n 0, 1) := by decide +kernel
theorem dX6_bestSet_45 : decode cX6_bestSet 45 = .ok (.getfield 15, 3) := by decide +kernel
theorem dX6_bestSet_48 : decode cX6_bestSet 48 = .ok (.iload 6, 2) := by decide +kernel
theorem dX6_bestSet_50 : decode cX6_bestSet 50 = .ok (.baload, 1) := by decide +kernel
theorem dX6_bestSet_51 : decode cX6_bestSet 51 = .ok (.ifCond .eq 33, 3) := by decide +kernel
theorem dX6_bestSet_54 : decode cX6_bestSet 54 = .ok (.aload_n 0, 1) := by decide +kernel
theorem dX6_bestSet_55 : decode cX6_bestSet 55 = .ok (.getfield 9, 3) := by decide +kernel
theorem dX6_bestSet_58 : decode cX6_bestSet 58 = .ok (.iload 8, 2) := by decide +kernel
theorem dX6_bestSet_60 : decode cX6_bestSet 60 = .ok (.iaload, 1) := by decide +kernel
theorem dX6_bestSet_61 : decode cX6_bestSet 61 = .ok (.iconst (-1), 1) := by decide +kernel
theorem dX6_bestSet_62 : decode cX6_bestSet 62 = .ok (.if_icmp .eq 22, 3) := by decide +kernel
theorem dX6_bestSet_65 : decode cX6_bestSet 65 = .ok (.aload 4, 2) := by decide +kernel
theorem dX6_bestSet_67 : decode cX6_bestSet 67 = .ok (.iload 8, 2) := by decide +kernel
theorem dX6_bestSet_69 : decode cX6_bestSet 69 = .ok (.iaload, 1) := by decide +kernel
theorem dX6_bestSet_70 : decode cX6_bestSet 70 = .ok (.aload 4, 2) := by decide +kernel
theorem dX6_bestSet_72 : decode cX6_bestSet 72 = .ok (.iload_n 2, 1) := by decide +kernel
theorem dX6_bestSet_73 : decode cX6_bestSet 73 = .ok (.iload 5, 2) := by decide +kernel
theorem dX6_bestSet_75 : decode cX6_bestSet 75 = .ok (.ior, 1) := by decide +kernel
theorem dX6_bestSet_76 : decode cX6_bestSet 76 = .ok (.iaload, 1) := by decide +kernel
theorem dX6_bestSet_77 : decode cX6_bestSet 77 = .ok (.if_icmp .ge 7, 3) := by decide +kernel
theorem dX6_bestSet_80 : decode cX6_bestSet 80 = .ok (.iload 6, 2) := by decide +kernel
theorem dX6_bestSet_82 : decode cX6_bestSet 82 = .ok (.istore 5, 2) := by decide +kernel
theorem dX6_bestSet_84 : decode cX6_bestSet 84 = .ok (.iload 6, 2) := by decide +kernel
theorem dX6_bestSet_86 : decode cX6_bestSet 86 = .ok (.iload_n 3, 1) := by decide +kernel
theorem dX6_bestSet_87 : decode cX6_bestSet 87 = .ok (.isub, 1) := by decide +kernel
theorem dX6_bestSet_88 : decode cX6_bestSet 88 = .ok (.iload_n 3, 1) := by decide +kernel
theorem dX6_bestSet_89 : decode cX6_bestSet 89 = .ok (.iand, 1) := by decide +kernel
theorem dX6_bestSet_90 : decode cX6_bestSet 90 = .ok (.istore 6, 2) := by decide +kernel
theorem dX6_bestSet_92 : decode cX6_bestSet 92 = .ok (.iload 6, 2) := by decide +kernel
theorem dX6_bestSet_94 : decode cX6_bestSet 94 = .ok (.ifCond .ne 6, 3) := by decide +kernel
theorem dX6_bestSet_97 : decode cX6_bestSet 97 = .ok (.goto 9, 3) := by decide +kernel
theorem dX6_bestSet_100 : decode cX6_bestSet 100 = .ok (.iinc 7 1, 3) := by decide +kernel
theorem dX6_bestSet_103 : decode cX6_bestSet 103 = .ok (.goto (-73), 3) := by decide +kernel
theorem dX6_bestSet_106 : decode cX6_bestSet 106 = .ok (.iload 5, 2) := by decide +kernel
theorem dX6_bestSet_108 : decode cX6_bestSet 108 = .ok (.ireturn, 1) := by decide +kernel
theorem dX6_findAllowed_0 : decode cX6_findAllowed 0 = .ok (.aload_n 0, 1) := by decide +kernel
theorem dX6_findAllowed_1 : decode cX6_findAllowed 1 = .ok (.getfield 27, 3) := by decide +kernel
theorem dX6_findAllowed_4 : decode cX6_findAllowed 4 = .ok (.iconst 0, 1) := by decide +kernel
theorem dX6_findAllowed_5 : decode cX6_findAllowed 5 = .ok (.iconst 0, 1) := by decide +kernel
theorem dX6_findAllowed_6 : decode cX6_findAllowed 6 = .ok (.iastore, 1) := by decide +kernel
theorem dX6_findAllowed_7 : decode cX6_findAllowed 7 = .ok (.iconst 0, 1) := by decide +kernel
theorem dX6_findAllowed_8 : decode cX6_findAllowed 8 = .ok (.istore_n 2, 1) := by decide +kernel
theorem dX6_findAllowed_9 : decode cX6_findAllowed 9 = .ok (.iload_n 2, 1) := by decide +kernel
theorem dX6_findAllowed_10 : decode cX6_findAllowed 10 = .ok (.iload_n 1, 1) := by decide +kernel
theorem dX6_findAllowed_11 : decode cX6_findAllowed 11 = .ok (.if_icmp .ge 101, 3) := by decide +kernel
theorem dX6_findAllowed_14 : decode cX6_findAllowed 14 = .ok (.aload_n 0, 1) := by decide +kernel
theorem dX6_findAllowed_15 : decode cX6_findAllowed 15 = .ok (.getfield 24, 3) := by decide +kernel
theorem dX6_findAllowed_18 : decode cX6_findAllowed 18 = .ok (.iload_n 2, 1) := by decide +kernel
theorem dX6_findAllowed_19 : decode cX6_findAllowed 19 = .ok (.iconst 0, 1) := by decide +kernel
theorem dX6_findAllowed_20 : decode cX6_findAllowed 20 = .ok (.iastore, 1) := by decide +kernel
theorem dX6_findAllowed_21 : decode cX6_findAllowed 21 = .ok (.iconst 0, 1) := by decide +kernel
theorem dX6_findAllowed_22 : decode cX6_findAllowed 22 = .ok (.istore_n 3, 1) := by decide +kernel
theorem dX6_findAllowed_23 : decode cX6_findAllowed 23 = .ok (.iload_n 3, 1) := by decide +kernel
theorem dX6_findAllowed_24 : decode cX6_findAllowed 24 = .ok (.aload_n 0, 1) := by decide +kernel
theorem dX6_findAllowed_25 : decode cX6_findAllowed 25 = .ok (.getfield 33, 3) := by decide +kernel
theorem dX6_findAllowed_28 : decode cX6_findAllowed 28 = .ok (.getfield 88, 3) := by decide +kernel
theorem dX6_findAllowed_31 : decode cX6_findAllowed 31 = .ok (.if_icmp .ge 54, 3) := by decide +kernel
theorem dX6_findAllowed_34 : decode cX6_findAllowed 34 = .ok (.aload_n 0, 1) := by decide +kernel
theorem dX6_findAllowed_35 : decode cX6_findAllowed 35 = .ok (.getfield 33, 3) := by decide +kernel
theorem dX6_findAllowed_38 : decode cX6_findAllowed 38 = .ok (.iload_n 3, 1) := by decide +kernel
theorem dX6_findAllowed_39 : decode cX6_findAllowed 39 = .ok (.invokevirtual 91, 3) := by decide +kernel
theorem dX6_findAllowed_42 : decode cX6_findAllowed 42 = .ok (.astore 4, 2) := by decide +kernel
theorem dX6_findAllowed_44 : decode cX6_findAllowed 44 = .ok (.aload 4, 2) := by decide +kernel
theorem dX6_findAllowed_46 : decode cX6_findAllowed 46 = .ok (.ifnull 33, 3) := by decide +kernel
theorem dX6_findAllowed_49 : decode cX6_findAllowed 49 = .ok (.iload_n 2, 1) := by decide +kernel
theorem dX6_findAllowed_50 : decode cX6_findAllowed 50 = .ok (.aload 4, 2) := by decide +kernel
theorem dX6_findAllowed_52 : decode cX6_findAllowed 52 = .ok (.getfield 95, 3) := by decide +kernel
theorem dX6_findAllowed_55 : decode cX6_findAllowed 55 = .ok (.aload 4, 2) := by decide +kernel
theorem dX6_findAllowed_57 : decode cX6_findAllowed 57 = .ok (.getfield 100, 3) := by decide +kernel
theorem dX6_findAllowed_60 : decode cX6_findAllowed 60 = .ok (.invokestatic 103, 3) := by decide +kernel
theorem dX6_findAllowed_63 : decode cX6_findAllowed 63 = .ok (.ifCond .eq 16, 3) := by decide +kernel
theorem dX6_findAllowed_66 : decode cX6_findAllowed 66 = .ok (.aload_n 0, 1) := by decide +kernel
theorem dX6_findAllowed_67 : decode cX6_findAllowed 67 = .ok (.getfield 24, 3) := by decide +kernel
theorem dX6_findAllowed_70 : decode cX6_findAllowed 70 = .ok (.iload_n 2, 1) := by decide +kernel
theorem dX6_findAllowed_71 : decode cX6_findAllowed 71 = .ok (.dup2, 1) := by decide +kernel
theorem dX6_findAllowed_72 : decode cX6_findAllowed 72 = .ok (.iaload, 1) := by decide +kernel
theorem dX6_findAllowed_73 : decode cX6_findAllowed 73 = .ok (.iload_n 3, 1) := by decide +kernel
theorem dX6_findAllowed_74 : decode cX6_findAllowed 74 = .ok (.invokestatic 85, 3) := by decide +kernel
theorem dX6_findAllowed_77 : decode cX6_findAllowed 77 = .ok (.ior, 1) := by decide +kernel
theorem dX6_findAllowed_78 : decode cX6_findAllowed 78 = .ok (.iastore, 1) := by decide +kernel
theorem dX6_findAllowed_79 : decode cX6_findAllowed 79 = .ok (.iinc 3 1, 3) := by decide +kernel
theorem dX6_findAllowed_82 : decode cX6_findAllowed 82 = .ok (.goto (-59), 3) := by decide +kernel
theorem dX6_findAllowed_85 : decode cX6_findAllowed 85 = .ok (.aload_n 0, 1) := by decide +kernel
theorem dX6_findAllowed_86 : decode cX6_findAllowed 86 = .ok (.getfield 27, 3) := by decide +kernel
theorem dX6_findAllowed_89 : decode cX6_findAllowed 89 = .ok (.iload_n 2, 1) := by decide +kernel
theorem dX6_findAllowed_90 : decode cX6_findAllowed 90 = .ok (.iconst 1, 1) := by decide +kernel
theorem dX6_findAllowed_91 : decode cX6_findAllowed 91 = .ok (.iadd, 1) := by decide +kernel
theorem dX6_findAllowed_92 : decode cX6_findAllowed 92 = .ok (.aload_n 0, 1) := by decide +kernel
theorem dX6_findAllowed_93 : decode cX6_findAllowed 93 = .ok (.getfield 27, 3) := by decide +kernel
theorem dX6_findAllowed_96 : decode cX6_findAllowed 96 = .ok (.iload_n 2, 1) := by decide +kernel
theorem dX6_findAllowed_97 : decode cX6_findAllowed 97 = .ok (.iaload, 1) := by decide +kernel
theorem dX6_findAllowed_98 : decode cX6_findAllowed 98 = .ok (.aload_n 0, 1) := by decide +kernel
theorem dX6_findAllowed_99 : decode cX6_findAllowed 99 = .ok (.getfield 24, 3) := by decide +kernel
theorem dX6_findAllowed_102 : decode cX6_findAllowed 102 = .ok (.iload_n 2, 1) := by decide +kernel
theorem dX6_findAllowed_103 : decode cX6_findAllowed 103 = .ok (.iaload, 1) := by decide +kernel
theorem dX6_findAllowed_104 : decode cX6_findAllowed 104 = .ok (.ior, 1) := by decide +kernel
theorem dX6_findAllowed_105 : decode cX6_findAllowed 105 = .ok (.iastore, 1) := by decide +kernel
theorem dX6_findAllowed_106 : decode cX6_findAllowed 106 = .ok (.iinc 2 1, 3) := by decide +kernel
theorem dX6_findAllowed_109 : decode cX6_findAllowed 109 = .ok (.goto (-100), 3) := by decide +kernel
theorem dX6_findAllowed_112 : decode cX6_findAllowed 112 = .ok (.return_, 1) := by decide +kernel
theorem dX6_handsOf_0 : decode cX6_handsOf 0 = .ok (.iconst 0, 1) := by decide +kernel
theorem dX6_handsOf_1 : decode cX6_handsOf 1 = .ok (.istore_n 2, 1) := by decide +kernel
theorem dX6_handsOf_2 : decode cX6_handsOf 2 = .ok (.iconst 0, 1) := by decide +kernel
theorem dX6_handsOf_3 : decode cX6_handsOf 3 = .ok (.istore_n 3, 1) := by decide +kernel
theorem dX6_handsOf_4 : decode cX6_handsOf 4 = .ok (.iload_n 3, 1) := by decide +kernel
theorem dX6_handsOf_5 : decode cX6_handsOf 5 = .ok (.aload_n 0, 1) := by decide +kernel
theorem dX6_handsOf_6 : decode cX6_handsOf 6 = .ok (.getfield 33, 3) := by decide +kernel
theorem dX6_handsOf_9 : decode cX6_handsOf 9 = .ok (.getfield 88, 3) := by decide +kernel
theorem dX6_handsOf_12 : decode cX6_handsOf 12 = .ok (.if_icmp .ge 40, 3) := by decide +kernel
theorem dX6_handsOf_15 : decode cX6_handsOf 15 = .ok (.aload_n 0, 1) := by decide +kernel
theorem dX6_handsOf_16 : decode cX6_handsOf 16 = .ok (.getfield 33, 3) := by decide +kernel
theorem dX6_handsOf_19 : decode cX6_handsOf 19 = .ok (.iload_n 3, 1) := by decide +kernel
theorem dX6_handsOf_20 : decode cX6_handsOf 20 = .ok (.invokevirtual 91, 3) := by decide +kernel
theorem dX6_handsOf_23 : decode cX6_handsOf 23 = .ok (.astore 4, 2) := by decide +kernel
theorem dX6_handsOf_25 : decode cX6_handsOf 25 = .ok (.aload 4, 2) := by decide +kernel
theorem dX6_handsOf_27 : decode cX6_handsOf 27 = .ok (.ifnull 19, 3) := by decide +kernel
theorem dX6_handsOf_30 : decode cX6_handsOf 30 = .ok (.iload_n 1, 1) := by decide +kernel
theorem dX6_handsOf_31 : decode cX6_handsOf 31 = .ok (.iload_n 3, 1) := by decide +kernel
theorem dX6_handsOf_32 : decode cX6_handsOf 32 = .ok (.invokestatic 74, 3) := by decide +kernel
theorem dX6_handsOf_35 : decode cX6_handsOf 35 = .ok (.ifCond .eq 11, 3) := by decide +kernel
theorem dX6_handsOf_38 : decode cX6_handsOf 38 = .ok (.iload_n 2, 1) := by decide +kernel
theorem dX6_handsOf_39 : decode cX6_handsOf 39 = .ok (.aload 4, 2) := by decide +kernel
theorem dX6_handsOf_41 : decode cX6_handsOf 41 = .ok (.getfield 107, 3) := by decide +kernel
theorem dX6_handsOf_44 : decode cX6_handsOf 44 = .ok (.iadd, 1) := by decide +kernel
theorem dX6_handsOf_45 : decode cX6_handsOf 45 = .ok (.istore_n 2, 1) := by decide +kernel
theorem dX6_handsOf_46 : decode cX6_handsOf 46 = .ok (.iinc 3 1, 3) := by decide +kernel
theorem dX6_handsOf_49 : decode cX6_handsOf 49 = .ok (.goto (-45), 3) := by decide +kernel
theorem dX6_handsOf_52 : decode cX6_handsOf 52 = .ok (.iload_n 2, 1) := by decide +kernel
theorem dX6_handsOf_53 : decode cX6_handsOf 53 = .ok (.ireturn, 1) := by decide +kernel
theorem dX7_init_0 : decode cX7_init 0 = .ok (.aload_n 0, 1) := by decide +kernel
theorem dX7_init_1 : decode cX7_init 1 = .ok (.invokespecial 1, 3) := by decide +kernel
theorem dX7_init_4 : decode cX7_init 4 = .ok (.aload_n 0, 1) := by decide +kernel
theorem dX7_init_5 : decode cX7_init 5 = .ok (.iload_n 1, 1) := by decide +kernel
theorem dX7_init_6 : decode cX7_init 6 = .ok (.putfield 7, 3) := by decide +kernel
theorem dX7_init_9 : decode cX7_init 9 = .ok (.aload_n 0, 1) := by decide +kernel
theorem dX7_init_10 : decode cX7_init 10 = .ok (.iload_n 2, 1) := by decide +kernel
theorem dX7_init_11 : decode cX7_init 11 = .ok (.putfield 13, 3) := by decide +kernel
theorem dX7_init_14 : decode cX7_init 14 = .ok (.aload_n 0, 1) := by decide +kernel
theorem dX7_init_15 : decode cX7_init 15 = .ok (.iload_n 3, 1) := by decide +kernel
theorem dX7_init_16 : decode cX7_init 16 = .ok (.putfield 16, 3) := by decide +kernel
theorem dX7_init_19 : decode cX7_init 19 = .ok (.aload_n 0, 1) := by decide +kernel
theorem dX7_init_20 : decode cX7_init 20 = .ok (.iload 4, 2) := by decide +kernel
theorem dX7_init_22 : decode cX7_init 22 = .ok (.putfield 19, 3) := by decide +kernel
theorem dX7_init_25 : decode cX7_init 25 = .ok (.return_, 1) := by decide +kernel
theorem dX7_holds_0 : decode cX7_holds 0 = .ok (.aload_n 1, 1) := by decide +kernel
theorem dX7_holds_1 : decode cX7_holds 1 = .ok (.aload_n 0, 1) := by decide +kernel
theorem dX7_holds_2 : decode cX7_holds 2 = .ok (.getfield 7, 3) := by decide +kernel
theorem dX7_holds_5 : decode cX7_holds 5 = .ok (.iaload, 1) := by decide +kernel
theorem dX7_holds_6 : decode cX7_holds 6 = .ok (.aload_n 0, 1) := by decide +kernel
theorem dX7_holds_7 : decode cX7_holds 7 = .ok (.getfield 13, 3) := by decide +kernel
theorem dX7_holds_10 : decode cX7_holds 10 = .ok (.if_icmp .ne 20, 3) := by decide +kernel
theorem dX7_holds_13 : decode cX7_holds 13 = .ok (.aload_n 1, 1) := by decide +kernel
theorem dX7_holds_14 : decode cX7_holds 14 = .ok (.aload_n 0, 1) := by decide +kernel
theorem dX7_holds_15 : decode cX7_holds 15 = .ok (.getfield 16, 3) := by decide +kernel
theorem dX7_holds_18 : decode cX7_holds 18 = .ok (.iaload, 1) := by decide +kernel
theorem dX7_holds_19 : decode cX7_holds 19 = .ok (.aload_n 0, 1) := by decide +kernel
theorem dX7_holds_20 : decode cX7_holds 20 = .ok (.getfield 19, 3) := by decide +kernel
theorem dX7_holds_23 : decode cX7_holds 23 = .ok (.if_icmp .ne 7, 3) := by decide +kernel
theorem dX7_holds_26 : decode cX7_holds 26 = .ok (.iconst 1, 1) := by decide +kernel
theorem dX7_holds_27 : decode cX7_holds 27 = .ok (.goto 4, 3) := by decide +kernel
theorem dX7_holds_30 : decode cX7_holds 30 = .ok (.iconst 0, 1) := by decide +kernel
theorem dX7_holds_31 : decode cX7_holds 31 = .ok (.ireturn, 1) := by decide +kernel
theorem dX8_init_0 : decode cX8_init 0 = .ok (.aload_n 0, 1) := by decide +kernel
theorem dX8_init_1 : decode cX8_init 1 = .ok (.iload_n 1, 1) := by decide +kernel
theorem dX8_init_2 : decode cX8_init 2 = .ok (.iload_n 2, 1) := by decide +kernel
theorem dX8_init_3 : decode cX8_init 3 = .ok (.iload_n 3, 1) := by decide +kernel
theorem dX8_init_4 : decode cX8_init 4 = .ok (.invokespecial 1, 3) := by decide +kernel
theorem dX8_init_7 : decode cX8_init 7 = .ok (.return_, 1) := by decide +kernel
theorem dX8_kind_0 : decode cX8_kind 0 = .ok (.iconst 2, 1) := by decide +kernel
theorem dX8_kind_1 : decode cX8_kind 1 = .ok (.ireturn, 1) := by decide +kernel
theorem dX8_stands_0 : decode cX8_stands 0 = .ok (.iload_n 2, 1) := by decide +kernel
theorem dX8_stands_1 : decode cX8_stands 1 = .ok (.ifCond .ne 15, 3) := by decide +kernel
theorem dX8_stands_4 : decode cX8_stands 4 = .ok (.aload_n 0, 1) := by decide +kernel
theorem dX8_stands_5 : decode cX8_stands 5 = .ok (.iload_n 1, 1) := by decide +kernel
theorem dX8_stands_6 : decode cX8_stands 6 = .ok (.invokevirtual 7, 3) := by decide +kernel
theorem dX8_stands_9 : decode cX8_stands 9 = .ok (.ifCond .eq 7, 3) := by decide +kernel
theorem dX8_stands_12 : decode cX8_stands 12 = .ok (.iconst 1, 1) := by decide +kernel
theorem dX8_stands_13 : decode cX8_stands 13 = .ok (.goto 4, 3) := by decide +kernel
theorem dX8_stands_16 : decode cX8_stands 16 = .ok (.iconst 0, 1) := by decide +kernel
theorem dX8_stands_17 : decode cX8_stands 17 = .ok (.ireturn, 1) := by decide +kernel
theorem dX9_init_0 : decode cX9_init 0 = .ok (.aload_n 0, 1) := by decide +kernel
theorem dX9_init_1 : decode cX9_init 1 = .ok (.invokespecial 3, 3) := by decide +kernel
theorem dX9_init_4 : decode cX9_init 4 = .ok (.aload_n 0, 1) := by decide +kernel
theorem dX9_init_5 : decode cX9_init 5 = .ok (.bipush 8, 2) := by decide +kernel
theorem dX9_init_7 : decode cX9_init 7 = .ok (.newarray .int, 2) := by decide +kernel
theorem dX9_init_9 : decode cX9_init 9 = .ok (.putfield 9, 3) := by decide +kernel
theorem dX9_init_12 : decode cX9_init 12 = .ok (.aload_n 0, 1) := by decide +kernel
theorem dX9_init_13 : decode cX9_init 13 = .ok (.bipush 8, 2) := by decide +kernel
theorem dX9_init_15 : decode cX9_init 15 = .ok (.newarray .int, 2) := by decide +kernel
theorem dX9_init_17 : decode cX9_init 17 = .ok (.putfield 15, 3) := by decide +kernel
theorem dX9_init_20 : decode cX9_init 20 = .ok (.aload_n 0, 1) := by decide +kernel
theorem dX9_init_21 : decode cX9_init 21 = .ok (.bipush 8, 2) := by decide +kernel
theorem dX9_init_23 : decode cX9_init 23 = .ok (.newarray .int, 2) := by decide +kernel
theorem dX9_init_25 : decode cX9_init 25 = .ok (.putfield 18, 3) := by decide +kernel
theorem dX9_init_28 : decode cX9_init 28 = .ok (.aload_n 0, 1) := by decide +kernel
theorem dX9_init_29 : decode cX9_init 29 = .ok (.aload_n 1, 1) := by decide +kernel
theorem dX9_init_30 : decode cX9_init 30 = .ok (.putfield 21, 3) := by decide +kernel
theorem dX9_init_33 : decode cX9_init 33 = .ok (.return_, 1) := by decide +kernel
theorem dX9_run_0 : decode cX9_run 0 = .ok (.aload_n 0, 1) := by decide +kernel
theorem dX9_run_1 : decode cX9_run 1 = .ok (.aload_n 1, 1) := by decide +kernel
theorem dX9_run_2 : decode cX9_run 2 = .ok (.iload_n 2, 1) := by decide +kernel
theorem dX9_run_3 : decode cX9_run 3 = .ok (.invokevirtual 25, 3) := by decide +kernel
theorem dX9_run_6 : decode cX9_run 6 = .ok (.aload_n 0, 1) := by decide +kernel
theorem dX9_run_7 : decode cX9_run 7 = .ok (.iconst 0, 1) := by decide +kernel
theorem dX9_run_8 : decode cX9_run 8 = .ok (.putfield 29, 3) := by decide +kernel
theorem dX9_run_11 : decode cX9_run 11 = .ok (.iconst 1, 1) := by decide +kernel
theorem dX9_run_12 : decode cX9_run 12 = .ok (.istore_n 3, 1) := by decide +kernel
theorem dX9_run_13 : decode cX9_run 13 = .ok (.iload_n 3, 1) := by decide +kernel
theorem dX9_run_14 : decode cX9_run 14 = .ok (.bipush 8, 2) := by decide +kernel
theorem dX9_run_16 : decode cX9_run 16 = .ok (.if_icmp .gt 35, 3) := by decide +kernel
theorem dX9_run_19 : decode cX9_run 19 = .ok (.aload_n 0, 1) := by decide +kernel
theorem dX9_run_20 : decode cX9_run 20 = .ok (.iload_n 3, 1) := by decide +kernel
theorem dX9_run_21 : decode cX9_run 21 = .ok (.invokevirtual 33, 3) := by decide +kernel
theorem dX9_run_24 : decode cX9_run 24 = .ok (.istore 4, 2) := by decide +kernel
theorem dX9_run_26 : decode cX9_run 26 = .ok (.iload 4, 2) := by decide +kernel
theorem dX9_run_28 : decode cX9_run 28 = .ok (.ifCond .ne 6, 3) := by decide +kernel
theorem dX9_run_31 : decode cX9_run 31 = .ok (.goto 20, 3) := by decide +kernel
theorem dX9_run_34 : decode cX9_run 34 = .ok (.aload_n 0, 1) := by decide +kernel
theorem dX9_run_35 : decode cX9_run 35 = .ok (.dup, 1) := by decide +kernel
theorem dX9_run_36 : decode cX9_run 36 = .ok (.getfield 29, 3) := by decide +kernel
theorem dX9_run_39 : decode cX9_run 39 = .ok (.iload 4, 2) := by decide +kernel
theorem dX9_run_41 : decode cX9_run 41 = .ok (.ior, 1) := by decide +kernel
theorem dX9_run_42 : decode cX9_run 42 = .ok (.putfield 29, 3) := by decide +kernel
theorem dX9_run_45 : decode cX9_run 45 = .ok (.iinc 3 1, 3) := by decide +kernel
theorem dX9_run_48 : decode cX9_run 48 = .ok (.goto (-35), 3) := by decide +kernel
theorem dX9_run_51 : decode cX9_run 51 = .ok (.aload_n 0, 1) := by decide +kernel
theorem dX9_run_52 : decode cX9_run 52 = .ok (.invokevirtual 37, 3) := by decide +kernel
theorem dX9_run_55 : decode cX9_run 55 = .ok (.ireturn, 1) := by decide +kernel
theorem dX9_sumOfWorths_0 : decode cX9_sumOfWorths 0 = .ok (.iconst 0, 1) := by decide +kernel
theorem dX9_sumOfWorths_1 : decode cX9_sumOfWorths 1 = .ok (.istore_n 1, 1) := by decide +kernel
theorem dX9_sumOfWorths_2 : decode cX9_sumOfWorths 2 = .ok (.iconst 0, 1) := by decide +kernel
theorem dX9_sumOfWorths_3 : decode cX9_sumOfWorths 3 = .ok (.istore_n 2, 1) := by decide +kernel
theorem dX9_sumOfWorths_4 : decode cX9_sumOfWorths 4 = .ok (.iload_n 2, 1) := by decide +kernel
theorem dX9_sumOfWorths_5 : decode cX9_sumOfWorths 5 = .ok (.aload_n 0, 1) := by decide +kernel
theorem dX9_sumOfWorths_6 : decode cX9_sumOfWorths 6 = .ok (.getfield 21, 3) := by decide +kernel
theorem dX9_sumOfWorths_9 : decode cX9_sumOfWorths 9 = .ok (.getfield 41, 3) := by decide +kernel
theorem dX9_sumOfWorths_12 : decode cX9_sumOfWorths 12 = .ok (.if_icmp .ge 57, 3) := by decide +kernel
theorem dX9_sumOfWorths_15 : decode cX9_sumOfWorths 15 = .ok (.aload_n 0, 1) := by decide +kernel
theorem dX9_sumOfWorths_16 : decode cX9_sumOfWorths 16 = .ok (.getfield 29, 3) := by decide +kernel
theorem dX9_sumOfWorths_19 : decode cX9_sumOfWorths 19 = .ok (.iload_n 2, 1) := by decide +kernel
theorem dX9_sumOfWorths_20 : decode cX9_sumOfWorths 20 = .ok (.invokestatic 46, 3) := by decide +kernel
theorem dX9_sumOfWorths_23 : decode cX9_sumOfWorths 23 = .ok (.ifCond .eq 40, 3) := by decide +kernel
theorem dX9_sumOfWorths_26 : decode cX9_sumOfWorths 26 = .ok (.iload_n 1, 1) := by decide +kernel
theorem dX9_sumOfWorths_27 : decode cX9_sumOfWorths 27 = .ok (.aload_n 0, 1) := by decide +kernel
theorem dX9_sumOfWorths_28 : decode cX9_sumOfWorths 28 = .ok (.getfield 50, 3) := by decide +kernel
theorem dX9_sumOfWorths_31 : decode cX9_sumOfWorths 31 = .ok (.iload_n 2, 1) := by decide +kernel
theorem dX9_sumOfWorths_32 : decode cX9_sumOfWorths 32 = .ok (.invokestatic 46, 3) := by decide +kernel
theorem dX9_sumOfWorths_35 : decode cX9_sumOfWorths 35 = .ok (.ifCond .eq 17, 3) := by decide +kernel
theorem dX9_sumOfWorths_38 : decode cX9_sumOfWorths 38 = .ok (.iconst 2, 1) := by decide +kernel
theorem dX9_sumOfWorths_39 : decode cX9_sumOfWorths 39 = .ok (.aload_n 0, 1) := by decide +kernel
theorem dX9_sumOfWorths_40 : decode cX9_sumOfWorths 40 = .ok (.getfield 21, 3) := by decide +kernel
theorem dX9_sumOfWorths_43 : decode cX9_sumOfWorths 43 = .ok (.getfield 53, 3) := by decide +kernel
theorem dX9_sumOfWorths_46 : decode cX9_sumOfWorths 46 = .ok (.iload_n 2, 1) := by decide +kernel
theorem dX9_sumOfWorths_47 : decode cX9_sumOfWorths 47 = .ok (.iaload, 1) := by decide +kernel
theorem dX9_sumOfWorths_48 : decode cX9_sumOfWorths 48 = .ok (.imul, 1) := by decide +kernel
theorem dX9_sumOfWorths_49 : decode cX9_sumOfWorths 49 = .ok (.goto 12, 3) := by decide +kernel
theorem dX9_sumOfWorths_52 : decode cX9_sumOfWorths 52 = .ok (.aload_n 0, 1) := by decide +kernel
theorem dX9_sumOfWorths_53 : decode cX9_sumOfWorths 53 = .ok (.getfield 21, 3) := by decide +kernel
theorem dX9_sumOfWorths_56 : decode cX9_sumOfWorths 56 = .ok (.getfield 53, 3) := by decide +kernel
theorem dX9_sumOfWorths_59 : decode cX9_sumOfWorths 59 = .ok (.iload_n 2, 1) := by decide +kernel
theorem dX9_sumOfWorths_60 : decode cX9_sumOfWorths 60 = .ok (.iaload, 1) := by decide +kernel
theorem dX9_sumOfWorths_61 : decode cX9_sumOfWorths 61 = .ok (.iadd, 1) := by decide +kernel
theorem dX9_sumOfWorths_62 : decode cX9_sumOfWorths 62 = .ok (.istore_n 1, 1) := by decide +kernel
theorem dX9_sumOfWorths_63 : decode cX9_sumOfWorths 63 = .ok (.iinc 2 1, 3) := by decide +kernel
theorem dX9_sumOfWorths_66 : decode cX9_sumOfWorths 66 = .ok (.goto (-62), 3) := by decide +kernel
theorem dX9_sumOfWorths_69 : decode cX9_sumOfWorths 69 = .ok (.iload_n 1, 1) := by decide +kernel
theorem dX9_sumOfWorths_70 : decode cX9_sumOfWorths 70 = .ok (.ireturn, 1) := by decide +kernel
theorem dX9_findStanding_0 : decode cX9_findStanding 0 = .ok (.aload_n 0, 1) := by decide +kernel
theorem dX9_findStanding_1 : decode cX9_findStanding 1 = .ok (.iconst 0, 1) := by decide +kernel
theorem dX9_findStanding_2 : decode cX9_findStanding 2 = .ok (.putfield 56, 3) := by decide +kernel
theorem dX9_findStanding_5 : decode cX9_findStanding 5 = .ok (.aload_n 0, 1) := by decide +kernel
theorem dX9_findStanding_6 : decode cX9_findStanding 6 = .ok (.iconst 0, 1) := by decide +kernel
theorem dX9_findStanding_7 : decode cX9_findStanding 7 = .ok (.putfield 50, 3) := by decide +kernel
theorem dX9_findStanding_10 : decode cX9_findStanding 10 = .ok (.iconst 0, 1) := by decide +kernel
theorem dX9_findStanding_11 : decode cX9_findStanding 11 = .ok (.istore_n 3, 1) := by decide +kernel
theorem dX9_findStanding_12 : decode cX9_findStanding 12 = .ok (.iload_n 3, 1) := by decide +kernel
theorem dX9_findStanding_13 : decode cX9_findStanding 13 = .ok (.aload_n 0, 1) := by decide +kernel
theorem dX9_findStanding_14 : decode cX9_findStanding 14 = .ok (.getfield 21, 3) := by decide +kernel
theorem dX9_findStanding_17 : decode cX9_findStanding 17 = .ok (.getfield 59, 3) := by decide +kernel
theorem dX9_findStanding_20 : decode cX9_findStanding 20 = .ok (.if_icmp .ge 89, 3) := by decide +kernel
theorem dX9_findStanding_23 : decode cX9_findStanding 23 = .ok (.aload_n 0, 1) := by decide +kernel
theorem dX9_findStanding_24 : decode cX9_findStanding 24 = .ok (.getfield 21, 3) := by decide +kernel
theorem dX9_findStanding_27 : decode cX9_findStanding 27 = .ok (.iload_n 3, 1) := by decide +kernel
theorem dX9_findStanding_28 : decode cX9_findStanding 28 = .ok (.invokevirtual 62, 3) := by decide +kernel
theorem dX9_findStanding_31 : decode cX9_findStanding 31 = .ok (.astore 4, 2) := by decide +kernel
theorem dX9_findStanding_33 : decode cX9_findStanding 33 = .ok (.aload 4, 2) := by decide +kernel
theorem dX9_findStanding_35 : decode cX9_findStanding 35 = .ok (.ifnull 68, 3) := by decide +kernel
theorem dX9_findStanding_38 : decode cX9_findStanding 38 = .ok (.aload 4, 2) := by decide +kernel
theorem dX9_findStanding_40 : decode cX9_findStanding 40 = .ok (.aload_n 1, 1) := by decide +kernel
theorem dX9_findStanding_41 : decode cX9_findStanding 41 = .ok (.aload 4, 2) := by decide +kernel
theorem dX9_findStanding_43 : decode cX9_findStanding 43 = .ok (.getfield 66, 3) := by decide +kernel
theorem dX9_findStanding_46 : decode cX9_findStanding 46 = .ok (.iaload, 1) := by decide +kernel
theorem dX9_findStanding_47 : decode cX9_findStanding 47 = .ok (.iload_n 2, 1) := by decide +kernel
theorem dX9_findStanding_48 : decode cX9_findStanding 48 = .ok (.aload 4, 2) := by decide +kernel
theorem dX9_findStanding_50 : decode cX9_findStanding 50 = .ok (.getfield 66, 3) := by decide +kernel
theorem dX9_findStanding_53 : decode cX9_findStanding 53 = .ok (.invokestatic 46, 3) := by decide +kernel
theorem dX9_findStanding_56 : decode cX9_findStanding 56 = .ok (.invokevirtual 71, 3) := by decide +kernel
theorem dX9_findStanding_59 : decode cX9_findStanding 59 = .ok (.ifCond .ne 6, 3) := by decide +kernel
theorem dX9_findStanding_62 : decode cX9_findStanding 62 = .ok (.goto 41, 3) := by decide +kernel
theorem dX9_findStanding_65 : decode cX9_findStanding 65 = .ok (.aload_n 0, 1) := by decide +kernel
theorem dX9_findStanding_66 : decode cX9_findStanding 66 = .ok (.dup, 1) := by decide +kernel
theorem dX9_findStanding_67 : decode cX9_findStanding 67 = .ok (.getfield 56, 3) := by decide +kernel
theorem dX9_findStanding_70 : decode cX9_findStanding 70 = .ok (.iload_n 3, 1) := by decide +kernel
theorem dX9_findStanding_71 : decode cX9_findStanding 71 = .ok (.invokestatic 75, 3) := by decide +kernel
theorem dX9_findStanding_74 : decode cX9_findStanding 74 = .ok (.ior, 1) := by decide +kernel
theorem dX9_findStanding_75 : decode cX9_findStanding 75 = .ok (.putfield 56, 3) := by decide +kernel
theorem dX9_findStanding_78 : decode cX9_findStanding 78 = .ok (.aload 4, 2) := by decide +kernel
theorem dX9_findStanding_80 : decode cX9_findStanding 80 = .ok (.instanceof 78, 3) := by decide +kernel
theorem dX9_findStanding_83 : decode cX9_findStanding 83 = .ok (.ifCond .eq 20, 3) := by decide +kernel
theorem dX9_findStanding_86 : decode cX9_findStanding 86 = .ok (.aload_n 0, 1) := by decide +kernel
theorem dX9_findStanding_87 : decode cX9_findStanding 87 = .ok (.dup, 1) := by decide +kernel
theorem dX9_findStanding_88 : decode cX9_findStanding 88 = .ok (.getfield 50, 3) := by decide +kernel
theorem dX9_findStanding_91 : decode cX9_findStanding 91 = .ok (.aload 4, 2) := by decide +kernel
theorem dX9_findStanding_93 : decode cX9_findStanding 93 = .ok (.getfield 66, 3) := by decide +kernel
theorem dX9_findStanding_96 : decode cX9_findStanding 96 = .ok (.invokestatic 75, 3) := by decide +kernel
theorem dX9_findStanding_99 : decode cX9_findStanding 99 = .ok (.ior, 1) := by decide +kernel
theorem dX9_findStanding_100 : decode cX9_findStanding 100 = .ok (.putfield 50, 3) := by decide +kernel
theorem dX9_findStanding_103 : decode cX9_findStanding 103 = .ok (.iinc 3 1, 3) := by decide +kernel
theorem dX9_findStanding_106 : decode cX9_findStanding 106 = .ok (.goto (-94), 3) := by decide +kernel
theorem dX9_findStanding_109 : decode cX9_findStanding 109 = .ok (.return_, 1) := by decide +kernel
theorem dX9_takeStep_0 : decode cX9_takeStep 0 = .ok (.iconst 0, 1) := by decide +kernel
theorem dX9_takeStep_1 : decode cX9_takeStep 1 = .ok (.istore_n 2, 1) := by decide +kernel
theorem dX9_takeStep_2 : decode cX9_takeStep 2 = .ok (.iconst 0, 1) := by decide +kernel
theorem dX9_takeStep_3 : decode cX9_takeStep 3 = .ok (.istore_n 3, 1) := by decide +kernel
theorem dX9_takeStep_4 : decode cX9_takeStep 4 = .ok (.iconst 0, 1) := by decide +kernel
theorem dX9_takeStep_5 : decode cX9_takeStep 5 = .ok (.istore 4, 2) := by decide +kernel
theorem dX9_takeStep_7 : decode cX9_takeStep 7 = .ok (.iload 4, 2) := by decide +kernel
theorem dX9_takeStep_9 : decode cX9_takeStep 9 = .ok (.aload_n 0, 1) := by decide +kernel
theorem dX9_takeStep_10 : decode cX9_takeStep 10 = .ok (.getfield 21, 3) := by decide +kernel
theorem dX9_takeStep_13 : decode cX9_takeStep 13 = .ok (.getfield 59, 3) := by decide +kernel
theorem dX9_takeStep_16 : decode cX9_takeStep 16 = .ok (.if_icmp .ge 167, 3) := by decide +kernel
theorem dX9_takeStep_19 : decode cX9_takeStep 19 = .ok (.aload_n 0, 1) := by decide +kernel
theorem dX9_takeStep_20 : decode cX9_takeStep 20 = .ok (.getfield 21, 3) := by decide +kernel
theorem dX9_takeStep_23 : decode cX9_takeStep 23 = .ok (.iload 4, 2) := by decide +kernel
theorem dX9_takeStep_25 : decode cX9_takeStep 25 = .ok (.invokevirtual 62, 3) := by decide +kernel
theorem dX9_takeStep_28 : decode cX9_takeStep 28 = .ok (.astore 5, 2) := by decide +kernel
theorem dX9_takeStep_30 : decode cX9_takeStep 30 = .ok (.aload 5, 2) := by decide +kernel
theorem dX9_takeStep_32 : decode cX9_takeStep 32 = .ok (.ifnull 145, 3) := by decide +kernel
theorem dX9_takeStep_35 : decode cX9_takeStep 35 = .ok (.aload_n 0, 1) := by decide +kernel
theorem dX9_takeStep_36 : decode cX9_takeStep 36 = .ok (.getfield 56, 3) := by decide +kernel
theorem dX9_takeStep_39 : decode cX9_takeStep 39 = .ok (.iload 4, 2) := by decide +kernel
theorem dX9_takeStep_41 : decode cX9_takeStep 41 = .ok (.invokestatic 46, 3) := by decide +kernel
theorem dX9_takeStep_44 : decode cX9_takeStep 44 = .ok (.ifCond .eq 133, 3) := by decide +kernel
theorem dX9_takeStep_47 : decode cX9_takeStep 47 = .ok (.aload 5, 2) := by decide +kernel
theorem dX9_takeStep_49 : decode cX9_takeStep 49 = .ok (.aload_n 0, 1) := by decide +kernel
theorem dX9_takeStep_50 : decode cX9_takeStep 50 = .ok (.getfield 56, 3) := by decide +kernel
theorem dX9_takeStep_53 : decode cX9_takeStep 53 = .ok (.iload_n 2, 1) := by decide +kernel
theorem dX9_takeStep_54 : decode cX9_takeStep 54 = .ok (.aload_n 0, 1) := by decide +kernel
theorem dX9_takeStep_55 : decode cX9_takeStep 55 = .ok (.getfield 29, 3) := by decide +kernel
theorem dX9_takeStep_58 : decode cX9_takeStep 58 = .ok (.invokevirtual 80, 3) := by decide +kernel
theorem dX9_takeStep_61 : decode cX9_takeStep 61 = .ok (.ifCond .ne 6, 3) := by decide +kernel
theorem dX9_takeStep_64 : decode cX9_takeStep 64 = .ok (.goto 113, 3) := by decide +kernel
theorem dX9_takeStep_67 : decode cX9_takeStep 67 = .ok (.iload_n 2, 1) := by decide +kernel
theorem dX9_takeStep_68 : decode cX9_takeStep 68 = .ok (.iload 4, 2) := by decide +kernel
theorem dX9_takeStep_70 : decode cX9_takeStep 70 = .ok (.invokestatic 75, 3) := by decide +kernel
theorem dX9_takeStep_73 : decode cX9_takeStep 73 = .ok (.ior, 1) := by decide +kernel
theorem dX9_takeStep_74 : decode cX9_takeStep 74 = .ok (.istore_n 2, 1) := by decide +kernel
theorem dX9_takeStep_75 : decode cX9_takeStep 75 = .ok (.aload 5, 2) := by decide +kernel
theorem dX9_takeStep_77 : decode cX9_takeStep 77 = .ok (.getfield 66, 3) := by decide +kernel
theorem dX9_takeStep_80 : decode cX9_takeStep 80 = .ok (.istore 6, 2) := by decide +kernel
theorem dX9_takeStep_82 : decode cX9_takeStep 82 = .ok (.aload_n 0, 1) := by decide +kernel
theorem dX9_takeStep_83 : decode cX9_takeStep 83 = .ok (.getfield 29, 3) := by decide +kernel
theorem dX9_takeStep_86 : decode cX9_takeStep 86 = .ok (.iload_n 3, 1) := by decide +kernel
theorem dX9_takeStep_87 : decode cX9_takeStep 87 = .ok (.ior, 1) := by decide +kernel
theorem dX9_takeStep_88 : decode cX9_takeStep 88 = .ok (.iload 6, 2) := by decide +kernel
theorem dX9_takeStep_90 : decode cX9_takeStep 90 = .ok (.invokestatic 46, 3) := by decide +kernel
theorem dX9_takeStep_93 : decode cX9_takeStep 93 = .ok (.ifCond .ne 84, 3) := by decide +kernel
theorem dX9_takeStep_96 : decode cX9_takeStep 96 = .ok (.aload_n 0, 1) := by decide +kernel
theorem dX9_takeStep_97 : decode cX9_takeStep 97 = .ok (.iload 6, 2) := by decide +kernel
theorem dX9_takeStep_99 : decode cX9_takeStep 99 = .ok (.invokevirtual 84, 3) := by decide +kernel
theorem dX9_takeStep_102 : decode cX9_takeStep 102 = .ok (.ifCond .ne 6, 3) := by decide +kernel
theorem dX9_takeStep_105 : decode cX9_takeStep 105 = .ok (.goto 72, 3) := by decide +kernel
theorem dX9_takeStep_108 : decode cX9_takeStep 108 = .ok (.iload_n 3, 1) := by decide +kernel
theorem dX9_takeStep_109 : decode cX9_takeStep 109 = .ok (.iload 6, 2) := by decide +kernel
theorem dX9_takeStep_111 : decode cX9_takeStep 111 = .ok (.invokestatic 75, 3) := by decide +kernel
theorem dX9_takeStep_114 : decode cX9_takeStep 114 = .ok (.ior, 1) := by decide +kernel
theorem dX9_takeStep_115 : decode cX9_takeStep 115 = .ok (.istore_n 3, 1) := by decide +kernel
theorem dX9_takeStep_116 : decode cX9_takeStep 116 = .ok (.aload_n 0, 1) := by decide +kernel
theorem dX9_takeStep_117 : decode cX9_takeStep 117 = .ok (.getfield 9, 3) := by decide +kernel
theorem dX9_takeStep_120 : decode cX9_takeStep 120 = .ok (.iload 6, 2) := by decide +kernel
theorem dX9_takeStep_122 : decode cX9_takeStep 122 = .ok (.iload_n 1, 1) := by decide +kernel
theorem dX9_takeStep_123 : decode cX9_takeStep 123 = .ok (.iastore, 1) := by decide +kernel
theorem dX9_takeStep_124 : decode cX9_takeStep 124 = .ok (.aload_n 0, 1) := by decide +kernel
theorem dX9_takeStep_125 : decode cX9_takeStep 125 = .ok (.getfield 15, 3) := by decide +kernel
theorem dX9_takeStep_128 : decode cX9_takeStep 128 = .ok (.iload 6, 2) := by decide +kernel
theorem dX9_takeStep_130 : decode cX9_takeStep 130 = .ok (.iload 4, 2) := by decide +kernel
theorem dX9_takeStep_132 : decode cX9_takeStep 132 = .ok (.iastore, 1) := by decide +kernel
theorem dX9_takeStep_133 : decode cX9_takeStep 133 = .ok (.aload_n 0, 1) := by decide +kernel
theorem dX9_takeStep_134 : decode cX9_takeStep 134 = .ok (.getfield 18, 3) := by decide +kernel
theorem dX9_takeStep_137 : decode cX9_takeStep 137 = .ok (.iload 6, 2) := by decide +kernel
theorem dX9_takeStep_139 : decode cX9_takeStep 139 = .ok (.aload_n 0, 1) := by decide +kernel
theorem dX9_takeStep_140 : decode cX9_takeStep 140 = .ok (.getfield 21, 3) := by decide +kernel
theorem dX9_takeStep_143 : decode cX9_takeStep 143 = .ok (.getfield 88, 3) := by decide +kernel
theorem dX9_takeStep_146 : decode cX9_takeStep 146 = .ok (.iload 6, 2) := by decide +kernel
theorem dX9_takeStep_148 : decode cX9_takeStep 148 = .ok (.invokestatic 46, 3) := by decide +kernel
theorem dX9_takeStep_151 : decode cX9_takeStep 151 = .ok (.ifCond .eq 7, 3) := by decide +kernel
theorem dX9_takeStep_154 : decode cX9_takeStep 154 = .ok (.iconst (-1), 1) := by decide +kernel
theorem dX9_takeStep_155 : decode cX9_takeStep 155 = .ok (.goto 21, 3) := by decide +kernel
theorem dX9_takeStep_158 : decode cX9_takeStep 158 = .ok (.aload_n 0, 1) := by decide +kernel
theorem dX9_takeStep_159 : decode cX9_takeStep 159 = .ok (.getfield 21, 3) := by decide +kernel
theorem dX9_takeStep_162 : decode cX9_takeStep 162 = .ok (.getfield 91, 3) := by decide +kernel
theorem dX9_takeStep_165 : decode cX9_takeStep 165 = .ok (.iload 6, 2) := by decide +kernel
theorem dX9_takeStep_167 : decode cX9_takeStep 167 = .ok (.iaload, 1) := by decide +kernel
theorem dX9_takeStep_168 : decode cX9_takeStep 168 = .ok (.aload_n 0, 1) := by decide +kernel
theorem dX9_takeStep_169 : decode cX9_takeStep 169 = .ok (.getfield 29, 3) := by decide +kernel
theorem dX9_takeStep_172 : decode cX9_takeStep 172 = .ok (.iand, 1) := by decide +kernel
theorem dX9_takeStep_173 : decode cX9_takeStep 173 = .ok (.invokestatic 94, 3) := by decide +kernel
theorem dX9_takeStep_176 : decode cX9_takeStep 176 = .ok (.iastore, 1) := by decide +kernel
theorem dX9_takeStep_177 : decode cX9_takeStep 177 = .ok (.iinc 4 1, 3) := by decide +kernel
theorem dX9_takeStep_180 : decode cX9_takeStep 180 = .ok (.goto (-173), 3) := by decide +kernel
theorem dX9_takeStep_183 : decode cX9_takeStep 183 = .ok (.iload_n 3, 1) := by decide +kernel
theorem dX9_takeStep_184 : decode cX9_takeStep 184 = .ok (.ireturn, 1) := by decide +kernel
theorem dX9_isReached_0 : decode cX9_isReached 0 = .ok (.aload_n 0, 1) := by decide +kernel
theorem dX9_isReached_1 : decode cX9_isReached 1 = .ok (.getfield 21, 3) := by decide +kernel
theorem dX9_isReached_4 : decode cX9_isReached 4 = .ok (.getfield 88, 3) := by decide +kernel
theorem dX9_isReached_7 : decode cX9_isReached 7 = .ok (.iload_n 1, 1) := by decide +kernel
theorem dX9_isReached_8 : decode cX9_isReached 8 = .ok (.invokestatic 46, 3) := by decide +kernel
theorem dX9_isReached_11 : decode cX9_isReached 11 = .ok (.ifCond .ne 20, 3) := by decide +kernel
theorem dX9_isReached_14 : decode cX9_isReached 14 = .ok (.aload_n 0, 1) := by decide +kernel
theorem dX9_isReached_15 : decode cX9_isReached 15 = .ok (.getfield 21, 3) := by decide +kernel
theorem dX9_isReached_18 : decode cX9_isReached 18 = .ok (.getfield 91, 3) := by decide +kernel
theorem dX9_isReached_21 : decode cX9_isReached 21 = .ok (.iload_n 1, 1) := by decide +kernel
theorem dX9_isReached_22 : decode cX9_isReached 22 = .ok (.iaload, 1) := by decide +kernel
theorem dX9_isReached_23 : decode cX9_isReached 23 = .ok (.aload_n 0, 1) := by decide +kernel
theorem dX9_isReached_24 : decode cX9_isReached 24 = .ok (.getfield 29, 3) := by decide +kernel
theorem dX9_isReached_27 : decode cX9_isReached 27 = .ok (.iand, 1) := by decide +kernel
theorem dX9_isReached_28 : decode cX9_isReached 28 = .ok (.ifCond .eq 7, 3) := by decide +kernel
theorem dX9_isReached_31 : decode cX9_isReached 31 = .ok (.iconst 1, 1) := by decide +kernel
theorem dX9_isReached_32 : decode cX9_isReached 32 = .ok (.goto 4, 3) := by decide +kernel
theorem dX9_isReached_35 : decode cX9_isReached 35 = .ok (.iconst 0, 1) := by decide +kernel
theorem dX9_isReached_36 : decode cX9_isReached 36 = .ok (.ireturn, 1) := by decide +kernel
theorem dX9_leastOf_0 : decode cX9_leastOf 0 = .ok (.iconst 0, 1) := by decide +kernel
theorem dX9_leastOf_1 : decode cX9_leastOf 1 = .ok (.istore_n 1, 1) := by decide +kernel
theorem dX9_leastOf_2 : decode cX9_leastOf 2 = .ok (.iload_n 1, 1) := by decide +kernel
theorem dX9_leastOf_3 : decode cX9_leastOf 3 = .ok (.bipush 8, 2) := by decide +kernel
theorem dX9_leastOf_5 : decode cX9_leastOf 5 = .ok (.if_icmp .ge 19, 3) := by decide +kernel
theorem dX9_leastOf_8 : decode cX9_leastOf 8 = .ok (.iload_n 0, 1) := by decide +kernel
theorem dX9_leastOf_9 : decode cX9_leastOf 9 = .ok (.iload_n 1, 1) := by decide +kernel
theorem dX9_leastOf_10 : decode cX9_leastOf 10 = .ok (.invokestatic 46, 3) := by decide +kernel
theorem dX9_leastOf_13 : decode cX9_leastOf 13 = .ok (.ifCond .eq 5, 3) := by decide +kernel
theorem dX9_leastOf_16 : decode cX9_leastOf 16 = .ok (.iload_n 1, 1) := by decide +kernel
theorem dX9_leastOf_17 : decode cX9_leastOf 17 = .ok (.ireturn, 1) := by decide +kernel
theorem dX9_leastOf_18 : decode cX9_leastOf 18 = .ok (.iinc 1 1, 3) := by decide +kernel
theorem dX9_leastOf_21 : decode cX9_leastOf 21 = .ok (.goto (-19), 3) := by decide +kernel
theorem dX9_leastOf_24 : decode cX9_leastOf 24 = .ok (.iconst (-1), 1) := by decide +kernel
theorem dX9_leastOf_25 : decode cX9_leastOf 25 = .ok (.ireturn, 1) := by decide +kernel
theorem dX10_init_0 : decode cX10_init 0 = .ok (.aload_n 0, 1) := by decide +kernel
theorem dX10_init_1 : decode cX10_init 1 = .ok (.iload_n 1, 1) := by decide +kernel
theorem dX10_init_2 : decode cX10_init 2 = .ok (.iload_n 2, 1) := by decide +kernel
theorem dX10_init_3 : decode cX10_init 3 = .ok (.iload_n 3, 1) := by decide +kernel
theorem dX10_init_4 : decode cX10_init 4 = .ok (.invokespecial 1, 3) := by decide +kernel
theorem dX10_init_7 : decode cX10_init 7 = .ok (.return_, 1) := by decide +kernel
theorem dX10_kind_0 : decode cX10_kind 0 = .ok (.iconst 3, 1) := by decide +kernel
theorem dX10_kind_1 : decode cX10_kind 1 = .ok (.ireturn, 1) := by decide +kernel
theorem dX10_stands_0 : decode cX10_stands 0 = .ok (.aload_n 0, 1) := by decide +kernel
theorem dX10_stands_1 : decode cX10_stands 1 = .ok (.iload_n 1, 1) := by decide +kernel
theorem dX10_stands_2 : decode cX10_stands 2 = .ok (.invokevirtual 7, 3) := by decide +kernel
theorem dX10_stands_5 : decode cX10_stands 5 = .ok (.ireturn, 1) := by decide +kernel
theorem dX11_init_0 : decode cX11_init 0 = .ok (.aload_n 0, 1) := by decide +kernel
theorem dX11_init_1 : decode cX11_init 1 = .ok (.invokespecial 3, 3) := by decide +kernel
theorem dX11_init_4 : decode cX11_init 4 = .ok (.aload_n 0, 1) := by decide +kernel
theorem dX11_init_5 : decode cX11_init 5 = .ok (.new 9, 3) := by decide +kernel
theorem dX11_init_8 : decode cX11_init 8 = .ok (.dup, 1) := by decide +kernel
theorem dX11_init_9 : decode cX11_init 9 = .ok (.invokespecial 11, 3) := by decide +kernel
theorem dX11_init_12 : decode cX11_init 12 = .ok (.putfield 12, 3) := by decide +kernel
theorem dX11_init_15 : decode cX11_init 15 = .ok (.aload_n 0, 1) := by decide +kernel
theorem dX11_init_16 : decode cX11_init 16 = .ok (.new 16, 3) := by decide +kernel
theorem dX11_init_19 : decode cX11_init 19 = .ok (.dup, 1) := by decide +kernel
theorem dX11_init_20 : decode cX11_init 20 = .ok (.aload_n 0, 1) := by decide +kernel
theorem dX11_init_21 : decode cX11_init 21 = .ok (.getfield 12, 3) := by decide +kernel
theorem dX11_init_24 : decode cX11_init 24 = .ok (.invokespecial 18, 3) := by decide +kernel
theorem dX11_init_27 : decode cX11_init 27 = .ok (.putfield 21, 3) := by decide +kernel
theorem dX11_init_30 : decode cX11_init 30 = .ok (.aload_n 0, 1) := by decide +kernel
theorem dX11_init_31 : decode cX11_init 31 = .ok (.new 25, 3) := by decide +kernel
theorem dX11_init_34 : decode cX11_init 34 = .ok (.dup, 1) := by decide +kernel
theorem dX11_init_35 : decode cX11_init 35 = .ok (.aload_n 0, 1) := by decide +kernel
theorem dX11_init_36 : decode cX11_init 36 = .ok (.getfield 12, 3) := by decide +kernel
theorem dX11_init_39 : decode cX11_init 39 = .ok (.aload_n 0, 1) := by decide +kernel
theorem dX11_init_40 : decode cX11_init 40 = .ok (.getfield 21, 3) := by decide +kernel
theorem dX11_init_43 : decode cX11_init 43 = .ok (.invokespecial 27, 3) := by decide +kernel
theorem dX11_init_46 : decode cX11_init 46 = .ok (.putfield 30, 3) := by decide +kernel
theorem dX11_init_49 : decode cX11_init 49 = .ok (.aload_n 0, 1) := by decide +kernel
theorem dX11_init_50 : decode cX11_init 50 = .ok (.new 34, 3) := by decide +kernel
theorem dX11_init_53 : decode cX11_init 53 = .ok (.dup, 1) := by decide +kernel
theorem dX11_init_54 : decode cX11_init 54 = .ok (.aload_n 0, 1) := by decide +kernel
theorem dX11_init_55 : decode cX11_init 55 = .ok (.getfield 30, 3) := by decide +kernel
theorem dX11_init_58 : decode cX11_init 58 = .ok (.invokespecial 36, 3) := by decide +kernel
theorem dX11_init_61 : decode cX11_init 61 = .ok (.putfield 39, 3) := by decide +kernel
theorem dX11_init_64 : decode cX11_init 64 = .ok (.return_, 1) := by decide +kernel
theorem dX11_part_0 : decode cX11_part 0 = .ok (.iload_n 1, 1) := by decide +kernel
theorem dX11_part_1 : decode cX11_part 1 = .ok (.invokestatic 43, 3) := by decide +kernel
theorem dX11_part_4 : decode cX11_part 4 = .ok (.ifCond .eq 14, 3) := by decide +kernel
theorem dX11_part_7 : decode cX11_part 7 = .ok (.iload_n 2, 1) := by decide +kernel
theorem dX11_part_8 : decode cX11_part 8 = .ok (.iconst 0, 1) := by decide +kernel
theorem dX11_part_9 : decode cX11_part 9 = .ok (.sipush 1000, 3) := by decide +kernel
theorem dX11_part_12 : decode cX11_part 12 = .ok (.invokestatic 47, 3) := by decide +kernel
theorem dX11_part_15 : decode cX11_part 15 = .ok (.ifCond .ne 5, 3) := by decide +kernel
theorem dX11_part_18 : decode cX11_part 18 = .ok (.iconst (-1), 1) := by decide +kernel
theorem dX11_part_19 : decode cX11_part 19 = .ok (.ireturn, 1) := by decide +kernel
theorem dX11_part_20 : decode cX11_part 20 = .ok (.aload_n 0, 1) := by decide +kernel
theorem dX11_part_21 : decode cX11_part 21 = .ok (.getfield 12, 3) := by decide +kernel
theorem dX11_part_24 : decode cX11_part 24 = .ok (.iload_n 1, 1) := by decide +kernel
theorem dX11_part_25 : decode cX11_part 25 = .ok (.iload_n 2, 1) := by decide +kernel
theorem dX11_part_26 : decode cX11_part 26 = .ok (.iload_n 3, 1) := by decide +kernel
theorem dX11_part_27 : decode cX11_part 27 = .ok (.invokevirtual 51, 3) := by decide +kernel
theorem dX11_part_30 : decode cX11_part 30 = .ok (.ireturn, 1) := by decide +kernel
theorem dX11_link_0 : decode cX11_link 0 = .ok (.aload_n 0, 1) := by decide +kernel
theorem dX11_link_1 : decode cX11_link 1 = .ok (.getfield 12, 3) := by decide +kernel
theorem dX11_link_4 : decode cX11_link 4 = .ok (.iload_n 1, 1) := by decide +kernel
theorem dX11_link_5 : decode cX11_link 5 = .ok (.invokevirtual 55, 3) := by decide +kernel
theorem dX11_link_8 : decode cX11_link 8 = .ok (.ifCond .eq 19, 3) := by decide +kernel
theorem dX11_link_11 : decode cX11_link 11 = .ok (.aload_n 0, 1) := by decide +kernel
theorem dX11_link_12 : decode cX11_link 12 = .ok (.getfield 12, 3) := by decide +kernel
theorem dX11_link_15 : decode cX11_link 15 = .ok (.iload_n 2, 1) := by decide +kernel
theorem dX11_link_16 : decode cX11_link 16 = .ok (.invokevirtual 55, 3) := by decide +kernel
theorem dX11_link_19 : decode cX11_link 19 = .ok (.ifCond .eq 8, 3) := by decide +kernel
theorem dX11_link_22 : decode cX11_link 22 = .ok (.iload_n 1, 1) := by decide +kernel
theorem dX11_link_23 : decode cX11_link 23 = .ok (.iload_n 2, 1) := by decide +kernel
theorem dX11_link_24 : decode cX11_link 24 = .ok (.if_icmp .ne 5, 3) := by decide +kernel
theorem dX11_link_27 : decode cX11_link 27 = .ok (.iconst (-1), 1) := by decide +kernel
theorem dX11_link_28 : decode cX11_link 28 = .ok (.ireturn, 1) := by decide +kernel
theorem dX11_link_29 : decode cX11_link 29 = .ok (.aload_n 0, 1) := by decide +kernel
theorem dX11_link_30 : decode cX11_link 30 = .ok (.getfield 12, 3) := by decide +kernel
theorem dX11_link_33 : decode cX11_link 33 = .ok (.getfield 58, 3) := by decide +kernel
theorem dX11_link_36 : decode cX11_link 36 = .ok (.iload_n 2, 1) := by decide +kernel
theorem dX11_link_37 : decode cX11_link 37 = .ok (.iaload, 1) := by decide +kernel
theorem dX11_link_38 : decode cX11_link 38 = .ok (.istore 4, 2) := by decide +kernel
theorem dX11_link_40 : decode cX11_link 40 = .ok (.aload_n 0, 1) := by decide +kernel
theorem dX11_link_41 : decode cX11_link 41 = .ok (.getfield 12, 3) := by decide +kernel
theorem dX11_link_44 : decode cX11_link 44 = .ok (.getfield 58, 3) := by decide +kernel
theorem dX11_link_47 : decode cX11_link 47 = .ok (.iload_n 2, 1) := by decide +kernel
theorem dX11_link_48 : decode cX11_link 48 = .ok (.iload 4, 2) := by decide +kernel
theorem dX11_link_50 : decode cX11_link 50 = .ok (.iload_n 1, 1) := by decide +kernel
theorem dX11_link_51 : decode cX11_link 51 = .ok (.iload_n 3, 1) := by decide +kernel
theorem dX11_link_52 : decode cX11_link 52 = .ok (.invokestatic 62, 3) := by decide +kernel
theorem dX11_link_55 : decode cX11_link 55 = .ok (.iastore, 1) := by decide +kernel
theorem dX11_link_56 : decode cX11_link 56 = .ok (.iload 4, 2) := by decide +kernel
theorem dX11_link_58 : decode cX11_link 58 = .ok (.iload_n 1, 1) := by decide +kernel
theorem dX11_link_59 : decode cX11_link 59 = .ok (.invokestatic 65, 3) := by decide +kernel
theorem dX11_link_62 : decode cX11_link 62 = .ok (.invokestatic 69, 3) := by decide +kernel
theorem dX11_link_65 : decode cX11_link 65 = .ok (.ireturn, 1) := by decide +kernel
theorem dX11_guard_0 : decode cX11_guard 0 = .ok (.aload_n 0, 1) := by decide +kernel
theorem dX11_guard_1 : decode cX11_guard 1 = .ok (.getfield 12, 3) := by decide +kernel
theorem dX11_guard_4 : decode cX11_guard 4 = .ok (.iload_n 1, 1) := by decide +kernel
theorem dX11_guard_5 : decode cX11_guard 5 = .ok (.invokevirtual 55, 3) := by decide +kernel
theorem dX11_guard_8 : decode cX11_guard 8 = .ok (.ifCond .ne 5, 3) := by decide +kernel
theorem dX11_guard_11 : decode cX11_guard 11 = .ok (.iconst (-1), 1) := by decide +kernel
theorem dX11_guard_12 : decode cX11_guard 12 = .ok (.ireturn, 1) := by decide +kernel
theorem dX11_guard_13 : decode cX11_guard 13 = .ok (.aload_n 0, 1) := by decide +kernel
theorem dX11_guard_14 : decode cX11_guard 14 = .ok (.getfield 12, 3) := by decide +kernel
theorem dX11_guard_17 : decode cX11_guard 17 = .ok (.getfield 73, 3) := by decide +kernel
theorem dX11_guard_20 : decode cX11_guard 20 = .ok (.istore_n 3, 1) := by decide +kernel
theorem dX11_guard_21 : decode cX11_guard 21 = .ok (.aload_n 0, 1) := by decide +kernel
theorem dX11_guard_22 : decode cX11_guard 22 = .ok (.getfield 12, 3) := by decide +kernel
theorem dX11_guard_25 : decode cX11_guard 25 = .ok (.iload_n 3, 1) := by decide +kernel
theorem dX11_guard_26 : decode cX11_guard 26 = .ok (.iload_n 1, 1) := by decide +kernel
theorem dX11_guard_27 : decode cX11_guard 27 = .ok (.iload_n 2, 1) := by decide +kernel
theorem dX11_guard_28 : decode cX11_guard 28 = .ok (.invokestatic 62, 3) := by decide +kernel
theorem dX11_guard_31 : decode cX11_guard 31 = .ok (.putfield 73, 3) := by decide +kernel
theorem dX11_guard_34 : decode cX11_guard 34 = .ok (.iload_n 3, 1) := by decide +kernel
theorem dX11_guard_35 : decode cX11_guard 35 = .ok (.iload_n 1, 1) := by decide +kernel
theorem dX11_guard_36 : decode cX11_guard 36 = .ok (.invokestatic 65, 3) := by decide +kernel
theorem dX11_guard_39 : decode cX11_guard 39 = .ok (.invokestatic 69, 3) := by decide +kernel
theorem dX11_guard_42 : decode cX11_guard 42 = .ok (.ireturn, 1) := by decide +kernel
theorem dX11_version_0 : decode cX11_version 0 = .ok (.aload_n 0, 1) := by decide +kernel
theorem dX11_version_1 : decode cX11_version 1 = .ok (.getfield 12, 3) := by decide +kernel
theorem dX11_version_4 : decode cX11_version 4 = .ok (.iload_n 1, 1) := by decide +kernel
theorem dX11_version_5 : decode cX11_version 5 = .ok (.invokevirtual 55, 3) := by decide +kernel
theorem dX11_version_8 : decode cX11_version 8 = .ok (.ifCond .eq 10, 3) := by decide +kernel
theorem dX11_version_11 : decode cX11_version 11 = .ok (.iload_n 2, 1) := by decide +kernel
theorem dX11_version_12 : decode cX11_version 12 = .ok (.invokestatic 43, 3) := by decide +kernel
theorem dX11_version_15 : decode cX11_version 15 = .ok (.ifCond .ne 5, 3) := by decide +kernel
theorem dX11_version_18 : decode cX11_version 18 = .ok (.iconst (-1), 1) := by decide +kernel
theorem dX11_version_19 : decode cX11_version 19 = .ok (.ireturn, 1) := by decide +kernel
theorem dX11_version_20 : decode cX11_version 20 = .ok (.aload_n 0, 1) := by decide +kernel
theorem dX11_version_21 : decode cX11_version 21 = .ok (.getfield 12, 3) := by decide +kernel
theorem dX11_version_24 : decode cX11_version 24 = .ok (.getfield 77, 3) := by decide +kernel
theorem dX11_version_27 : decode cX11_version 27 = .ok (.iload_n 1, 1) := by decide +kernel
theorem dX11_version_28 : decode cX11_version 28 = .ok (.iaload, 1) := by decide +kernel
theorem dX11_version_29 : decode cX11_version 29 = .ok (.istore_n 3, 1) := by decide +kernel
theorem dX11_version_30 : decode cX11_version 30 = .ok (.aload_n 0, 1) := by decide +kernel
theorem dX11_version_31 : decode cX11_version 31 = .ok (.getfield 12, 3) := by decide +kernel
theorem dX11_version_34 : decode cX11_version 34 = .ok (.getfield 77, 3) := by decide +kernel
theorem dX11_version_37 : decode cX11_version 37 = .ok (.iload_n 1, 1) := by decide +kernel
theorem dX11_version_38 : decode cX11_version 38 = .ok (.iload_n 2, 1) := by decide +kernel
theorem dX11_version_39 : decode cX11_version 39 = .ok (.iastore, 1) := by decide +kernel
theorem dX11_version_40 : decode cX11_version 40 = .ok (.iload_n 3, 1) := by decide +kernel
theorem dX11_version_41 : decode cX11_version 41 = .ok (.ireturn, 1) := by decide +kernel
theorem dX11_hole_0 : decode cX11_hole 0 = .ok (.aload_n 0, 1) := by decide +kernel
theorem dX11_hole_1 : decode cX11_hole 1 = .ok (.getfield 12, 3) := by decide +kernel
theorem dX11_hole_4 : decode cX11_hole 4 = .ok (.iload_n 2, 1) := by decide +kernel
theorem dX11_hole_5 : decode cX11_hole 5 = .ok (.invokevirtual 55, 3) := by decide +kernel
theorem dX11_hole_8 : decode cX11_hole 8 = .ok (.ifCond .eq 12, 3) := by decide +kernel
theorem dX11_hole_11 : decode cX11_hole 11 = .ok (.iload_n 3, 1) := by decide +kernel
theorem dX11_hole_12 : decode cX11_hole 12 = .ok (.iload 4, 2) := by decide +kernel
theorem dX11_hole_14 : decode cX11_hole 14 = .ok (.invokestatic 80, 3) := by decide +kernel
theorem dX11_hole_17 : decode cX11_hole 17 = .ok (.ifCond .ne 5, 3) := by decide +kernel
theorem dX11_hole_20 : decode cX11_hole 20 = .ok (.iconst (-1), 1) := by decide +kernel
theorem dX11_hole_21 : decode cX11_hole 21 = .ok (.ireturn, 1) := by decide +kernel
theorem dX11_hole_22 : decode cX11_hole 22 = .ok (.iload_n 1, 1) := by decide +kernel
theorem dX11_hole_23 : decode cX11_hole 23 = .ok (.iload_n 2, 1) := by decide +kernel
theorem dX11_hole_24 : decode cX11_hole 24 = .ok (.iload_n 3, 1) := by decide +kernel
theorem dX11_hole_25 : decode cX11_hole 25 = .ok (.iload 4, 2) := by decide +kernel
theorem dX11_hole_27 : decode cX11_hole 27 = .ok (.invokestatic 83, 3) := by decide +kernel
theorem dX11_hole_30 : decode cX11_hole 30 = .ok (.astore 5, 2) := by decide +kernel
theorem dX11_hole_32 : decode cX11_hole 32 = .ok (.aload 5, 2) := by decide +kernel
theorem dX11_hole_34 : decode cX11_hole 34 = .ok (.ifnonnull 7, 3) := by decide +kernel
theorem dX11_hole_37 : decode cX11_hole 37 = .ok (.iconst (-1), 1) := by decide +kernel
theorem dX11_hole_38 : decode cX11_hole 38 = .ok (.goto 12, 3) := by decide +kernel
theorem dX11_hole_41 : decode cX11_hole 41 = .ok (.aload_n 0, 1) := by decide +kernel
theorem dX11_hole_42 : decode cX11_hole 42 = .ok (.getfield 12, 3) := by decide +kernel
theorem dX11_hole_45 : decode cX11_hole 45 = .ok (.aload 5, 2) := by decide +kernel
theorem dX11_hole_47 : decode cX11_hole 47 = .ok (.invokevirtual 87, 3) := by decide +kernel
theorem dX11_hole_50 : decode cX11_hole 50 = .ok (.ireturn, 1) := by decide +kernel
theorem dX11_chained_0 : decode cX11_chained 0 = .ok (.aload_n 0, 1) := by decide +kernel
theorem dX11_chained_1 : decode cX11_chained 1 = .ok (.getfield 12, 3) := by decide +kernel
theorem dX11_chained_4 : decode cX11_chained 4 = .ok (.iload 4, 2) := by decide +kernel
theorem dX11_chained_6 : decode cX11_chained 6 = .ok (.invokevirtual 91, 3) := by decide +kernel
theorem dX11_chained_9 : decode cX11_chained 9 = .ok (.astore 5, 2) := by decide +kernel
theorem dX11_chained_11 : decode cX11_chained 11 = .ok (.aload_n 0, 1) := by decide +kernel
theorem dX11_chained_12 : decode cX11_chained 12 = .ok (.getfield 12, 3) := by decide +kernel
theorem dX11_chained_15 : decode cX11_chained 15 = .ok (.iload_n 1, 1) := by decide +kernel
theorem dX11_chained_16 : decode cX11_chained 16 = .ok (.invokevirtual 55, 3) := by decide +kernel
theorem dX11_chained_19 : decode cX11_chained 19 = .ok (.ifCond .eq 16, 3) := by decide +kernel
theorem dX11_chained_22 : decode cX11_chained 22 = .ok (.iload_n 2, 1) := by decide +kernel
theorem dX11_chained_23 : decode cX11_chained 23 = .ok (.iload_n 3, 1) := by decide +kernel
theorem dX11_chained_24 : decode cX11_chained 24 = .ok (.invokestatic 80, 3) := by decide +kernel
theorem dX11_chained_27 : decode cX11_chained 27 = .ok (.ifCond .eq 8, 3) := by decide +kernel
theorem dX11_chained_30 : decode cX11_chained 30 = .ok (.aload 5, 2) := by decide +kernel
theorem dX11_chained_32 : decode cX11_chained 32 = .ok (.ifnonnull 5, 3) := by decide +kernel
theorem dX11_chained_35 : decode cX11_chained 35 = .ok (.iconst (-1), 1) := by decide +kernel
theorem dX11_chained_36 : decode cX11_chained 36 = .ok (.ireturn, 1) := by decide +kernel
theorem dX11_chained_37 : decode cX11_chained 37 = .ok (.aload_n 0, 1) := by decide +kernel
theorem dX11_chained_38 : decode cX11_chained 38 = .ok (.getfield 12, 3) := by decide +kernel
theorem dX11_chained_41 : decode cX11_chained 41 = .ok (.new 95, 3) := by decide +kernel
theorem dX11_chained_44 : decode cX11_chained 44 = .ok (.dup, 1) := by decide +kernel
theorem dX11_chained_45 : decode cX11_chained 45 = .ok (.iload_n 1, 1) := by decide +kernel
theorem dX11_chained_46 : decode cX11_chained 46 = .ok (.iload_n 2, 1) := by decide +kernel
theorem dX11_chained_47 : decode cX11_chained 47 = .ok (.iload_n 3, 1) := by decide +kernel
theorem dX11_chained_48 : decode cX11_chained 48 = .ok (.iload 4, 2) := by decide +kernel
theorem dX11_chained_50 : decode cX11_chained 50 = .ok (.aload 5, 2) := by decide +kernel
theorem dX11_chained_52 : decode cX11_chained 52 = .ok (.getfield 97, 3) := by decide +kernel
theorem dX11_chained_55 : decode cX11_chained 55 = .ok (.invokespecial 102, 3) := by decide +kernel
theorem dX11_chained_58 : decode cX11_chained 58 = .ok (.invokevirtual 87, 3) := by decide +kernel
theorem dX11_chained_61 : decode cX11_chained 61 = .ok (.ireturn, 1) := by decide +kernel
theorem dX11_wake_0 : decode cX11_wake 0 = .ok (.aload_n 0, 1) := by decide +kernel
theorem dX11_wake_1 : decode cX11_wake 1 = .ok (.getfield 12, 3) := by decide +kernel
theorem dX11_wake_4 : decode cX11_wake 4 = .ok (.iload_n 1, 1) := by decide +kernel
theorem dX11_wake_5 : decode cX11_wake 5 = .ok (.invokevirtual 91, 3) := by decide +kernel
theorem dX11_wake_8 : decode cX11_wake 8 = .ok (.astore_n 3, 1) := by decide +kernel
theorem dX11_wake_9 : decode cX11_wake 9 = .ok (.aload_n 3, 1) := by decide +kernel
theorem dX11_wake_10 : decode cX11_wake 10 = .ok (.ifnonnull 5, 3) := by decide +kernel
theorem dX11_wake_13 : decode cX11_wake 13 = .ok (.iconst (-1), 1) := by decide +kernel
theorem dX11_wake_14 : decode cX11_wake 14 = .ok (.ireturn, 1) := by decide +kernel
theorem dX11_wake_15 : decode cX11_wake 15 = .ok (.aload_n 3, 1) := by decide +kernel
theorem dX11_wake_16 : decode cX11_wake 16 = .ok (.instanceof 105, 3) := by decide +kernel
theorem dX11_wake_19 : decode cX11_wake 19 = .ok (.ifCond .eq 28, 3) := by decide +kernel
theorem dX11_wake_22 : decode cX11_wake 22 = .ok (.aload_n 3, 1) := by decide +kernel
theorem dX11_wake_23 : decode cX11_wake 23 = .ok (.checkcast 105, 3) := by decide +kernel
theorem dX11_wake_26 : decode cX11_wake 26 = .ok (.astore 4, 2) := by decide +kernel
theorem dX11_wake_28 : decode cX11_wake 28 = .ok (.aload 4, 2) := by decide +kernel
theorem dX11_wake_30 : decode cX11_wake 30 = .ok (.getfield 107, 3) := by decide +kernel
theorem dX11_wake_33 : decode cX11_wake 33 = .ok (.istore 5, 2) := by decide +kernel
theorem dX11_wake_35 : decode cX11_wake 35 = .ok (.aload 4, 2) := by decide +kernel
theorem dX11_wake_37 : decode cX11_wake 37 = .ok (.iload_n 2, 1) := by decide +kernel
theorem dX11_wake_38 : decode cX11_wake 38 = .ok (.putfield 107, 3) := by decide +kernel
theorem dX11_wake_41 : decode cX11_wake 41 = .ok (.iload 5, 2) := by decide +kernel
theorem dX11_wake_43 : decode cX11_wake 43 = .ok (.invokestatic 69, 3) := by decide +kernel
theorem dX11_wake_46 : decode cX11_wake 46 = .ok (.ireturn, 1) := by decide +kernel
theorem dX11_wake_47 : decode cX11_wake 47 = .ok (.bipush (-13), 2) := by decide +kernel
theorem dX11_wake_49 : decode cX11_wake 49 = .ok (.ireturn, 1) := by decide +kernel
theorem dX11_chain_0 : decode cX11_chain 0 = .ok (.aload_n 0, 1) := by decide +kernel
theorem dX11_chain_1 : decode cX11_chain 1 = .ok (.getfield 12, 3) := by decide +kernel
theorem dX11_chain_4 : decode cX11_chain 4 = .ok (.iload_n 1, 1) := by decide +kernel
theorem dX11_chain_5 : decode cX11_chain 5 = .ok (.invokevirtual 91, 3) := by decide +kernel
theorem dX11_chain_8 : decode cX11_chain 8 = .ok (.astore_n 2, 1) := by decide +kernel
theorem dX11_chain_9 : decode cX11_chain 9 = .ok (.aload_n 2, 1) := by decide +kernel
theorem dX11_chain_10 : decode cX11_chain 10 = .ok (.ifnonnull 5, 3) := by decide +kernel
theorem dX11_chain_13 : decode cX11_chain 13 = .ok (.iconst (-1), 1) := by decide +kernel
theorem dX11_chain_14 : decode cX11_chain 14 = .ok (.ireturn, 1) := by decide +kernel
theorem dX11_chain_15 : decode cX11_chain 15 = .ok (.aload_n 2, 1) := by decide +kernel
theorem dX11_chain_16 : decode cX11_chain 16 = .ok (.instanceof 95, 3) := by decide +kernel
theorem dX11_chain_19 : decode cX11_chain 19 = .ok (.ifCond .eq 13, 3) := by decide +kernel
theorem dX11_chain_22 : decode cX11_chain 22 = .ok (.aload_n 2, 1) := by decide +kernel
theorem dX11_chain_23 : decode cX11_chain 23 = .ok (.checkcast 95, 3) := by decide +kernel
theorem dX11_chain_26 : decode cX11_chain 26 = .ok (.astore_n 3, 1) := by decide +kernel
theorem dX11_chain_27 : decode cX11_chain 27 = .ok (.aload_n 3, 1) := by decide +kernel
theorem dX11_chain_28 : decode cX11_chain 28 = .ok (.getfield 111, 3) := by decide +kernel
theorem dX11_chain_31 : decode cX11_chain 31 = .ok (.ireturn, 1) := by decide +kernel
theorem dX11_chain_32 : decode cX11_chain 32 = .ok (.bipush (-13), 2) := by decide +kernel
theorem dX11_chain_34 : decode cX11_chain 34 = .ok (.ireturn, 1) := by decide +kernel
theorem dX11_told_0 : decode cX11_told 0 = .ok (.aload_n 0, 1) := by decide +kernel
theorem dX11_told_1 : decode cX11_told 1 = .ok (.getfield 12, 3) := by decide +kernel
theorem dX11_told_4 : decode cX11_told 4 = .ok (.iload_n 1, 1) := by decide +kernel
theorem dX11_told_5 : decode cX11_told 5 = .ok (.invokevirtual 91, 3) := by decide +kernel
theorem dX11_told_8 : decode cX11_told 8 = .ok (.astore_n 3, 1) := by decide +kernel
theorem dX11_told_9 : decode cX11_told 9 = .ok (.aload_n 3, 1) := by decide +kernel
theorem dX11_told_10 : decode cX11_told 10 = .ok (.ifnonnull 5, 3) := by decide +kernel
theorem dX11_told_13 : decode cX11_told 13 = .ok (.iconst (-1), 1) := by decide +kernel
theorem dX11_told_14 : decode cX11_told 14 = .ok (.ireturn, 1) := by decide +kernel
theorem dX11_told_15 : decode cX11_told 15 = .ok (.iload_n 2, 1) := by decide +kernel
theorem dX11_told_16 : decode cX11_told 16 = .ok (.tableswitch 68 0 4 #[36, 41, 46, 51, 56], 36) := by decide +kernel
theorem dX11_told_52 : decode cX11_told 52 = .ok (.aload_n 3, 1) := by decide +kernel
theorem dX11_told_53 : decode cX11_told 53 = .ok (.invokevirtual 114, 3) := by decide +kernel
theorem dX11_told_56 : decode cX11_told 56 = .ok (.ireturn, 1) := by decide +kernel
theorem dX11_told_57 : decode cX11_told 57 = .ok (.aload_n 3, 1) := by decide +kernel
theorem dX11_told_58 : decode cX11_told 58 = .ok (.getfield 97, 3) := by decide +kernel
theorem dX11_told_61 : decode cX11_told 61 = .ok (.ireturn, 1) := by decide +kernel
theorem dX11_told_62 : decode cX11_told 62 = .ok (.aload_n 3, 1) := by decide +kernel
theorem dX11_told_63 : decode cX11_told 63 = .ok (.getfield 118, 3) := by decide +kernel
theorem dX11_told_66 : decode cX11_told 66 = .ok (.ireturn, 1) := by decide +kernel
theorem dX11_told_67 : decode cX11_told 67 = .ok (.aload_n 3, 1) := by decide +kernel
theorem dX11_told_68 : decode cX11_told 68 = .ok (.getfield 121, 3) := by decide +kernel
theorem dX11_told_71 : decode cX11_told 71 = .ok (.ireturn, 1) := by decide +kernel
theorem dX11_told_72 : decode cX11_told 72 = .ok (.aload_n 0, 1) := by decide +kernel
theorem dX11_told_73 : decode cX11_told 73 = .ok (.getfield 12, 3) := by decide +kernel
theorem dX11_told_76 : decode cX11_told 76 = .ok (.aload_n 3, 1) := by decide +kernel
theorem dX11_told_77 : decode cX11_told 77 = .ok (.invokevirtual 124, 3) := by decide +kernel
theorem dX11_told_80 : decode cX11_told 80 = .ok (.invokestatic 69, 3) := by decide +kernel
theorem dX11_told_83 : decode cX11_told 83 = .ok (.ireturn, 1) := by decide +kernel
theorem dX11_told_84 : decode cX11_told 84 = .ok (.iconst (-1), 1) := by decide +kernel
theorem dX11_told_85 : decode cX11_told 85 = .ok (.ireturn, 1) := by decide +kernel
theorem dX11_risk_0 : decode cX11_risk 0 = .ok (.aload_n 0, 1) := by decide +kernel
theorem dX11_risk_1 : decode cX11_risk 1 = .ok (.invokevirtual 128, 3) := by decide +kernel
theorem dX11_risk_4 : decode cX11_risk 4 = .ok (.ireturn, 1) := by decide +kernel
theorem dX11_taken_0 : decode cX11_taken 0 = .ok (.aload_n 0, 1) := by decide +kernel
theorem dX11_taken_1 : decode cX11_taken 1 = .ok (.invokevirtual 128, 3) := by decide +kernel
theorem dX11_taken_4 : decode cX11_taken 4 = .ok (.pop, 1) := by decide +kernel
theorem dX11_taken_5 : decode cX11_taken 5 = .ok (.aload_n 0, 1) := by decide +kernel
theorem dX11_taken_6 : decode cX11_taken 6 = .ok (.getfield 21, 3) := by decide +kernel
theorem dX11_taken_9 : decode cX11_taken 9 = .ok (.getfield 131, 3) := by decide +kernel
theorem dX11_taken_12 : decode cX11_taken 12 = .ok (.ireturn, 1) := by decide +kernel
theorem dX11_way_0 : decode cX11_way 0 = .ok (.aload_n 0, 1) := by decide +kernel
theorem dX11_way_1 : decode cX11_way 1 = .ok (.getfield 12, 3) := by decide +kernel
theorem dX11_way_4 : decode cX11_way 4 = .ok (.iload_n 1, 1) := by decide +kernel
theorem dX11_way_5 : decode cX11_way 5 = .ok (.invokevirtual 55, 3) := by decide +kernel
theorem dX11_way_8 : decode cX11_way 8 = .ok (.ifCond .eq 12, 3) := by decide +kernel
theorem dX11_way_11 : decode cX11_way 11 = .ok (.iload_n 2, 1) := by decide +kernel
theorem dX11_way_12 : decode cX11_way 12 = .ok (.iconst 0, 1) := by decide +kernel
theorem dX11_way_13 : decode cX11_way 13 = .ok (.iconst 2, 1) := by decide +kernel
theorem dX11_way_14 : decode cX11_way 14 = .ok (.invokestatic 47, 3) := by decide +kernel
theorem dX11_way_17 : decode cX11_way 17 = .ok (.ifCond .ne 5, 3) := by decide +kernel
theorem dX11_way_20 : decode cX11_way 20 = .ok (.iconst (-1), 1) := by decide +kernel
theorem dX11_way_21 : decode cX11_way 21 = .ok (.ireturn, 1) := by decide +kernel
theorem dX11_way_22 : decode cX11_way 22 = .ok (.aload_n 0, 1) := by decide +kernel
theorem dX11_way_23 : decode cX11_way 23 = .ok (.invokevirtual 128, 3) := by decide +kernel
theorem dX11_way_26 : decode cX11_way 26 = .ok (.pop, 1) := by decide +kernel
theorem dX11_way_27 : decode cX11_way 27 = .ok (.aload_n 0, 1) := by decide +kernel
theorem dX11_way_28 : decode cX11_way 28 = .ok (.getfield 21, 3) := by decide +kernel
theorem dX11_way_31 : decode cX11_way 31 = .ok (.getfield 131, 3) := by decide +kernel
theorem dX11_way_34 : decode cX11_way 34 = .ok (.iload_n 1, 1) := by decide +kernel
theorem dX11_way_35 : decode cX11_way 35 = .ok (.invokestatic 65, 3) := by decide +kernel
theorem dX11_way_38 : decode cX11_way 38 = .ok (.ifCond .ne 6, 3) := by decide +kernel
theorem dX11_way_41 : decode cX11_way 41 = .ok (.bipush (-4), 2) := by decide +kernel
theorem dX11_way_43 : decode cX11_way 43 = .ok (.ireturn, 1) := by decide +kernel
theorem dX11_way_44 : decode cX11_way 44 = .ok (.iload_n 2, 1) := by decide +kernel
theorem dX11_way_45 : decode cX11_way 45 = .ok (.lookupswitch 47 #[(0, 27), (1, 37)], 27) := by decide +kernel
theorem dX11_way_72 : decode cX11_way 72 = .ok (.aload_n 0, 1) := by decide +kernel
theorem dX11_way_73 : decode cX11_way 73 = .ok (.getfield 21, 3) := by decide +kernel
theorem dX11_way_76 : decode cX11_way 76 = .ok (.getfield 134, 3) := by decide +kernel
theorem dX11_way_79 : decode cX11_way 79 = .ok (.iload_n 1, 1) := by decide +kernel
theorem dX11_way_80 : decode cX11_way 80 = .ok (.iaload, 1) := by decide +kernel
theorem dX11_way_81 : decode cX11_way 81 = .ok (.ireturn, 1) := by decide +kernel
theorem dX11_way_82 : decode cX11_way 82 = .ok (.aload_n 0, 1) := by decide +kernel
theorem dX11_way_83 : decode cX11_way 83 = .ok (.getfield 21, 3) := by decide +kernel
theorem dX11_way_86 : decode cX11_way 86 = .ok (.getfield 137, 3) := by decide +kernel
theorem dX11_way_89 : decode cX11_way 89 = .ok (.iload_n 1, 1) := by decide +kernel
theorem dX11_way_90 : decode cX11_way 90 = .ok (.iaload, 1) := by decide +kernel
theorem dX11_way_91 : decode cX11_way 91 = .ok (.ireturn, 1) := by decide +kernel
theorem dX11_way_92 : decode cX11_way 92 = .ok (.aload_n 0, 1) := by decide +kernel
theorem dX11_way_93 : decode cX11_way 93 = .ok (.getfield 21, 3) := by decide +kernel
theorem dX11_way_96 : decode cX11_way 96 = .ok (.getfield 140, 3) := by decide +kernel
theorem dX11_way_99 : decode cX11_way 99 = .ok (.iload_n 1, 1) := by decide +kernel
theorem dX11_way_100 : decode cX11_way 100 = .ok (.iaload, 1) := by decide +kernel
theorem dX11_way_101 : decode cX11_way 101 = .ok (.ireturn, 1) := by decide +kernel
theorem dX11_bestGuard_0 : decode cX11_bestGuard 0 = .ok (.bipush (-4), 2) := by decide +kernel
theorem dX11_bestGuard_2 : decode cX11_bestGuard 2 = .ok (.istore_n 1, 1) := by decide +kernel
theorem dX11_bestGuard_3 : decode cX11_bestGuard 3 = .ok (.aload_n 0, 1) := by decide +kernel
theorem dX11_bestGuard_4 : decode cX11_bestGuard 4 = .ok (.invokevirtual 128, 3) := by decide +kernel
theorem dX11_bestGuard_7 : decode cX11_bestGuard 7 = .ok (.istore_n 2, 1) := by decide +kernel
theorem dX11_bestGuard_8 : decode cX11_bestGuard 8 = .ok (.iconst 0, 1) := by decide +kernel
theorem dX11_bestGuard_9 : decode cX11_bestGuard 9 = .ok (.istore_n 3, 1) := by decide +kernel
theorem dX11_bestGuard_10 : decode cX11_bestGuard 10 = .ok (.iload_n 3, 1) := by decide +kernel
theorem dX11_bestGuard_11 : decode cX11_bestGuard 11 = .ok (.aload_n 0, 1) := by decide +kernel
theorem dX11_bestGuard_12 : decode cX11_bestGuard 12 = .ok (.getfield 12, 3) := by decide +kernel
theorem dX11_bestGuard_15 : decode cX11_bestGuard 15 = .ok (.getfield 143, 3) := by decide +kernel
theorem dX11_bestGuard_18 : decode cX11_bestGuard 18 = .ok (.if_icmp .ge 65, 3) := by decide +kernel
theorem dX11_bestGuard_21 : decode cX11_bestGuard 21 = .ok (.aload_n 0, 1) := by decide +kernel
theorem dX11_bestGuard_22 : decode cX11_bestGuard 22 = .ok (.getfield 12, 3) := by decide +kernel
theorem dX11_bestGuard_25 : decode cX11_bestGuard 25 = .ok (.getfield 73, 3) := by decide +kernel
theorem dX11_bestGuard_28 : decode cX11_bestGuard 28 = .ok (.iload_n 3, 1) := by decide +kernel
theorem dX11_bestGuard_29 : decode cX11_bestGuard 29 = .ok (.invokestatic 65, 3) := by decide +kernel
theorem dX11_bestGuard_32 : decode cX11_bestGuard 32 = .ok (.ifCond .eq 6, 3) := by decide +kernel
theorem dX11_bestGuard_35 : decode cX11_bestGuard 35 = .ok (.goto 42, 3) := by decide +kernel
theorem dX11_bestGuard_38 : decode cX11_bestGuard 38 = .ok (.aload_n 0, 1) := by decide +kernel
theorem dX11_bestGuard_39 : decode cX11_bestGuard 39 = .ok (.getfield 21, 3) := by decide +kernel
theorem dX11_bestGuard_42 : decode cX11_bestGuard 42 = .ok (.aload_n 0, 1) := by decide +kernel
theorem dX11_bestGuard_43 : decode cX11_bestGuard 43 = .ok (.getfield 12, 3) := by decide +kernel
theorem dX11_bestGuard_46 : decode cX11_bestGuard 46 = .ok (.getfield 77, 3) := by decide +kernel
theorem dX11_bestGuard_49 : decode cX11_bestGuard 49 = .ok (.aload_n 0, 1) := by decide +kernel
theorem dX11_bestGuard_50 : decode cX11_bestGuard 50 = .ok (.getfield 12, 3) := by decide +kernel
theorem dX11_bestGuard_53 : decode cX11_bestGuard 53 = .ok (.getfield 73, 3) := by decide +kernel
theorem dX11_bestGuard_56 : decode cX11_bestGuard 56 = .ok (.iload_n 3, 1) := by decide +kernel
theorem dX11_bestGuard_57 : decode cX11_bestGuard 57 = .ok (.invokestatic 146, 3) := by decide +kernel
theorem dX11_bestGuard_60 : decode cX11_bestGuard 60 = .ok (.ior, 1) := by decide +kernel
theorem dX11_bestGuard_61 : decode cX11_bestGuard 61 = .ok (.invokevirtual 150, 3) := by decide +kernel
theorem dX11_bestGuard_64 : decode cX11_bestGuard 64 = .ok (.istore 4, 2) := by decide +kernel
theorem dX11_bestGuard_66 : decode cX11_bestGuard 66 = .ok (.iload 4, 2) := by decide +kernel
theorem dX11_bestGuard_68 : decode cX11_bestGuard 68 = .ok (.iload_n 2, 1) := by decide +kernel
theorem dX11_bestGuard_69 : decode cX11_bestGuard 69 = .ok (.if_icmp .ge 8, 3) := by decide +kernel

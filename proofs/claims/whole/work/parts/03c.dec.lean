theorem dX12_mend_123 : decode cX12_mend 123 = .ok (.aload_n 0, 1) := by decide +kernel
theorem dX12_mend_124 : decode cX12_mend 124 = .ok (.getfield 71, 3) := by decide +kernel
theorem dX12_mend_127 : decode cX12_mend 127 = .ok (.aload_n 0, 1) := by decide +kernel
theorem dX12_mend_128 : decode cX12_mend 128 = .ok (.getfield 123, 3) := by decide +kernel
theorem dX12_mend_131 : decode cX12_mend 131 = .ok (.iload 6, 2) := by decide +kernel
theorem dX12_mend_133 : decode cX12_mend 133 = .ok (.iastore, 1) := by decide +kernel
theorem dX12_mend_134 : decode cX12_mend 134 = .ok (.aload_n 0, 1) := by decide +kernel
theorem dX12_mend_135 : decode cX12_mend 135 = .ok (.dup, 1) := by decide +kernel
theorem dX12_mend_136 : decode cX12_mend 136 = .ok (.getfield 123, 3) := by decide +kernel
theorem dX12_mend_139 : decode cX12_mend 139 = .ok (.iconst 1, 1) := by decide +kernel
theorem dX12_mend_140 : decode cX12_mend 140 = .ok (.iadd, 1) := by decide +kernel
theorem dX12_mend_141 : decode cX12_mend 141 = .ok (.putfield 123, 3) := by decide +kernel
theorem dX12_mend_144 : decode cX12_mend 144 = .ok (.aload_n 0, 1) := by decide +kernel
theorem dX12_mend_145 : decode cX12_mend 145 = .ok (.getfield 123, 3) := by decide +kernel
theorem dX12_mend_148 : decode cX12_mend 148 = .ok (.iconst 1, 1) := by decide +kernel
theorem dX12_mend_149 : decode cX12_mend 149 = .ok (.isub, 1) := by decide +kernel
theorem dX12_mend_150 : decode cX12_mend 150 = .ok (.ireturn, 1) := by decide +kernel
theorem dX12_quarrel_0 : decode cX12_quarrel 0 = .ok (.aload_n 0, 1) := by decide +kernel
theorem dX12_quarrel_1 : decode cX12_quarrel 1 = .ok (.iload_n 1, 1) := by decide +kernel
theorem dX12_quarrel_2 : decode cX12_quarrel 2 = .ok (.invokevirtual 107, 3) := by decide +kernel
theorem dX12_quarrel_5 : decode cX12_quarrel 5 = .ok (.ifCond .eq 31, 3) := by decide +kernel
theorem dX12_quarrel_8 : decode cX12_quarrel 8 = .ok (.aload_n 0, 1) := by decide +kernel
theorem dX12_quarrel_9 : decode cX12_quarrel 9 = .ok (.iload_n 3, 1) := by decide +kernel
theorem dX12_quarrel_10 : decode cX12_quarrel 10 = .ok (.invokevirtual 107, 3) := by decide +kernel
theorem dX12_quarrel_13 : decode cX12_quarrel 13 = .ok (.ifCond .eq 23, 3) := by decide +kernel
theorem dX12_quarrel_16 : decode cX12_quarrel 16 = .ok (.iload_n 1, 1) := by decide +kernel
theorem dX12_quarrel_17 : decode cX12_quarrel 17 = .ok (.iload_n 3, 1) := by decide +kernel
theorem dX12_quarrel_18 : decode cX12_quarrel 18 = .ok (.if_icmp .eq 18, 3) := by decide +kernel
theorem dX12_quarrel_21 : decode cX12_quarrel 21 = .ok (.iload_n 2, 1) := by decide +kernel
theorem dX12_quarrel_22 : decode cX12_quarrel 22 = .ok (.invokestatic 103, 3) := by decide +kernel
theorem dX12_quarrel_25 : decode cX12_quarrel 25 = .ok (.ifCond .eq 11, 3) := by decide +kernel
theorem dX12_quarrel_28 : decode cX12_quarrel 28 = .ok (.iload 4, 2) := by decide +kernel
theorem dX12_quarrel_30 : decode cX12_quarrel 30 = .ok (.invokestatic 103, 3) := by decide +kernel
theorem dX12_quarrel_33 : decode cX12_quarrel 33 = .ok (.ifCond .ne 5, 3) := by decide +kernel
theorem dX12_quarrel_36 : decode cX12_quarrel 36 = .ok (.iconst (-1), 1) := by decide +kernel
theorem dX12_quarrel_37 : decode cX12_quarrel 37 = .ok (.ireturn, 1) := by decide +kernel
theorem dX12_quarrel_38 : decode cX12_quarrel 38 = .ok (.aload_n 0, 1) := by decide +kernel
theorem dX12_quarrel_39 : decode cX12_quarrel 39 = .ok (.getfield 152, 3) := by decide +kernel
theorem dX12_quarrel_42 : decode cX12_quarrel 42 = .ok (.bipush 8, 2) := by decide +kernel
theorem dX12_quarrel_44 : decode cX12_quarrel 44 = .ok (.if_icmp .ne 6, 3) := by decide +kernel
theorem dX12_quarrel_47 : decode cX12_quarrel 47 = .ok (.bipush (-3), 2) := by decide +kernel
theorem dX12_quarrel_49 : decode cX12_quarrel 49 = .ok (.ireturn, 1) := by decide +kernel
theorem dX12_quarrel_50 : decode cX12_quarrel 50 = .ok (.aload_n 0, 1) := by decide +kernel
theorem dX12_quarrel_51 : decode cX12_quarrel 51 = .ok (.getfield 74, 3) := by decide +kernel
theorem dX12_quarrel_54 : decode cX12_quarrel 54 = .ok (.iconst 4, 1) := by decide +kernel
theorem dX12_quarrel_55 : decode cX12_quarrel 55 = .ok (.aload_n 0, 1) := by decide +kernel
theorem dX12_quarrel_56 : decode cX12_quarrel 56 = .ok (.getfield 152, 3) := by decide +kernel
theorem dX12_quarrel_59 : decode cX12_quarrel 59 = .ok (.imul, 1) := by decide +kernel
theorem dX12_quarrel_60 : decode cX12_quarrel 60 = .ok (.iload_n 1, 1) := by decide +kernel
theorem dX12_quarrel_61 : decode cX12_quarrel 61 = .ok (.iastore, 1) := by decide +kernel
theorem dX12_quarrel_62 : decode cX12_quarrel 62 = .ok (.aload_n 0, 1) := by decide +kernel
theorem dX12_quarrel_63 : decode cX12_quarrel 63 = .ok (.getfield 74, 3) := by decide +kernel
theorem dX12_quarrel_66 : decode cX12_quarrel 66 = .ok (.iconst 4, 1) := by decide +kernel
theorem dX12_quarrel_67 : decode cX12_quarrel 67 = .ok (.aload_n 0, 1) := by decide +kernel
theorem dX12_quarrel_68 : decode cX12_quarrel 68 = .ok (.getfield 152, 3) := by decide +kernel
theorem dX12_quarrel_71 : decode cX12_quarrel 71 = .ok (.imul, 1) := by decide +kernel
theorem dX12_quarrel_72 : decode cX12_quarrel 72 = .ok (.iconst 1, 1) := by decide +kernel
theorem dX12_quarrel_73 : decode cX12_quarrel 73 = .ok (.iadd, 1) := by decide +kernel
theorem dX12_quarrel_74 : decode cX12_quarrel 74 = .ok (.iload_n 2, 1) := by decide +kernel
theorem dX12_quarrel_75 : decode cX12_quarrel 75 = .ok (.iastore, 1) := by decide +kernel
theorem dX12_quarrel_76 : decode cX12_quarrel 76 = .ok (.aload_n 0, 1) := by decide +kernel
theorem dX12_quarrel_77 : decode cX12_quarrel 77 = .ok (.getfield 74, 3) := by decide +kernel
theorem dX12_quarrel_80 : decode cX12_quarrel 80 = .ok (.iconst 4, 1) := by decide +kernel
theorem dX12_quarrel_81 : decode cX12_quarrel 81 = .ok (.aload_n 0, 1) := by decide +kernel
theorem dX12_quarrel_82 : decode cX12_quarrel 82 = .ok (.getfield 152, 3) := by decide +kernel
theorem dX12_quarrel_85 : decode cX12_quarrel 85 = .ok (.imul, 1) := by decide +kernel
theorem dX12_quarrel_86 : decode cX12_quarrel 86 = .ok (.iconst 2, 1) := by decide +kernel
theorem dX12_quarrel_87 : decode cX12_quarrel 87 = .ok (.iadd, 1) := by decide +kernel
theorem dX12_quarrel_88 : decode cX12_quarrel 88 = .ok (.iload_n 3, 1) := by decide +kernel
theorem dX12_quarrel_89 : decode cX12_quarrel 89 = .ok (.iastore, 1) := by decide +kernel
theorem dX12_quarrel_90 : decode cX12_quarrel 90 = .ok (.aload_n 0, 1) := by decide +kernel
theorem dX12_quarrel_91 : decode cX12_quarrel 91 = .ok (.getfield 74, 3) := by decide +kernel
theorem dX12_quarrel_94 : decode cX12_quarrel 94 = .ok (.iconst 4, 1) := by decide +kernel
theorem dX12_quarrel_95 : decode cX12_quarrel 95 = .ok (.aload_n 0, 1) := by decide +kernel
theorem dX12_quarrel_96 : decode cX12_quarrel 96 = .ok (.getfield 152, 3) := by decide +kernel
theorem dX12_quarrel_99 : decode cX12_quarrel 99 = .ok (.imul, 1) := by decide +kernel
theorem dX12_quarrel_100 : decode cX12_quarrel 100 = .ok (.iconst 3, 1) := by decide +kernel
theorem dX12_quarrel_101 : decode cX12_quarrel 101 = .ok (.iadd, 1) := by decide +kernel
theorem dX12_quarrel_102 : decode cX12_quarrel 102 = .ok (.iload 4, 2) := by decide +kernel
theorem dX12_quarrel_104 : decode cX12_quarrel 104 = .ok (.iastore, 1) := by decide +kernel
theorem dX12_quarrel_105 : decode cX12_quarrel 105 = .ok (.aload_n 0, 1) := by decide +kernel
theorem dX12_quarrel_106 : decode cX12_quarrel 106 = .ok (.dup, 1) := by decide +kernel
theorem dX12_quarrel_107 : decode cX12_quarrel 107 = .ok (.getfield 152, 3) := by decide +kernel
theorem dX12_quarrel_110 : decode cX12_quarrel 110 = .ok (.iconst 1, 1) := by decide +kernel
theorem dX12_quarrel_111 : decode cX12_quarrel 111 = .ok (.iadd, 1) := by decide +kernel
theorem dX12_quarrel_112 : decode cX12_quarrel 112 = .ok (.putfield 152, 3) := by decide +kernel
theorem dX12_quarrel_115 : decode cX12_quarrel 115 = .ok (.aload_n 0, 1) := by decide +kernel
theorem dX12_quarrel_116 : decode cX12_quarrel 116 = .ok (.getfield 152, 3) := by decide +kernel
theorem dX12_quarrel_119 : decode cX12_quarrel 119 = .ok (.ireturn, 1) := by decide +kernel
theorem dX12_isSet_0 : decode cX12_isSet 0 = .ok (.iload_n 1, 1) := by decide +kernel
theorem dX12_isSet_1 : decode cX12_isSet 1 = .ok (.iconst 0, 1) := by decide +kernel
theorem dX12_isSet_2 : decode cX12_isSet 2 = .ok (.iconst 1, 1) := by decide +kernel
theorem dX12_isSet_3 : decode cX12_isSet 3 = .ok (.aload_n 0, 1) := by decide +kernel
theorem dX12_isSet_4 : decode cX12_isSet 4 = .ok (.getfield 123, 3) := by decide +kernel
theorem dX12_isSet_7 : decode cX12_isSet 7 = .ok (.ishl, 1) := by decide +kernel
theorem dX12_isSet_8 : decode cX12_isSet 8 = .ok (.iconst 1, 1) := by decide +kernel
theorem dX12_isSet_9 : decode cX12_isSet 9 = .ok (.isub, 1) := by decide +kernel
theorem dX12_isSet_10 : decode cX12_isSet 10 = .ok (.invokestatic 99, 3) := by decide +kernel
theorem dX12_isSet_13 : decode cX12_isSet 13 = .ok (.ireturn, 1) := by decide +kernel
theorem dX12_isQuarrelling_0 : decode cX12_isQuarrelling 0 = .ok (.iconst 0, 1) := by decide +kernel
theorem dX12_isQuarrelling_1 : decode cX12_isQuarrelling 1 = .ok (.istore_n 1, 1) := by decide +kernel
theorem dX12_isQuarrelling_2 : decode cX12_isQuarrelling 2 = .ok (.iconst 0, 1) := by decide +kernel
theorem dX12_isQuarrelling_3 : decode cX12_isQuarrelling 3 = .ok (.istore_n 2, 1) := by decide +kernel
theorem dX12_isQuarrelling_4 : decode cX12_isQuarrelling 4 = .ok (.iload_n 2, 1) := by decide +kernel
theorem dX12_isQuarrelling_5 : decode cX12_isQuarrelling 5 = .ok (.aload_n 0, 1) := by decide +kernel
theorem dX12_isQuarrelling_6 : decode cX12_isQuarrelling 6 = .ok (.getfield 152, 3) := by decide +kernel
theorem dX12_isQuarrelling_9 : decode cX12_isQuarrelling 9 = .ok (.if_icmp .ge 73, 3) := by decide +kernel
theorem dX12_isQuarrelling_12 : decode cX12_isQuarrelling 12 = .ok (.iload_n 1, 1) := by decide +kernel
theorem dX12_isQuarrelling_13 : decode cX12_isQuarrelling 13 = .ok (.ifCond .ne 57, 3) := by decide +kernel
theorem dX12_isQuarrelling_16 : decode cX12_isQuarrelling 16 = .ok (.aload_n 0, 1) := by decide +kernel
theorem dX12_isQuarrelling_17 : decode cX12_isQuarrelling 17 = .ok (.getfield 44, 3) := by decide +kernel
theorem dX12_isQuarrelling_20 : decode cX12_isQuarrelling 20 = .ok (.aload_n 0, 1) := by decide +kernel
theorem dX12_isQuarrelling_21 : decode cX12_isQuarrelling 21 = .ok (.getfield 74, 3) := by decide +kernel
theorem dX12_isQuarrelling_24 : decode cX12_isQuarrelling 24 = .ok (.iconst 4, 1) := by decide +kernel
theorem dX12_isQuarrelling_25 : decode cX12_isQuarrelling 25 = .ok (.iload_n 2, 1) := by decide +kernel
theorem dX12_isQuarrelling_26 : decode cX12_isQuarrelling 26 = .ok (.imul, 1) := by decide +kernel
theorem dX12_isQuarrelling_27 : decode cX12_isQuarrelling 27 = .ok (.iaload, 1) := by decide +kernel
theorem dX12_isQuarrelling_28 : decode cX12_isQuarrelling 28 = .ok (.iaload, 1) := by decide +kernel
theorem dX12_isQuarrelling_29 : decode cX12_isQuarrelling 29 = .ok (.aload_n 0, 1) := by decide +kernel
theorem dX12_isQuarrelling_30 : decode cX12_isQuarrelling 30 = .ok (.getfield 74, 3) := by decide +kernel
theorem dX12_isQuarrelling_33 : decode cX12_isQuarrelling 33 = .ok (.iconst 4, 1) := by decide +kernel
theorem dX12_isQuarrelling_34 : decode cX12_isQuarrelling 34 = .ok (.iload_n 2, 1) := by decide +kernel
theorem dX12_isQuarrelling_35 : decode cX12_isQuarrelling 35 = .ok (.imul, 1) := by decide +kernel
theorem dX12_isQuarrelling_36 : decode cX12_isQuarrelling 36 = .ok (.iconst 1, 1) := by decide +kernel
theorem dX12_isQuarrelling_37 : decode cX12_isQuarrelling 37 = .ok (.iadd, 1) := by decide +kernel
theorem dX12_isQuarrelling_38 : decode cX12_isQuarrelling 38 = .ok (.iaload, 1) := by decide +kernel
theorem dX12_isQuarrelling_39 : decode cX12_isQuarrelling 39 = .ok (.if_icmp .ne 35, 3) := by decide +kernel
theorem dX12_isQuarrelling_42 : decode cX12_isQuarrelling 42 = .ok (.aload_n 0, 1) := by decide +kernel
theorem dX12_isQuarrelling_43 : decode cX12_isQuarrelling 43 = .ok (.getfield 44, 3) := by decide +kernel
theorem dX12_isQuarrelling_46 : decode cX12_isQuarrelling 46 = .ok (.aload_n 0, 1) := by decide +kernel
theorem dX12_isQuarrelling_47 : decode cX12_isQuarrelling 47 = .ok (.getfield 74, 3) := by decide +kernel
theorem dX12_isQuarrelling_50 : decode cX12_isQuarrelling 50 = .ok (.iconst 4, 1) := by decide +kernel
theorem dX12_isQuarrelling_51 : decode cX12_isQuarrelling 51 = .ok (.iload_n 2, 1) := by decide +kernel
theorem dX12_isQuarrelling_52 : decode cX12_isQuarrelling 52 = .ok (.imul, 1) := by decide +kernel
theorem dX12_isQuarrelling_53 : decode cX12_isQuarrelling 53 = .ok (.iconst 2, 1) := by decide +kernel
theorem dX12_isQuarrelling_54 : decode cX12_isQuarrelling 54 = .ok (.iadd, 1) := by decide +kernel
theorem dX12_isQuarrelling_55 : decode cX12_isQuarrelling 55 = .ok (.iaload, 1) := by decide +kernel
theorem dX12_isQuarrelling_56 : decode cX12_isQuarrelling 56 = .ok (.iaload, 1) := by decide +kernel
theorem dX12_isQuarrelling_57 : decode cX12_isQuarrelling 57 = .ok (.aload_n 0, 1) := by decide +kernel
theorem dX12_isQuarrelling_58 : decode cX12_isQuarrelling 58 = .ok (.getfield 74, 3) := by decide +kernel
theorem dX12_isQuarrelling_61 : decode cX12_isQuarrelling 61 = .ok (.iconst 4, 1) := by decide +kernel
theorem dX12_isQuarrelling_62 : decode cX12_isQuarrelling 62 = .ok (.iload_n 2, 1) := by decide +kernel
theorem dX12_isQuarrelling_63 : decode cX12_isQuarrelling 63 = .ok (.imul, 1) := by decide +kernel
theorem dX12_isQuarrelling_64 : decode cX12_isQuarrelling 64 = .ok (.iconst 3, 1) := by decide +kernel
theorem dX12_isQuarrelling_65 : decode cX12_isQuarrelling 65 = .ok (.iadd, 1) := by decide +kernel
theorem dX12_isQuarrelling_66 : decode cX12_isQuarrelling 66 = .ok (.iaload, 1) := by decide +kernel
theorem dX12_isQuarrelling_67 : decode cX12_isQuarrelling 67 = .ok (.if_icmp .ne 7, 3) := by decide +kernel
theorem dX12_isQuarrelling_70 : decode cX12_isQuarrelling 70 = .ok (.iconst 1, 1) := by decide +kernel
theorem dX12_isQuarrelling_71 : decode cX12_isQuarrelling 71 = .ok (.goto 4, 3) := by decide +kernel
theorem dX12_isQuarrelling_74 : decode cX12_isQuarrelling 74 = .ok (.iconst 0, 1) := by decide +kernel
theorem dX12_isQuarrelling_75 : decode cX12_isQuarrelling 75 = .ok (.istore_n 1, 1) := by decide +kernel
theorem dX12_isQuarrelling_76 : decode cX12_isQuarrelling 76 = .ok (.iinc 2 1, 3) := by decide +kernel
theorem dX12_isQuarrelling_79 : decode cX12_isQuarrelling 79 = .ok (.goto (-75), 3) := by decide +kernel
theorem dX12_isQuarrelling_82 : decode cX12_isQuarrelling 82 = .ok (.iload_n 1, 1) := by decide +kernel
theorem dX12_isQuarrelling_83 : decode cX12_isQuarrelling 83 = .ok (.ireturn, 1) := by decide +kernel
theorem dX12_isSound_0 : decode cX12_isSound 0 = .ok (.iconst 0, 1) := by decide +kernel
theorem dX12_isSound_1 : decode cX12_isSound 1 = .ok (.istore_n 2, 1) := by decide +kernel
theorem dX12_isSound_2 : decode cX12_isSound 2 = .ok (.iload_n 2, 1) := by decide +kernel
theorem dX12_isSound_3 : decode cX12_isSound 3 = .ok (.aload_n 0, 1) := by decide +kernel
theorem dX12_isSound_4 : decode cX12_isSound 4 = .ok (.getfield 123, 3) := by decide +kernel
theorem dX12_isSound_7 : decode cX12_isSound 7 = .ok (.if_icmp .ge 42, 3) := by decide +kernel
theorem dX12_isSound_10 : decode cX12_isSound 10 = .ok (.iload_n 1, 1) := by decide +kernel
theorem dX12_isSound_11 : decode cX12_isSound 11 = .ok (.iload_n 2, 1) := by decide +kernel
theorem dX12_isSound_12 : decode cX12_isSound 12 = .ok (.ishr, 1) := by decide +kernel
theorem dX12_isSound_13 : decode cX12_isSound 13 = .ok (.iconst 1, 1) := by decide +kernel
theorem dX12_isSound_14 : decode cX12_isSound 14 = .ok (.iand, 1) := by decide +kernel
theorem dX12_isSound_15 : decode cX12_isSound 15 = .ok (.iconst 1, 1) := by decide +kernel
theorem dX12_isSound_16 : decode cX12_isSound 16 = .ok (.if_icmp .ne 27, 3) := by decide +kernel
theorem dX12_isSound_19 : decode cX12_isSound 19 = .ok (.aload_n 0, 1) := by decide +kernel
theorem dX12_isSound_20 : decode cX12_isSound 20 = .ok (.getfield 65, 3) := by decide +kernel
theorem dX12_isSound_23 : decode cX12_isSound 23 = .ok (.iload_n 2, 1) := by decide +kernel
theorem dX12_isSound_24 : decode cX12_isSound 24 = .ok (.iaload, 1) := by decide +kernel
theorem dX12_isSound_25 : decode cX12_isSound 25 = .ok (.ifCond .lt 18, 3) := by decide +kernel
theorem dX12_isSound_28 : decode cX12_isSound 28 = .ok (.iload_n 1, 1) := by decide +kernel
theorem dX12_isSound_29 : decode cX12_isSound 29 = .ok (.aload_n 0, 1) := by decide +kernel
theorem dX12_isSound_30 : decode cX12_isSound 30 = .ok (.getfield 65, 3) := by decide +kernel
theorem dX12_isSound_33 : decode cX12_isSound 33 = .ok (.iload_n 2, 1) := by decide +kernel
theorem dX12_isSound_34 : decode cX12_isSound 34 = .ok (.iaload, 1) := by decide +kernel
theorem dX12_isSound_35 : decode cX12_isSound 35 = .ok (.ishr, 1) := by decide +kernel
theorem dX12_isSound_36 : decode cX12_isSound 36 = .ok (.iconst 1, 1) := by decide +kernel
theorem dX12_isSound_37 : decode cX12_isSound 37 = .ok (.iand, 1) := by decide +kernel
theorem dX12_isSound_38 : decode cX12_isSound 38 = .ok (.ifCond .ne 5, 3) := by decide +kernel
theorem dX12_isSound_41 : decode cX12_isSound 41 = .ok (.iconst 0, 1) := by decide +kernel
theorem dX12_isSound_42 : decode cX12_isSound 42 = .ok (.ireturn, 1) := by decide +kernel
theorem dX12_isSound_43 : decode cX12_isSound 43 = .ok (.iinc 2 1, 3) := by decide +kernel
theorem dX12_isSound_46 : decode cX12_isSound 46 = .ok (.goto (-44), 3) := by decide +kernel
theorem dX12_isSound_49 : decode cX12_isSound 49 = .ok (.aload_n 0, 1) := by decide +kernel
theorem dX12_isSound_50 : decode cX12_isSound 50 = .ok (.iload_n 1, 1) := by decide +kernel
theorem dX12_isSound_51 : decode cX12_isSound 51 = .ok (.invokevirtual 140, 3) := by decide +kernel
theorem dX12_isSound_54 : decode cX12_isSound 54 = .ok (.aload_n 0, 1) := by decide +kernel
theorem dX12_isSound_55 : decode cX12_isSound 55 = .ok (.invokevirtual 155, 3) := by decide +kernel
theorem dX12_isSound_58 : decode cX12_isSound 58 = .ok (.ifCond .ne 7, 3) := by decide +kernel
theorem dX12_isSound_61 : decode cX12_isSound 61 = .ok (.iconst 1, 1) := by decide +kernel
theorem dX12_isSound_62 : decode cX12_isSound 62 = .ok (.goto 4, 3) := by decide +kernel
theorem dX12_isSound_65 : decode cX12_isSound 65 = .ok (.iconst 0, 1) := by decide +kernel
theorem dX12_isSound_66 : decode cX12_isSound 66 = .ok (.ireturn, 1) := by decide +kernel
theorem dX12_riskWith_0 : decode cX12_riskWith 0 = .ok (.aload_n 0, 1) := by decide +kernel
theorem dX12_riskWith_1 : decode cX12_riskWith 1 = .ok (.iload_n 1, 1) := by decide +kernel
theorem dX12_riskWith_2 : decode cX12_riskWith 2 = .ok (.invokevirtual 159, 3) := by decide +kernel
theorem dX12_riskWith_5 : decode cX12_riskWith 5 = .ok (.ifCond .eq 11, 3) := by decide +kernel
theorem dX12_riskWith_8 : decode cX12_riskWith 8 = .ok (.aload_n 0, 1) := by decide +kernel
theorem dX12_riskWith_9 : decode cX12_riskWith 9 = .ok (.iload_n 1, 1) := by decide +kernel
theorem dX12_riskWith_10 : decode cX12_riskWith 10 = .ok (.invokevirtual 148, 3) := by decide +kernel
theorem dX12_riskWith_13 : decode cX12_riskWith 13 = .ok (.goto 4, 3) := by decide +kernel
theorem dX12_riskWith_16 : decode cX12_riskWith 16 = .ok (.iconst (-1), 1) := by decide +kernel
theorem dX12_riskWith_17 : decode cX12_riskWith 17 = .ok (.ireturn, 1) := by decide +kernel
theorem dX12_sound_0 : decode cX12_sound 0 = .ok (.aload_n 0, 1) := by decide +kernel
theorem dX12_sound_1 : decode cX12_sound 1 = .ok (.iload_n 1, 1) := by decide +kernel
theorem dX12_sound_2 : decode cX12_sound 2 = .ok (.invokevirtual 159, 3) := by decide +kernel
theorem dX12_sound_5 : decode cX12_sound 5 = .ok (.ifCond .ne 7, 3) := by decide +kernel
theorem dX12_sound_8 : decode cX12_sound 8 = .ok (.iconst (-1), 1) := by decide +kernel
theorem dX12_sound_9 : decode cX12_sound 9 = .ok (.goto 16, 3) := by decide +kernel
theorem dX12_sound_12 : decode cX12_sound 12 = .ok (.aload_n 0, 1) := by decide +kernel
theorem dX12_sound_13 : decode cX12_sound 13 = .ok (.iload_n 1, 1) := by decide +kernel
theorem dX12_sound_14 : decode cX12_sound 14 = .ok (.invokevirtual 162, 3) := by decide +kernel
theorem dX12_sound_17 : decode cX12_sound 17 = .ok (.ifCond .eq 7, 3) := by decide +kernel
theorem dX12_sound_20 : decode cX12_sound 20 = .ok (.iconst 1, 1) := by decide +kernel
theorem dX12_sound_21 : decode cX12_sound 21 = .ok (.goto 4, 3) := by decide +kernel
theorem dX12_sound_24 : decode cX12_sound 24 = .ok (.iconst 0, 1) := by decide +kernel
theorem dX12_sound_25 : decode cX12_sound 25 = .ok (.ireturn, 1) := by decide +kernel
theorem dX12_gain_0 : decode cX12_gain 0 = .ok (.aload_n 0, 1) := by decide +kernel
theorem dX12_gain_1 : decode cX12_gain 1 = .ok (.iload_n 1, 1) := by decide +kernel
theorem dX12_gain_2 : decode cX12_gain 2 = .ok (.invokevirtual 165, 3) := by decide +kernel
theorem dX12_gain_5 : decode cX12_gain 5 = .ok (.ifCond .eq 20, 3) := by decide +kernel
theorem dX12_gain_8 : decode cX12_gain 8 = .ok (.aload_n 0, 1) := by decide +kernel
theorem dX12_gain_9 : decode cX12_gain 9 = .ok (.iload_n 2, 1) := by decide +kernel
theorem dX12_gain_10 : decode cX12_gain 10 = .ok (.invokevirtual 159, 3) := by decide +kernel
theorem dX12_gain_13 : decode cX12_gain 13 = .ok (.ifCond .eq 12, 3) := by decide +kernel
theorem dX12_gain_16 : decode cX12_gain 16 = .ok (.iload_n 2, 1) := by decide +kernel
theorem dX12_gain_17 : decode cX12_gain 17 = .ok (.iload_n 1, 1) := by decide +kernel
theorem dX12_gain_18 : decode cX12_gain 18 = .ok (.ishr, 1) := by decide +kernel
theorem dX12_gain_19 : decode cX12_gain 19 = .ok (.iconst 1, 1) := by decide +kernel
theorem dX12_gain_20 : decode cX12_gain 20 = .ok (.iand, 1) := by decide +kernel
theorem dX12_gain_21 : decode cX12_gain 21 = .ok (.iconst 1, 1) := by decide +kernel
theorem dX12_gain_22 : decode cX12_gain 22 = .ok (.if_icmp .ne 6, 3) := by decide +kernel
theorem dX12_gain_25 : decode cX12_gain 25 = .ok (.ldc 168, 2) := by decide +kernel
theorem dX12_gain_27 : decode cX12_gain 27 = .ok (.ireturn, 1) := by decide +kernel
theorem dX12_gain_28 : decode cX12_gain 28 = .ok (.aload_n 0, 1) := by decide +kernel
theorem dX12_gain_29 : decode cX12_gain 29 = .ok (.iload_n 2, 1) := by decide +kernel
theorem dX12_gain_30 : decode cX12_gain 30 = .ok (.invokevirtual 148, 3) := by decide +kernel
theorem dX12_gain_33 : decode cX12_gain 33 = .ok (.aload_n 0, 1) := by decide +kernel
theorem dX12_gain_34 : decode cX12_gain 34 = .ok (.iload_n 2, 1) := by decide +kernel
theorem dX12_gain_35 : decode cX12_gain 35 = .ok (.iconst 1, 1) := by decide +kernel
theorem dX12_gain_36 : decode cX12_gain 36 = .ok (.iload_n 1, 1) := by decide +kernel
theorem dX12_gain_37 : decode cX12_gain 37 = .ok (.ishl, 1) := by decide +kernel
theorem dX12_gain_38 : decode cX12_gain 38 = .ok (.ior, 1) := by decide +kernel
theorem dX12_gain_39 : decode cX12_gain 39 = .ok (.invokevirtual 148, 3) := by decide +kernel
theorem dX12_gain_42 : decode cX12_gain 42 = .ok (.isub, 1) := by decide +kernel
theorem dX12_gain_43 : decode cX12_gain 43 = .ok (.ireturn, 1) := by decide +kernel
theorem dX12_next_0 : decode cX12_next 0 = .ok (.aload_n 0, 1) := by decide +kernel
theorem dX12_next_1 : decode cX12_next 1 = .ok (.iload_n 1, 1) := by decide +kernel
theorem dX12_next_2 : decode cX12_next 2 = .ok (.invokevirtual 159, 3) := by decide +kernel
theorem dX12_next_5 : decode cX12_next 5 = .ok (.ifCond .ne 5, 3) := by decide +kernel
theorem dX12_next_8 : decode cX12_next 8 = .ok (.iconst (-1), 1) := by decide +kernel
theorem dX12_next_9 : decode cX12_next 9 = .ok (.ireturn, 1) := by decide +kernel
theorem dX12_next_10 : decode cX12_next 10 = .ok (.bipush (-4), 2) := by decide +kernel
theorem dX12_next_12 : decode cX12_next 12 = .ok (.istore_n 2, 1) := by decide +kernel
theorem dX12_next_13 : decode cX12_next 13 = .ok (.iconst 0, 1) := by decide +kernel
theorem dX12_next_14 : decode cX12_next 14 = .ok (.istore_n 3, 1) := by decide +kernel
theorem dX12_next_15 : decode cX12_next 15 = .ok (.iconst 0, 1) := by decide +kernel
theorem dX12_next_16 : decode cX12_next 16 = .ok (.istore 4, 2) := by decide +kernel
theorem dX12_next_18 : decode cX12_next 18 = .ok (.iload 4, 2) := by decide +kernel
theorem dX12_next_20 : decode cX12_next 20 = .ok (.aload_n 0, 1) := by decide +kernel
theorem dX12_next_21 : decode cX12_next 21 = .ok (.getfield 123, 3) := by decide +kernel
theorem dX12_next_24 : decode cX12_next 24 = .ok (.if_icmp .ge 87, 3) := by decide +kernel
theorem dX12_next_27 : decode cX12_next 27 = .ok (.iload_n 1, 1) := by decide +kernel
theorem dX12_next_28 : decode cX12_next 28 = .ok (.iload 4, 2) := by decide +kernel
theorem dX12_next_30 : decode cX12_next 30 = .ok (.ishr, 1) := by decide +kernel
theorem dX12_next_31 : decode cX12_next 31 = .ok (.iconst 1, 1) := by decide +kernel
theorem dX12_next_32 : decode cX12_next 32 = .ok (.iand, 1) := by decide +kernel
theorem dX12_next_33 : decode cX12_next 33 = .ok (.ifCond .ne 72, 3) := by decide +kernel
theorem dX12_next_36 : decode cX12_next 36 = .ok (.aload_n 0, 1) := by decide +kernel
theorem dX12_next_37 : decode cX12_next 37 = .ok (.iload_n 1, 1) := by decide +kernel
theorem dX12_next_38 : decode cX12_next 38 = .ok (.iconst 1, 1) := by decide +kernel
theorem dX12_next_39 : decode cX12_next 39 = .ok (.iload 4, 2) := by decide +kernel
theorem dX12_next_41 : decode cX12_next 41 = .ok (.ishl, 1) := by decide +kernel
theorem dX12_next_42 : decode cX12_next 42 = .ok (.ior, 1) := by decide +kernel
theorem dX12_next_43 : decode cX12_next 43 = .ok (.invokevirtual 162, 3) := by decide +kernel
theorem dX12_next_46 : decode cX12_next 46 = .ok (.ifCond .eq 59, 3) := by decide +kernel
theorem dX12_next_49 : decode cX12_next 49 = .ok (.aload_n 0, 1) := by decide +kernel
theorem dX12_next_50 : decode cX12_next 50 = .ok (.iload_n 1, 1) := by decide +kernel
theorem dX12_next_51 : decode cX12_next 51 = .ok (.invokevirtual 148, 3) := by decide +kernel
theorem dX12_next_54 : decode cX12_next 54 = .ok (.aload_n 0, 1) := by decide +kernel
theorem dX12_next_55 : decode cX12_next 55 = .ok (.iload_n 1, 1) := by decide +kernel
theorem dX12_next_56 : decode cX12_next 56 = .ok (.iconst 1, 1) := by decide +kernel
theorem dX12_next_57 : decode cX12_next 57 = .ok (.iload 4, 2) := by decide +kernel
theorem dX12_next_59 : decode cX12_next 59 = .ok (.ishl, 1) := by decide +kernel
theorem dX12_next_60 : decode cX12_next 60 = .ok (.ior, 1) := by decide +kernel
theorem dX12_next_61 : decode cX12_next 61 = .ok (.invokevirtual 148, 3) := by decide +kernel
theorem dX12_next_64 : decode cX12_next 64 = .ok (.isub, 1) := by decide +kernel
theorem dX12_next_65 : decode cX12_next 65 = .ok (.istore 5, 2) := by decide +kernel
theorem dX12_next_67 : decode cX12_next 67 = .ok (.iload 5, 2) := by decide +kernel
theorem dX12_next_69 : decode cX12_next 69 = .ok (.ifCond .le 36, 3) := by decide +kernel
theorem dX12_next_72 : decode cX12_next 72 = .ok (.iload_n 2, 1) := by decide +kernel
theorem dX12_next_73 : decode cX12_next 73 = .ok (.bipush (-4), 2) := by decide +kernel
theorem dX12_next_75 : decode cX12_next 75 = .ok (.if_icmp .eq 24, 3) := by decide +kernel
theorem dX12_next_78 : decode cX12_next 78 = .ok (.iload 5, 2) := by decide +kernel
theorem dX12_next_80 : decode cX12_next 80 = .ok (.aload_n 0, 1) := by decide +kernel
theorem dX12_next_81 : decode cX12_next 81 = .ok (.getfield 62, 3) := by decide +kernel
theorem dX12_next_84 : decode cX12_next 84 = .ok (.iload_n 2, 1) := by decide +kernel
theorem dX12_next_85 : decode cX12_next 85 = .ok (.iaload, 1) := by decide +kernel
theorem dX12_next_86 : decode cX12_next 86 = .ok (.imul, 1) := by decide +kernel
theorem dX12_next_87 : decode cX12_next 87 = .ok (.iload_n 3, 1) := by decide +kernel
theorem dX12_next_88 : decode cX12_next 88 = .ok (.aload_n 0, 1) := by decide +kernel
theorem dX12_next_89 : decode cX12_next 89 = .ok (.getfield 62, 3) := by decide +kernel
theorem dX12_next_92 : decode cX12_next 92 = .ok (.iload 4, 2) := by decide +kernel
theorem dX12_next_94 : decode cX12_next 94 = .ok (.iaload, 1) := by decide +kernel
theorem dX12_next_95 : decode cX12_next 95 = .ok (.imul, 1) := by decide +kernel
theorem dX12_next_96 : decode cX12_next 96 = .ok (.if_icmp .le 9, 3) := by decide +kernel
theorem dX12_next_99 : decode cX12_next 99 = .ok (.iload 4, 2) := by decide +kernel
theorem dX12_next_101 : decode cX12_next 101 = .ok (.istore_n 2, 1) := by decide +kernel
theorem dX12_next_102 : decode cX12_next 102 = .ok (.iload 5, 2) := by decide +kernel
theorem dX12_next_104 : decode cX12_next 104 = .ok (.istore_n 3, 1) := by decide +kernel
theorem dX12_next_105 : decode cX12_next 105 = .ok (.iinc 4 1, 3) := by decide +kernel
theorem dX12_next_108 : decode cX12_next 108 = .ok (.goto (-90), 3) := by decide +kernel
theorem dX12_next_111 : decode cX12_next 111 = .ok (.iload_n 2, 1) := by decide +kernel
theorem dX12_next_112 : decode cX12_next 112 = .ok (.ireturn, 1) := by decide +kernel
theorem dX12_mayIn_0 : decode cX12_mayIn 0 = .ok (.iconst 0, 1) := by decide +kernel
theorem dX12_mayIn_1 : decode cX12_mayIn 1 = .ok (.istore 4, 2) := by decide +kernel
theorem dX12_mayIn_3 : decode cX12_mayIn 3 = .ok (.iconst 0, 1) := by decide +kernel
theorem dX12_mayIn_4 : decode cX12_mayIn 4 = .ok (.istore 5, 2) := by decide +kernel
theorem dX12_mayIn_6 : decode cX12_mayIn 6 = .ok (.iload 5, 2) := by decide +kernel
theorem dX12_mayIn_8 : decode cX12_mayIn 8 = .ok (.aload_n 0, 1) := by decide +kernel
theorem dX12_mayIn_9 : decode cX12_mayIn 9 = .ok (.getfield 123, 3) := by decide +kernel
theorem dX12_mayIn_12 : decode cX12_mayIn 12 = .ok (.if_icmp .ge 54, 3) := by decide +kernel
theorem dX12_mayIn_15 : decode cX12_mayIn 15 = .ok (.iload_n 1, 1) := by decide +kernel
theorem dX12_mayIn_16 : decode cX12_mayIn 16 = .ok (.iload 5, 2) := by decide +kernel
theorem dX12_mayIn_18 : decode cX12_mayIn 18 = .ok (.ishr, 1) := by decide +kernel
theorem dX12_mayIn_19 : decode cX12_mayIn 19 = .ok (.iconst 1, 1) := by decide +kernel
theorem dX12_mayIn_20 : decode cX12_mayIn 20 = .ok (.iand, 1) := by decide +kernel
theorem dX12_mayIn_21 : decode cX12_mayIn 21 = .ok (.iconst 1, 1) := by decide +kernel
theorem dX12_mayIn_22 : decode cX12_mayIn 22 = .ok (.if_icmp .ne 38, 3) := by decide +kernel
theorem dX12_mayIn_25 : decode cX12_mayIn 25 = .ok (.iload 4, 2) := by decide +kernel
theorem dX12_mayIn_27 : decode cX12_mayIn 27 = .ok (.aload_n 0, 1) := by decide +kernel
theorem dX12_mayIn_28 : decode cX12_mayIn 28 = .ok (.getfield 62, 3) := by decide +kernel
theorem dX12_mayIn_31 : decode cX12_mayIn 31 = .ok (.iload 5, 2) := by decide +kernel
theorem dX12_mayIn_33 : decode cX12_mayIn 33 = .ok (.iaload, 1) := by decide +kernel
theorem dX12_mayIn_34 : decode cX12_mayIn 34 = .ok (.iadd, 1) := by decide +kernel
theorem dX12_mayIn_35 : decode cX12_mayIn 35 = .ok (.istore 4, 2) := by decide +kernel
theorem dX12_mayIn_37 : decode cX12_mayIn 37 = .ok (.iload_n 2, 1) := by decide +kernel
theorem dX12_mayIn_38 : decode cX12_mayIn 38 = .ok (.aload_n 0, 1) := by decide +kernel
theorem dX12_mayIn_39 : decode cX12_mayIn 39 = .ok (.getfield 68, 3) := by decide +kernel
theorem dX12_mayIn_42 : decode cX12_mayIn 42 = .ok (.iload 5, 2) := by decide +kernel
theorem dX12_mayIn_44 : decode cX12_mayIn 44 = .ok (.iaload, 1) := by decide +kernel
theorem dX12_mayIn_45 : decode cX12_mayIn 45 = .ok (.aload_n 0, 1) := by decide +kernel
theorem dX12_mayIn_46 : decode cX12_mayIn 46 = .ok (.getfield 71, 3) := by decide +kernel
theorem dX12_mayIn_49 : decode cX12_mayIn 49 = .ok (.iload 5, 2) := by decide +kernel
theorem dX12_mayIn_51 : decode cX12_mayIn 51 = .ok (.iaload, 1) := by decide +kernel
theorem dX12_mayIn_52 : decode cX12_mayIn 52 = .ok (.invokestatic 99, 3) := by decide +kernel
theorem dX12_mayIn_55 : decode cX12_mayIn 55 = .ok (.ifCond .ne 5, 3) := by decide +kernel
theorem dX12_mayIn_58 : decode cX12_mayIn 58 = .ok (.iconst 0, 1) := by decide +kernel
theorem dX12_mayIn_59 : decode cX12_mayIn 59 = .ok (.ireturn, 1) := by decide +kernel
theorem dX12_mayIn_60 : decode cX12_mayIn 60 = .ok (.iinc 5 1, 3) := by decide +kernel
theorem dX12_mayIn_63 : decode cX12_mayIn 63 = .ok (.goto (-57), 3) := by decide +kernel
theorem dX12_mayIn_66 : decode cX12_mayIn 66 = .ok (.iload 4, 2) := by decide +kernel
theorem dX12_mayIn_68 : decode cX12_mayIn 68 = .ok (.iload_n 3, 1) := by decide +kernel
theorem dX12_mayIn_69 : decode cX12_mayIn 69 = .ok (.if_icmp .gt 7, 3) := by decide +kernel
theorem dX12_mayIn_72 : decode cX12_mayIn 72 = .ok (.iconst 1, 1) := by decide +kernel
theorem dX12_mayIn_73 : decode cX12_mayIn 73 = .ok (.goto 4, 3) := by decide +kernel
theorem dX12_mayIn_76 : decode cX12_mayIn 76 = .ok (.iconst 0, 1) := by decide +kernel
theorem dX12_mayIn_77 : decode cX12_mayIn 77 = .ok (.ireturn, 1) := by decide +kernel
theorem dX12_planFrom_0 : decode cX12_planFrom 0 = .ok (.iconst 0, 1) := by decide +kernel
theorem dX12_planFrom_1 : decode cX12_planFrom 1 = .ok (.istore 5, 2) := by decide +kernel
theorem dX12_planFrom_3 : decode cX12_planFrom 3 = .ok (.iload 5, 2) := by decide +kernel
theorem dX12_planFrom_5 : decode cX12_planFrom 5 = .ok (.iload 4, 2) := by decide +kernel
theorem dX12_planFrom_7 : decode cX12_planFrom 7 = .ok (.if_icmp .gt 165, 3) := by decide +kernel
theorem dX12_planFrom_10 : decode cX12_planFrom 10 = .ok (.iconst (-1), 1) := by decide +kernel
theorem dX12_planFrom_11 : decode cX12_planFrom 11 = .ok (.istore 6, 2) := by decide +kernel
theorem dX12_planFrom_13 : decode cX12_planFrom 13 = .ok (.sipush 256, 3) := by decide +kernel
theorem dX12_planFrom_16 : decode cX12_planFrom 16 = .ok (.iload_n 1, 1) := by decide +kernel
theorem dX12_planFrom_17 : decode cX12_planFrom 17 = .ok (.imul, 1) := by decide +kernel
theorem dX12_planFrom_18 : decode cX12_planFrom 18 = .ok (.iload 5, 2) := by decide +kernel
theorem dX12_planFrom_20 : decode cX12_planFrom 20 = .ok (.iadd, 1) := by decide +kernel
theorem dX12_planFrom_21 : decode cX12_planFrom 21 = .ok (.istore 7, 2) := by decide +kernel
theorem dX12_planFrom_23 : decode cX12_planFrom 23 = .ok (.iconst 0, 1) := by decide +kernel
theorem dX12_planFrom_24 : decode cX12_planFrom 24 = .ok (.istore 8, 2) := by decide +kernel
theorem dX12_planFrom_26 : decode cX12_planFrom 26 = .ok (.iload 8, 2) := by decide +kernel
theorem dX12_planFrom_28 : decode cX12_planFrom 28 = .ok (.iload 4, 2) := by decide +kernel
theorem dX12_planFrom_30 : decode cX12_planFrom 30 = .ok (.if_icmp .gt 127, 3) := by decide +kernel
theorem dX12_planFrom_33 : decode cX12_planFrom 33 = .ok (.iload 8, 2) := by decide +kernel
theorem dX12_planFrom_35 : decode cX12_planFrom 35 = .ok (.iload 5, 2) := by decide +kernel
theorem dX12_planFrom_37 : decode cX12_planFrom 37 = .ok (.iand, 1) := by decide +kernel
theorem dX12_planFrom_38 : decode cX12_planFrom 38 = .ok (.ifCond .ne 113, 3) := by decide +kernel
theorem dX12_planFrom_41 : decode cX12_planFrom 41 = .ok (.aload_n 0, 1) := by decide +kernel
theorem dX12_planFrom_42 : decode cX12_planFrom 42 = .ok (.getfield 80, 3) := by decide +kernel
theorem dX12_planFrom_45 : decode cX12_planFrom 45 = .ok (.iload 5, 2) := by decide +kernel
theorem dX12_planFrom_47 : decode cX12_planFrom 47 = .ok (.iload 8, 2) := by decide +kernel
theorem dX12_planFrom_49 : decode cX12_planFrom 49 = .ok (.ior, 1) := by decide +kernel
theorem dX12_planFrom_50 : decode cX12_planFrom 50 = .ok (.baload, 1) := by decide +kernel
theorem dX12_planFrom_51 : decode cX12_planFrom 51 = .ok (.ifCond .eq 100, 3) := by decide +kernel
theorem dX12_planFrom_54 : decode cX12_planFrom 54 = .ok (.aload_n 0, 1) := by decide +kernel
theorem dX12_planFrom_55 : decode cX12_planFrom 55 = .ok (.iload 8, 2) := by decide +kernel
theorem dX12_planFrom_57 : decode cX12_planFrom 57 = .ok (.iload_n 1, 1) := by decide +kernel
theorem dX12_planFrom_58 : decode cX12_planFrom 58 = .ok (.iload_n 3, 1) := by decide +kernel
theorem dX12_planFrom_59 : decode cX12_planFrom 59 = .ok (.invokevirtual 169, 3) := by decide +kernel
theorem dX12_planFrom_62 : decode cX12_planFrom 62 = .ok (.ifCond .eq 89, 3) := by decide +kernel
theorem dX12_planFrom_65 : decode cX12_planFrom 65 = .ok (.iload_n 1, 1) := by decide +kernel
theorem dX12_planFrom_66 : decode cX12_planFrom 66 = .ok (.iconst 1, 1) := by decide +kernel
theorem dX12_planFrom_67 : decode cX12_planFrom 67 = .ok (.iadd, 1) := by decide +kernel
theorem dX12_planFrom_68 : decode cX12_planFrom 68 = .ok (.iload_n 2, 1) := by decide +kernel
theorem dX12_planFrom_69 : decode cX12_planFrom 69 = .ok (.if_icmp .ne 16, 3) := by decide +kernel
theorem dX12_planFrom_72 : decode cX12_planFrom 72 = .ok (.aload_n 0, 1) := by decide +kernel
theorem dX12_planFrom_73 : decode cX12_planFrom 73 = .ok (.getfield 77, 3) := by decide +kernel
theorem dX12_planFrom_76 : decode cX12_planFrom 76 = .ok (.iload 5, 2) := by decide +kernel
theorem dX12_planFrom_78 : decode cX12_planFrom 78 = .ok (.iload 8, 2) := by decide +kernel
theorem dX12_planFrom_80 : decode cX12_planFrom 80 = .ok (.ior, 1) := by decide +kernel
theorem dX12_planFrom_81 : decode cX12_planFrom 81 = .ok (.iaload, 1) := by decide +kernel
theorem dX12_planFrom_82 : decode cX12_planFrom 82 = .ok (.goto 21, 3) := by decide +kernel
theorem dX12_planFrom_85 : decode cX12_planFrom 85 = .ok (.aload_n 0, 1) := by decide +kernel
theorem dX12_planFrom_86 : decode cX12_planFrom 86 = .ok (.getfield 83, 3) := by decide +kernel
theorem dX12_planFrom_89 : decode cX12_planFrom 89 = .ok (.sipush 256, 3) := by decide +kernel
theorem dX12_planFrom_92 : decode cX12_planFrom 92 = .ok (.iload_n 1, 1) := by decide +kernel
theorem dX12_planFrom_93 : decode cX12_planFrom 93 = .ok (.iconst 1, 1) := by decide +kernel
theorem dX12_planFrom_94 : decode cX12_planFrom 94 = .ok (.iadd, 1) := by decide +kernel
theorem dX12_planFrom_95 : decode cX12_planFrom 95 = .ok (.imul, 1) := by decide +kernel
theorem dX12_planFrom_96 : decode cX12_planFrom 96 = .ok (.iload 5, 2) := by decide +kernel
theorem dX12_planFrom_98 : decode cX12_planFrom 98 = .ok (.iload 8, 2) := by decide +kernel
theorem dX12_planFrom_100 : decode cX12_planFrom 100 = .ok (.ior, 1) := by decide +kernel
theorem dX12_planFrom_101 : decode cX12_planFrom 101 = .ok (.iadd, 1) := by decide +kernel
theorem dX12_planFrom_102 : decode cX12_planFrom 102 = .ok (.iaload, 1) := by decide +kernel
theorem dX12_planFrom_103 : decode cX12_planFrom 103 = .ok (.istore 9, 2) := by decide +kernel
theorem dX12_planFrom_105 : decode cX12_planFrom 105 = .ok (.iload 9, 2) := by decide +kernel
theorem dX12_planFrom_107 : decode cX12_planFrom 107 = .ok (.ifCond .lt 44, 3) := by decide +kernel
theorem dX12_planFrom_110 : decode cX12_planFrom 110 = .ok (.iload 6, 2) := by decide +kernel
theorem dX12_planFrom_112 : decode cX12_planFrom 112 = .ok (.ifCond .lt 18, 3) := by decide +kernel
theorem dX12_planFrom_115 : decode cX12_planFrom 115 = .ok (.iload 9, 2) := by decide +kernel
theorem dX12_planFrom_117 : decode cX12_planFrom 117 = .ok (.aload_n 0, 1) := by decide +kernel
theorem dX12_planFrom_118 : decode cX12_planFrom 118 = .ok (.getfield 77, 3) := by decide +kernel
theorem dX12_planFrom_121 : decode cX12_planFrom 121 = .ok (.iload 5, 2) := by decide +kernel
theorem dX12_planFrom_123 : decode cX12_planFrom 123 = .ok (.iaload, 1) := by decide +kernel
theorem dX12_planFrom_124 : decode cX12_planFrom 124 = .ok (.iadd, 1) := by decide +kernel
theorem dX12_planFrom_125 : decode cX12_planFrom 125 = .ok (.iload 6, 2) := by decide +kernel
theorem dX12_planFrom_127 : decode cX12_planFrom 127 = .ok (.if_icmp .ge 24, 3) := by decide +kernel
theorem dX12_planFrom_130 : decode cX12_planFrom 130 = .ok (.iload 9, 2) := by decide +kernel
theorem dX12_planFrom_132 : decode cX12_planFrom 132 = .ok (.aload_n 0, 1) := by decide +kernel
theorem dX12_planFrom_133 : decode cX12_planFrom 133 = .ok (.getfield 77, 3) := by decide +kernel
theorem dX12_planFrom_136 : decode cX12_planFrom 136 = .ok (.iload 5, 2) := by decide +kernel
theorem dX12_planFrom_138 : decode cX12_planFrom 138 = .ok (.iaload, 1) := by decide +kernel
theorem dX12_planFrom_139 : decode cX12_planFrom 139 = .ok (.iadd, 1) := by decide +kernel
theorem dX12_planFrom_140 : decode cX12_planFrom 140 = .ok (.istore 6, 2) := by decide +kernel
theorem dX12_planFrom_142 : decode cX12_planFrom 142 = .ok (.aload_n 0, 1) := by decide +kernel
theorem dX12_planFrom_143 : decode cX12_planFrom 143 = .ok (.getfield 86, 3) := by decide +kernel
theorem dX12_planFrom_146 : decode cX12_planFrom 146 = .ok (.iload 7, 2) := by decide +kernel
theorem dX12_planFrom_148 : decode cX12_planFrom 148 = .ok (.iload 8, 2) := by decide +kernel
theorem dX12_planFrom_150 : decode cX12_planFrom 150 = .ok (.iastore, 1) := by decide +kernel
theorem dX12_planFrom_151 : decode cX12_planFrom 151 = .ok (.iinc 8 1, 3) := by decide +kernel
theorem dX12_planFrom_154 : decode cX12_planFrom 154 = .ok (.goto (-128), 3) := by decide +kernel
theorem dX12_planFrom_157 : decode cX12_planFrom 157 = .ok (.aload_n 0, 1) := by decide +kernel
theorem dX12_planFrom_158 : decode cX12_planFrom 158 = .ok (.getfield 83, 3) := by decide +kernel
theorem dX12_planFrom_161 : decode cX12_planFrom 161 = .ok (.iload 7, 2) := by decide +kernel
theorem dX12_planFrom_163 : decode cX12_planFrom 163 = .ok (.iload 6, 2) := by decide +kernel
theorem dX12_planFrom_165 : decode cX12_planFrom 165 = .ok (.iastore, 1) := by decide +kernel
theorem dX12_planFrom_166 : decode cX12_planFrom 166 = .ok (.iinc 5 1, 3) := by decide +kernel
theorem dX12_planFrom_169 : decode cX12_planFrom 169 = .ok (.goto (-166), 3) := by decide +kernel
theorem dX12_planFrom_172 : decode cX12_planFrom 172 = .ok (.return_, 1) := by decide +kernel
theorem dX12_plan_0 : decode cX12_plan 0 = .ok (.iload_n 1, 1) := by decide +kernel
theorem dX12_plan_1 : decode cX12_plan 1 = .ok (.iconst 1, 1) := by decide +kernel
theorem dX12_plan_2 : decode cX12_plan 2 = .ok (.bipush 6, 2) := by decide +kernel
theorem dX12_plan_4 : decode cX12_plan 4 = .ok (.invokestatic 99, 3) := by decide +kernel
theorem dX12_plan_7 : decode cX12_plan 7 = .ok (.ifCond .eq 13, 3) := by decide +kernel
theorem dX12_plan_10 : decode cX12_plan 10 = .ok (.iload_n 2, 1) := by decide +kernel
theorem dX12_plan_11 : decode cX12_plan 11 = .ok (.iconst 0, 1) := by decide +kernel
theorem dX12_plan_12 : decode cX12_plan 12 = .ok (.bipush 99, 2) := by decide +kernel
theorem dX12_plan_14 : decode cX12_plan 14 = .ok (.invokestatic 99, 3) := by decide +kernel
theorem dX12_plan_17 : decode cX12_plan 17 = .ok (.ifCond .ne 5, 3) := by decide +kernel
theorem dX12_plan_20 : decode cX12_plan 20 = .ok (.iconst (-1), 1) := by decide +kernel
theorem dX12_plan_21 : decode cX12_plan 21 = .ok (.ireturn, 1) := by decide +kernel
theorem dX12_plan_22 : decode cX12_plan 22 = .ok (.iconst 1, 1) := by decide +kernel
theorem dX12_plan_23 : decode cX12_plan 23 = .ok (.aload_n 0, 1) := by decide +kernel
theorem dX12_plan_24 : decode cX12_plan 24 = .ok (.getfield 123, 3) := by decide +kernel
theorem dX12_plan_27 : decode cX12_plan 27 = .ok (.ishl, 1) := by decide +kernel
theorem dX12_plan_28 : decode cX12_plan 28 = .ok (.iconst 1, 1) := by decide +kernel
theorem dX12_plan_29 : decode cX12_plan 29 = .ok (.isub, 1) := by decide +kernel
theorem dX12_plan_30 : decode cX12_plan 30 = .ok (.istore_n 3, 1) := by decide +kernel
theorem dX12_plan_31 : decode cX12_plan 31 = .ok (.iconst 0, 1) := by decide +kernel
theorem dX12_plan_32 : decode cX12_plan 32 = .ok (.istore 4, 2) := by decide +kernel
theorem dX12_plan_34 : decode cX12_plan 34 = .ok (.iload 4, 2) := by decide +kernel
theorem dX12_plan_36 : decode cX12_plan 36 = .ok (.iload_n 3, 1) := by decide +kernel
theorem dX12_plan_37 : decode cX12_plan 37 = .ok (.if_icmp .gt 35, 3) := by decide +kernel
theorem dX12_plan_40 : decode cX12_plan 40 = .ok (.aload_n 0, 1) := by decide +kernel
theorem dX12_plan_41 : decode cX12_plan 41 = .ok (.getfield 77, 3) := by decide +kernel
theorem dX12_plan_44 : decode cX12_plan 44 = .ok (.iload 4, 2) := by decide +kernel
theorem dX12_plan_46 : decode cX12_plan 46 = .ok (.aload_n 0, 1) := by decide +kernel
theorem dX12_plan_47 : decode cX12_plan 47 = .ok (.iload 4, 2) := by decide +kernel
theorem dX12_plan_49 : decode cX12_plan 49 = .ok (.invokevirtual 148, 3) := by decide +kernel
theorem dX12_plan_52 : decode cX12_plan 52 = .ok (.iastore, 1) := by decide +kernel
theorem dX12_plan_53 : decode cX12_plan 53 = .ok (.aload_n 0, 1) := by decide +kernel
theorem dX12_plan_54 : decode cX12_plan 54 = .ok (.getfield 80, 3) := by decide +kernel
theorem dX12_plan_57 : decode cX12_plan 57 = .ok (.iload 4, 2) := by decide +kernel
theorem dX12_plan_59 : decode cX12_plan 59 = .ok (.aload_n 0, 1) := by decide +kernel
theorem dX12_plan_60 : decode cX12_plan 60 = .ok (.iload 4, 2) := by decide +kernel
theorem dX12_plan_62 : decode cX12_plan 62 = .ok (.invokevirtual 162, 3) := by decide +kernel
theorem dX12_plan_65 : decode cX12_plan 65 = .ok (.bastore, 1) := by decide +kernel
theorem dX12_plan_66 : decode cX12_plan 66 = .ok (.iinc 4 1, 3) := by decide +kernel
theorem dX12_plan_69 : decode cX12_plan 69 = .ok (.goto (-35), 3) := by decide +kernel
theorem dX12_plan_72 : decode cX12_plan 72 = .ok (.aload_n 0, 1) := by decide +kernel
theorem dX12_plan_73 : decode cX12_plan 73 = .ok (.getfield 80, 3) := by decide +kernel
theorem dX12_plan_76 : decode cX12_plan 76 = .ok (.iconst 0, 1) := by decide +kernel
theorem dX12_plan_77 : decode cX12_plan 77 = .ok (.baload, 1) := by decide +kernel
theorem dX12_plan_78 : decode cX12_plan 78 = .ok (.ifCond .ne 6, 3) := by decide +kernel
theorem dX12_plan_81 : decode cX12_plan 81 = .ok (.bipush (-2), 2) := by decide +kernel
theorem dX12_plan_83 : decode cX12_plan 83 = .ok (.ireturn, 1) := by decide +kernel
theorem dX12_plan_84 : decode cX12_plan 84 = .ok (.iload_n 1, 1) := by decide +kernel
theorem dX12_plan_85 : decode cX12_plan 85 = .ok (.iconst 1, 1) := by decide +kernel
theorem dX12_plan_86 : decode cX12_plan 86 = .ok (.isub, 1) := by decide +kernel
theorem dX12_plan_87 : decode cX12_plan 87 = .ok (.istore 4, 2) := by decide +kernel
theorem dX12_plan_89 : decode cX12_plan 89 = .ok (.iload 4, 2) := by decide +kernel
theorem dX12_plan_91 : decode cX12_plan 91 = .ok (.ifCond .lt 18, 3) := by decide +kernel
theorem dX12_plan_94 : decode cX12_plan 94 = .ok (.aload_n 0, 1) := by decide +kernel
theorem dX12_plan_95 : decode cX12_plan 95 = .ok (.iload 4, 2) := by decide +kernel
theorem dX12_plan_97 : decode cX12_plan 97 = .ok (.iload_n 1, 1) := by decide +kernel
theorem dX12_plan_98 : decode cX12_plan 98 = .ok (.iload_n 2, 1) := by decide +kernel
theorem dX12_plan_99 : decode cX12_plan 99 = .ok (.iload_n 3, 1) := by decide +kernel
theorem dX12_plan_100 : decode cX12_plan 100 = .ok (.invokevirtual 172, 3) := by decide +kernel
theorem dX12_plan_103 : decode cX12_plan 103 = .ok (.iinc 4 (-1), 3) := by decide +kernel
theorem dX12_plan_106 : decode cX12_plan 106 = .ok (.goto (-17), 3) := by decide +kernel
theorem dX12_plan_109 : decode cX12_plan 109 = .ok (.iconst 0, 1) := by decide +kernel
theorem dX12_plan_110 : decode cX12_plan 110 = .ok (.istore 4, 2) := by decide +kernel
theorem dX12_plan_112 : decode cX12_plan 112 = .ok (.iload 4, 2) := by decide +kernel
theorem dX12_plan_114 : decode cX12_plan 114 = .ok (.bipush 8, 2) := by decide +kernel
theorem dX12_plan_116 : decode cX12_plan 116 = .ok (.if_icmp .ge 32, 3) := by decide +kernel
theorem dX12_plan_119 : decode cX12_plan 119 = .ok (.aload_n 0, 1) := by decide +kernel
theorem dX12_plan_120 : decode cX12_plan 120 = .ok (.getfield 92, 3) := by decide +kernel
theorem dX12_plan_123 : decode cX12_plan 123 = .ok (.iload 4, 2) := by decide +kernel
theorem dX12_plan_125 : decode cX12_plan 125 = .ok (.aload_n 0, 1) := by decide +kernel
theorem dX12_plan_126 : decode cX12_plan 126 = .ok (.getfield 89, 3) := by decide +kernel
theorem dX12_plan_129 : decode cX12_plan 129 = .ok (.iload 4, 2) := by decide +kernel
theorem dX12_plan_131 : decode cX12_plan 131 = .ok (.iaload, 1) := by decide +kernel
theorem dX12_plan_132 : decode cX12_plan 132 = .ok (.iastore, 1) := by decide +kernel
theorem dX12_plan_133 : decode cX12_plan 133 = .ok (.aload_n 0, 1) := by decide +kernel
theorem dX12_plan_134 : decode cX12_plan 134 = .ok (.getfield 89, 3) := by decide +kernel
theorem dX12_plan_137 : decode cX12_plan 137 = .ok (.iload 4, 2) := by decide +kernel
theorem dX12_plan_139 : decode cX12_plan 139 = .ok (.bipush (-4), 2) := by decide +kernel
theorem dX12_plan_141 : decode cX12_plan 141 = .ok (.iastore, 1) := by decide +kernel
theorem dX12_plan_142 : decode cX12_plan 142 = .ok (.iinc 4 1, 3) := by decide +kernel
theorem dX12_plan_145 : decode cX12_plan 145 = .ok (.goto (-33), 3) := by decide +kernel
theorem dX12_plan_148 : decode cX12_plan 148 = .ok (.aload_n 0, 1) := by decide +kernel
theorem dX12_plan_149 : decode cX12_plan 149 = .ok (.dup, 1) := by decide +kernel
theorem dX12_plan_150 : decode cX12_plan 150 = .ok (.getfield 176, 3) := by decide +kernel
theorem dX12_plan_153 : decode cX12_plan 153 = .ok (.iconst 1, 1) := by decide +kernel
theorem dX12_plan_154 : decode cX12_plan 154 = .ok (.iadd, 1) := by decide +kernel
theorem dX12_plan_155 : decode cX12_plan 155 = .ok (.putfield 176, 3) := by decide +kernel
theorem dX12_plan_158 : decode cX12_plan 158 = .ok (.iconst 0, 1) := by decide +kernel
theorem dX12_plan_159 : decode cX12_plan 159 = .ok (.istore 4, 2) := by decide +kernel
theorem dX12_plan_161 : decode cX12_plan 161 = .ok (.iconst 0, 1) := by decide +kernel
theorem dX12_plan_162 : decode cX12_plan 162 = .ok (.istore 5, 2) := by decide +kernel
theorem dX12_plan_164 : decode cX12_plan 164 = .ok (.iload 5, 2) := by decide +kernel
theorem dX12_plan_166 : decode cX12_plan 166 = .ok (.iload_n 1, 1) := by decide +kernel
theorem dX12_plan_167 : decode cX12_plan 167 = .ok (.if_icmp .ge 80, 3) := by decide +kernel
theorem dX12_plan_170 : decode cX12_plan 170 = .ok (.aload_n 0, 1) := by decide +kernel
theorem dX12_plan_171 : decode cX12_plan 171 = .ok (.getfield 86, 3) := by decide +kernel
theorem dX12_plan_174 : decode cX12_plan 174 = .ok (.sipush 256, 3) := by decide +kernel
theorem dX12_plan_177 : decode cX12_plan 177 = .ok (.iload 5, 2) := by decide +kernel
theorem dX12_plan_179 : decode cX12_plan 179 = .ok (.imul, 1) := by decide +kernel
theorem dX12_plan_180 : decode cX12_plan 180 = .ok (.iload 4, 2) := by decide +kernel
theorem dX12_plan_182 : decode cX12_plan 182 = .ok (.iadd, 1) := by decide +kernel
theorem dX12_plan_183 : decode cX12_plan 183 = .ok (.iaload, 1) := by decide +kernel
theorem dX12_plan_184 : decode cX12_plan 184 = .ok (.istore 6, 2) := by decide +kernel
theorem dX12_plan_186 : decode cX12_plan 186 = .ok (.iconst 0, 1) := by decide +kernel
theorem dX12_plan_187 : decode cX12_plan 187 = .ok (.istore 7, 2) := by decide +kernel
theorem dX12_plan_189 : decode cX12_plan 189 = .ok (.iload 7, 2) := by decide +kernel
theorem dX12_plan_191 : decode cX12_plan 191 = .ok (.aload_n 0, 1) := by decide +kernel
theorem dX12_plan_192 : decode cX12_plan 192 = .ok (.getfield 123, 3) := by decide +kernel
theorem dX12_plan_195 : decode cX12_plan 195 = .ok (.if_icmp .ge 39, 3) := by decide +kernel
theorem dX12_plan_198 : decode cX12_plan 198 = .ok (.aload_n 0, 1) := by decide +kernel
theorem dX12_plan_199 : decode cX12_plan 199 = .ok (.getfield 89, 3) := by decide +kernel
theorem dX12_plan_202 : decode cX12_plan 202 = .ok (.iload 7, 2) := by decide +kernel
theorem dX12_plan_204 : decode cX12_plan 204 = .ok (.iload 6, 2) := by decide +kernel
theorem dX12_plan_206 : decode cX12_plan 206 = .ok (.iload 7, 2) := by decide +kernel
theorem dX12_plan_208 : decode cX12_plan 208 = .ok (.ishr, 1) := by decide +kernel
theorem dX12_plan_209 : decode cX12_plan 209 = .ok (.iconst 1, 1) := by decide +kernel
theorem dX12_plan_210 : decode cX12_plan 210 = .ok (.iand, 1) := by decide +kernel
theorem dX12_plan_211 : decode cX12_plan 211 = .ok (.iconst 1, 1) := by decide +kernel
theorem dX12_plan_212 : decode cX12_plan 212 = .ok (.if_icmp .ne 8, 3) := by decide +kernel
theorem dX12_plan_215 : decode cX12_plan 215 = .ok (.iload 5, 2) := by decide +kernel
theorem dX12_plan_217 : decode cX12_plan 217 = .ok (.goto 10, 3) := by decide +kernel
theorem dX12_plan_220 : decode cX12_plan 220 = .ok (.aload_n 0, 1) := by decide +kernel
theorem dX12_plan_221 : decode cX12_plan 221 = .ok (.getfield 89, 3) := by decide +kernel
theorem dX12_plan_224 : decode cX12_plan 224 = .ok (.iload 7, 2) := by decide +kernel
theorem dX12_plan_226 : decode cX12_plan 226 = .ok (.iaload, 1) := by decide +kernel
theorem dX12_plan_227 : decode cX12_plan 227 = .ok (.iastore, 1) := by decide +kernel
theorem dX12_plan_228 : decode cX12_plan 228 = .ok (.iinc 7 1, 3) := by decide +kernel
theorem dX12_plan_231 : decode cX12_plan 231 = .ok (.goto (-42), 3) := by decide +kernel
theorem dX12_plan_234 : decode cX12_plan 234 = .ok (.iload 4, 2) := by decide +kernel
theorem dX12_plan_236 : decode cX12_plan 236 = .ok (.iload 6, 2) := by decide +kernel
theorem dX12_plan_238 : decode cX12_plan 238 = .ok (.ior, 1) := by decide +kernel
theorem dX12_plan_239 : decode cX12_plan 239 = .ok (.istore 4, 2) := by decide +kernel
theorem dX12_plan_241 : decode cX12_plan 241 = .ok (.iinc 5 1, 3) := by decide +kernel
theorem dX12_plan_244 : decode cX12_plan 244 = .ok (.goto (-80), 3) := by decide +kernel
theorem dX12_plan_247 : decode cX12_plan 247 = .ok (.aload_n 0, 1) := by decide +kernel
theorem dX12_plan_248 : decode cX12_plan 248 = .ok (.getfield 83, 3) := by decide +kernel
theorem dX12_plan_251 : decode cX12_plan 251 = .ok (.iconst 0, 1) := by decide +kernel
theorem dX12_plan_252 : decode cX12_plan 252 = .ok (.iaload, 1) := by decide +kernel
theorem dX12_plan_253 : decode cX12_plan 253 = .ok (.ireturn, 1) := by decide +kernel
theorem dX12_week_0 : decode cX12_week 0 = .ok (.aload_n 0, 1) := by decide +kernel
theorem dX12_week_1 : decode cX12_week 1 = .ok (.iload_n 1, 1) := by decide +kernel
theorem dX12_week_2 : decode cX12_week 2 = .ok (.invokevirtual 165, 3) := by decide +kernel
theorem dX12_week_5 : decode cX12_week 5 = .ok (.ifCond .ne 7, 3) := by decide +kernel
theorem dX12_week_8 : decode cX12_week 8 = .ok (.iconst (-1), 1) := by decide +kernel
theorem dX12_week_9 : decode cX12_week 9 = .ok (.goto 21, 3) := by decide +kernel
theorem dX12_week_12 : decode cX12_week 12 = .ok (.aload_n 0, 1) := by decide +kernel
theorem dX12_week_13 : decode cX12_week 13 = .ok (.getfield 176, 3) := by decide +kernel
theorem dX12_week_16 : decode cX12_week 16 = .ok (.ifCond .ne 8, 3) := by decide +kernel
theorem dX12_week_19 : decode cX12_week 19 = .ok (.bipush (-4), 2) := by decide +kernel
theorem dX12_week_21 : decode cX12_week 21 = .ok (.goto 9, 3) := by decide +kernel
theorem dX12_week_24 : decode cX12_week 24 = .ok (.aload_n 0, 1) := by decide +kernel
theorem dX12_week_25 : decode cX12_week 25 = .ok (.getfield 89, 3) := by decide +kernel
theorem dX12_week_28 : decode cX12_week 28 = .ok (.iload_n 1, 1) := by decide +kernel
theorem dX12_week_29 : decode cX12_week 29 = .ok (.iaload, 1) := by decide +kernel
theorem dX12_week_30 : decode cX12_week 30 = .ok (.ireturn, 1) := by decide +kernel
theorem dX12_moved_0 : decode cX12_moved 0 = .ok (.aload_n 0, 1) := by decide +kernel
theorem dX12_moved_1 : decode cX12_moved 1 = .ok (.getfield 176, 3) := by decide +kernel
theorem dX12_moved_4 : decode cX12_moved 4 = .ok (.iconst 2, 1) := by decide +kernel
theorem dX12_moved_5 : decode cX12_moved 5 = .ok (.if_icmp .ge 6, 3) := by decide +kernel
theorem dX12_moved_8 : decode cX12_moved 8 = .ok (.bipush (-4), 2) := by decide +kernel
theorem dX12_moved_10 : decode cX12_moved 10 = .ok (.ireturn, 1) := by decide +kernel
theorem dX12_moved_11 : decode cX12_moved 11 = .ok (.iconst 0, 1) := by decide +kernel
theorem dX12_moved_12 : decode cX12_moved 12 = .ok (.istore_n 1, 1) := by decide +kernel
theorem dX12_moved_13 : decode cX12_moved 13 = .ok (.iconst 0, 1) := by decide +kernel
theorem dX12_moved_14 : decode cX12_moved 14 = .ok (.istore_n 2, 1) := by decide +kernel
theorem dX12_moved_15 : decode cX12_moved 15 = .ok (.iload_n 2, 1) := by decide +kernel
theorem dX12_moved_16 : decode cX12_moved 16 = .ok (.bipush 8, 2) := by decide +kernel
theorem dX12_moved_18 : decode cX12_moved 18 = .ok (.if_icmp .ge 34, 3) := by decide +kernel
theorem dX12_moved_21 : decode cX12_moved 21 = .ok (.iload_n 1, 1) := by decide +kernel
theorem dX12_moved_22 : decode cX12_moved 22 = .ok (.aload_n 0, 1) := by decide +kernel
theorem dX12_moved_23 : decode cX12_moved 23 = .ok (.getfield 89, 3) := by decide +kernel
theorem dX12_moved_26 : decode cX12_moved 26 = .ok (.iload_n 2, 1) := by decide +kernel
theorem dX12_moved_27 : decode cX12_moved 27 = .ok (.iaload, 1) := by decide +kernel
theorem dX12_moved_28 : decode cX12_moved 28 = .ok (.aload_n 0, 1) := by decide +kernel
theorem dX12_moved_29 : decode cX12_moved 29 = .ok (.getfield 92, 3) := by decide +kernel
theorem dX12_moved_32 : decode cX12_moved 32 = .ok (.iload_n 2, 1) := by decide +kernel
theorem dX12_moved_33 : decode cX12_moved 33 = .ok (.iaload, 1) := by decide +kernel
theorem dX12_moved_34 : decode cX12_moved 34 = .ok (.if_icmp .ne 7, 3) := by decide +kernel
theorem dX12_moved_37 : decode cX12_moved 37 = .ok (.iconst 0, 1) := by decide +kernel
theorem dX12_moved_38 : decode cX12_moved 38 = .ok (.goto 6, 3) := by decide +kernel
theorem dX12_moved_41 : decode cX12_moved 41 = .ok (.iconst 1, 1) := by decide +kernel
theorem dX12_moved_42 : decode cX12_moved 42 = .ok (.iload_n 2, 1) := by decide +kernel
theorem dX12_moved_43 : decode cX12_moved 43 = .ok (.ishl, 1) := by decide +kernel
theorem dX12_moved_44 : decode cX12_moved 44 = .ok (.ior, 1) := by decide +kernel
theorem dX12_moved_45 : decode cX12_moved 45 = .ok (.istore_n 1, 1) := by decide +kernel
theorem dX12_moved_46 : decode cX12_moved 46 = .ok (.iinc 2 1, 3) := by decide +kernel
theorem dX12_moved_49 : decode cX12_moved 49 = .ok (.goto (-34), 3) := by decide +kernel
theorem dX12_moved_52 : decode cX12_moved 52 = .ok (.iload_n 1, 1) := by decide +kernel
theorem dX12_moved_53 : decode cX12_moved 53 = .ok (.ireturn, 1) := by decide +kernel
theorem dX12_make_0 : decode cX12_make 0 = .ok (.aload_n 0, 1) := by decide +kernel
theorem dX12_make_1 : decode cX12_make 1 = .ok (.iload_n 1, 1) := by decide +kernel
theorem dX12_make_2 : decode cX12_make 2 = .ok (.invokevirtual 165, 3) := by decide +kernel
theorem dX12_make_5 : decode cX12_make 5 = .ok (.ifCond .ne 5, 3) := by decide +kernel
theorem dX12_make_8 : decode cX12_make 8 = .ok (.iconst (-1), 1) := by decide +kernel
theorem dX12_make_9 : decode cX12_make 9 = .ok (.ireturn, 1) := by decide +kernel
theorem dX12_make_10 : decode cX12_make 10 = .ok (.aload_n 0, 1) := by decide +kernel
theorem dX12_make_11 : decode cX12_make 11 = .ok (.getfield 65, 3) := by decide +kernel
theorem dX12_make_14 : decode cX12_make 14 = .ok (.iload_n 1, 1) := by decide +kernel
theorem dX12_make_15 : decode cX12_make 15 = .ok (.iaload, 1) := by decide +kernel
theorem dX12_make_16 : decode cX12_make 16 = .ok (.istore_n 2, 1) := by decide +kernel
theorem dX12_make_17 : decode cX12_make 17 = .ok (.aload_n 0, 1) := by decide +kernel
theorem dX12_make_18 : decode cX12_make 18 = .ok (.iconst 1, 1) := by decide +kernel
theorem dX12_make_19 : decode cX12_make 19 = .ok (.iload_n 1, 1) := by decide +kernel
theorem dX12_make_20 : decode cX12_make 20 = .ok (.ishl, 1) := by decide +kernel
theorem dX12_make_21 : decode cX12_make 21 = .ok (.invokevirtual 140, 3) := by decide +kernel
theorem dX12_make_24 : decode cX12_make 24 = .ok (.aload_n 0, 1) := by decide +kernel
theorem dX12_make_25 : decode cX12_make 25 = .ok (.invokevirtual 155, 3) := by decide +kernel
theorem dX12_make_28 : decode cX12_make 28 = .ok (.ifCond .ne 27, 3) := by decide +kernel
theorem dX12_make_31 : decode cX12_make 31 = .ok (.iload_n 2, 1) := by decide +kernel
theorem dX12_make_32 : decode cX12_make 32 = .ok (.ifCond .lt 26, 3) := by decide +kernel
theorem dX12_make_35 : decode cX12_make 35 = .ok (.aload_n 0, 1) := by decide +kernel
theorem dX12_make_36 : decode cX12_make 36 = .ok (.getfield 7, 3) := by decide +kernel
theorem dX12_make_39 : decode cX12_make 39 = .ok (.aload_n 0, 1) := by decide +kernel
theorem dX12_make_40 : decode cX12_make 40 = .ok (.getfield 56, 3) := by decide +kernel
theorem dX12_make_43 : decode cX12_make 43 = .ok (.iload_n 2, 1) := by decide +kernel
theorem dX12_make_44 : decode cX12_make 44 = .ok (.iaload, 1) := by decide +kernel
theorem dX12_make_45 : decode cX12_make 45 = .ok (.iaload, 1) := by decide +kernel
theorem dX12_make_46 : decode cX12_make 46 = .ok (.aload_n 0, 1) := by decide +kernel
theorem dX12_make_47 : decode cX12_make 47 = .ok (.getfield 59, 3) := by decide +kernel
theorem dX12_make_50 : decode cX12_make 50 = .ok (.iload_n 2, 1) := by decide +kernel
theorem dX12_make_51 : decode cX12_make 51 = .ok (.iaload, 1) := by decide +kernel
theorem dX12_make_52 : decode cX12_make 52 = .ok (.if_icmp .ge 6, 3) := by decide +kernel
theorem dX12_make_55 : decode cX12_make 55 = .ok (.bipush (-2), 2) := by decide +kernel
theorem dX12_make_57 : decode cX12_make 57 = .ok (.ireturn, 1) := by decide +kernel
theorem dX12_make_58 : decode cX12_make 58 = .ok (.aload_n 0, 1) := by decide +kernel
theorem dX12_make_59 : decode cX12_make 59 = .ok (.iconst 0, 1) := by decide +kernel
theorem dX12_make_60 : decode cX12_make 60 = .ok (.invokevirtual 148, 3) := by decide +kernel
theorem dX12_make_63 : decode cX12_make 63 = .ok (.istore_n 3, 1) := by decide +kernel
theorem dX12_make_64 : decode cX12_make 64 = .ok (.aload_n 0, 1) := by decide +kernel
theorem dX12_make_65 : decode cX12_make 65 = .ok (.getfield 56, 3) := by decide +kernel
theorem dX12_make_68 : decode cX12_make 68 = .ok (.iload_n 1, 1) := by decide +kernel
theorem dX12_make_69 : decode cX12_make 69 = .ok (.iaload, 1) := by decide +kernel
theorem dX12_make_70 : decode cX12_make 70 = .ok (.istore 4, 2) := by decide +kernel
theorem dX12_make_72 : decode cX12_make 72 = .ok (.aload_n 0, 1) := by decide +kernel
theorem dX12_make_73 : decode cX12_make 73 = .ok (.getfield 7, 3) := by decide +kernel
theorem dX12_make_76 : decode cX12_make 76 = .ok (.iload 4, 2) := by decide +kernel
theorem dX12_make_78 : decode cX12_make 78 = .ok (.aload_n 0, 1) := by decide +kernel
theorem dX12_make_79 : decode cX12_make 79 = .ok (.getfield 59, 3) := by decide +kernel
theorem dX12_make_82 : decode cX12_make 82 = .ok (.iload_n 1, 1) := by decide +kernel
theorem dX12_make_83 : decode cX12_make 83 = .ok (.iaload, 1) := by decide +kernel
theorem dX12_make_84 : decode cX12_make 84 = .ok (.aload_n 0, 1) := by decide +kernel
theorem dX12_make_85 : decode cX12_make 85 = .ok (.getfield 7, 3) := by decide +kernel
theorem dX12_make_88 : decode cX12_make 88 = .ok (.iload 4, 2) := by decide +kernel
theorem dX12_make_90 : decode cX12_make 90 = .ok (.iaload, 1) := by decide +kernel
theorem dX12_make_91 : decode cX12_make 91 = .ok (.if_icmp .le 12, 3) := by decide +kernel
theorem dX12_make_94 : decode cX12_make 94 = .ok (.aload_n 0, 1) := by decide +kernel
theorem dX12_make_95 : decode cX12_make 95 = .ok (.getfield 59, 3) := by decide +kernel
theorem dX12_make_98 : decode cX12_make 98 = .ok (.iload_n 1, 1) := by decide +kernel
theorem dX12_make_99 : decode cX12_make 99 = .ok (.iaload, 1) := by decide +kernel
theorem dX12_make_100 : decode cX12_make 100 = .ok (.goto 10, 3) := by decide +kernel
theorem dX12_make_103 : decode cX12_make 103 = .ok (.aload_n 0, 1) := by decide +kernel
theorem dX12_make_104 : decode cX12_make 104 = .ok (.getfield 7, 3) := by decide +kernel
theorem dX12_make_107 : decode cX12_make 107 = .ok (.iload 4, 2) := by decide +kernel
theorem dX12_make_109 : decode cX12_make 109 = .ok (.iaload, 1) := by decide +kernel
theorem dX12_make_110 : decode cX12_make 110 = .ok (.iastore, 1) := by decide +kernel
theorem dX12_make_111 : decode cX12_make 111 = .ok (.ldc 179, 2) := by decide +kernel
theorem dX12_make_113 : decode cX12_make 113 = .ok (.iload_n 3, 1) := by decide +kernel
theorem dX12_make_114 : decode cX12_make 114 = .ok (.iadd, 1) := by decide +kernel
theorem dX12_make_115 : decode cX12_make 115 = .ok (.aload_n 0, 1) := by decide +kernel
theorem dX12_make_116 : decode cX12_make 116 = .ok (.iconst 0, 1) := by decide +kernel
theorem dX12_make_117 : decode cX12_make 117 = .ok (.invokevirtual 148, 3) := by decide +kernel
theorem dX12_make_120 : decode cX12_make 120 = .ok (.isub, 1) := by decide +kernel
theorem dX12_make_121 : decode cX12_make 121 = .ok (.ireturn, 1) := by decide +kernel
theorem dX12_count_0 : decode cX12_count 0 = .ok (.iconst 0, 1) := by decide +kernel
theorem dX12_count_1 : decode cX12_count 1 = .ok (.istore_n 2, 1) := by decide +kernel
theorem dX12_count_2 : decode cX12_count 2 = .ok (.iload_n 1, 1) := by decide +kernel
theorem dX12_count_3 : decode cX12_count 3 = .ok (.tableswitch 140 0 5 #[37, 42, 47, 52, 57, 96], 37) := by decide +kernel
theorem dX12_count_40 : decode cX12_count 40 = .ok (.aload_n 0, 1) := by decide +kernel
theorem dX12_count_41 : decode cX12_count 41 = .ok (.getfield 95, 3) := by decide +kernel
theorem dX12_count_44 : decode cX12_count 44 = .ok (.ireturn, 1) := by decide +kernel
theorem dX12_count_45 : decode cX12_count 45 = .ok (.aload_n 0, 1) := by decide +kernel
theorem dX12_count_46 : decode cX12_count 46 = .ok (.getfield 110, 3) := by decide +kernel
theorem dX12_count_49 : decode cX12_count 49 = .ok (.ireturn, 1) := by decide +kernel
theorem dX12_count_50 : decode cX12_count 50 = .ok (.aload_n 0, 1) := by decide +kernel
theorem dX12_count_51 : decode cX12_count 51 = .ok (.getfield 123, 3) := by decide +kernel
theorem dX12_count_54 : decode cX12_count 54 = .ok (.ireturn, 1) := by decide +kernel
theorem dX12_count_55 : decode cX12_count 55 = .ok (.aload_n 0, 1) := by decide +kernel
theorem dX12_count_56 : decode cX12_count 56 = .ok (.getfield 152, 3) := by decide +kernel
theorem dX12_count_59 : decode cX12_count 59 = .ok (.ireturn, 1) := by decide +kernel
theorem dX12_count_60 : decode cX12_count 60 = .ok (.aload_n 0, 1) := by decide +kernel
theorem dX12_count_61 : decode cX12_count 61 = .ok (.iconst 0, 1) := by decide +kernel
theorem dX12_count_62 : decode cX12_count 62 = .ok (.invokevirtual 140, 3) := by decide +kernel
theorem dX12_count_65 : decode cX12_count 65 = .ok (.iconst 0, 1) := by decide +kernel
theorem dX12_count_66 : decode cX12_count 66 = .ok (.istore_n 3, 1) := by decide +kernel
theorem dX12_count_67 : decode cX12_count 67 = .ok (.iload_n 3, 1) := by decide +kernel
theorem dX12_count_68 : decode cX12_count 68 = .ok (.aload_n 0, 1) := by decide +kernel
theorem dX12_count_69 : decode cX12_count 69 = .ok (.getfield 110, 3) := by decide +kernel
theorem dX12_count_72 : decode cX12_count 72 = .ok (.if_icmp .ge 25, 3) := by decide +kernel
theorem dX12_count_75 : decode cX12_count 75 = .ok (.iload_n 2, 1) := by decide +kernel
theorem dX12_count_76 : decode cX12_count 76 = .ok (.aload_n 0, 1) := by decide +kernel
theorem dX12_count_77 : decode cX12_count 77 = .ok (.iload_n 3, 1) := by decide +kernel
theorem dX12_count_78 : decode cX12_count 78 = .ok (.invokevirtual 126, 3) := by decide +kernel
theorem dX12_count_81 : decode cX12_count 81 = .ok (.ifCond .eq 7, 3) := by decide +kernel
theorem dX12_count_84 : decode cX12_count 84 = .ok (.iconst 1, 1) := by decide +kernel
theorem dX12_count_85 : decode cX12_count 85 = .ok (.goto 4, 3) := by decide +kernel
theorem dX12_count_88 : decode cX12_count 88 = .ok (.iconst 0, 1) := by decide +kernel
theorem dX12_count_89 : decode cX12_count 89 = .ok (.iadd, 1) := by decide +kernel
theorem dX12_count_90 : decode cX12_count 90 = .ok (.istore_n 2, 1) := by decide +kernel
theorem dX12_count_91 : decode cX12_count 91 = .ok (.iinc 3 1, 3) := by decide +kernel
theorem dX12_count_94 : decode cX12_count 94 = .ok (.goto (-27), 3) := by decide +kernel
theorem dX12_count_97 : decode cX12_count 97 = .ok (.iload_n 2, 1) := by decide +kernel
theorem dX12_count_98 : decode cX12_count 98 = .ok (.ireturn, 1) := by decide +kernel
theorem dX12_count_99 : decode cX12_count 99 = .ok (.aload_n 0, 1) := by decide +kernel
theorem dX12_count_100 : decode cX12_count 100 = .ok (.iconst 0, 1) := by decide +kernel
theorem dX12_count_101 : decode cX12_count 101 = .ok (.invokevirtual 148, 3) := by decide +kernel
theorem dX12_count_104 : decode cX12_count 104 = .ok (.istore_n 3, 1) := by decide +kernel
theorem dX12_count_105 : decode cX12_count 105 = .ok (.iconst 0, 1) := by decide +kernel
theorem dX12_count_106 : decode cX12_count 106 = .ok (.istore 4, 2) := by decide +kernel
theorem dX12_count_108 : decode cX12_count 108 = .ok (.iload 4, 2) := by decide +kernel
theorem dX12_count_110 : decode cX12_count 110 = .ok (.aload_n 0, 1) := by decide +kernel
theorem dX12_count_111 : decode cX12_count 111 = .ok (.getfield 95, 3) := by decide +kernel
theorem dX12_count_114 : decode cX12_count 114 = .ok (.if_icmp .ge 27, 3) := by decide +kernel
theorem dX12_count_117 : decode cX12_count 117 = .ok (.iload_n 2, 1) := by decide +kernel
theorem dX12_count_118 : decode cX12_count 118 = .ok (.aload_n 0, 1) := by decide +kernel
theorem dX12_count_119 : decode cX12_count 119 = .ok (.getfield 47, 3) := by decide +kernel
theorem dX12_count_122 : decode cX12_count 122 = .ok (.iload 4, 2) := by decide +kernel
theorem dX12_count_124 : decode cX12_count 124 = .ok (.iaload, 1) := by decide +kernel
theorem dX12_count_125 : decode cX12_count 125 = .ok (.ifCond .le 7, 3) := by decide +kernel
theorem dX12_count_128 : decode cX12_count 128 = .ok (.iconst 1, 1) := by decide +kernel
theorem dX12_count_129 : decode cX12_count 129 = .ok (.goto 4, 3) := by decide +kernel
theorem dX12_count_132 : decode cX12_count 132 = .ok (.iconst 0, 1) := by decide +kernel
theorem dX12_count_133 : decode cX12_count 133 = .ok (.iadd, 1) := by decide +kernel
theorem dX12_count_134 : decode cX12_count 134 = .ok (.istore_n 2, 1) := by decide +kernel
theorem dX12_count_135 : decode cX12_count 135 = .ok (.iinc 4 1, 3) := by decide +kernel
theorem dX12_count_138 : decode cX12_count 138 = .ok (.goto (-30), 3) := by decide +kernel
theorem dX12_count_141 : decode cX12_count 141 = .ok (.iload_n 2, 1) := by decide +kernel
theorem dX12_count_142 : decode cX12_count 142 = .ok (.ireturn, 1) := by decide +kernel
theorem dX12_count_143 : decode cX12_count 143 = .ok (.iconst (-1), 1) := by decide +kernel
theorem dX12_count_144 : decode cX12_count 144 = .ok (.ireturn, 1) := by decide +kernel
theorem dJ6_bitCount_0f7a4_0 : decode cJ6_bitCount_0f7a4 0 = .ok (.iload_n 0, 1) := by decide +kernel
theorem dJ6_bitCount_0f7a4_1 : decode cJ6_bitCount_0f7a4 1 = .ok (.iload_n 0, 1) := by decide +kernel
theorem dJ6_bitCount_0f7a4_2 : decode cJ6_bitCount_0f7a4 2 = .ok (.iconst 1, 1) := by decide +kernel
theorem dJ6_bitCount_0f7a4_3 : decode cJ6_bitCount_0f7a4 3 = .ok (.iushr, 1) := by decide +kernel
theorem dJ6_bitCount_0f7a4_4 : decode cJ6_bitCount_0f7a4 4 = .ok (.ldc_w 265, 3) := by decide +kernel
theorem dJ6_bitCount_0f7a4_7 : decode cJ6_bitCount_0f7a4 7 = .ok (.iand, 1) := by decide +kernel
theorem dJ6_bitCount_0f7a4_8 : decode cJ6_bitCount_0f7a4 8 = .ok (.isub, 1) := by decide +kernel
theorem dJ6_bitCount_0f7a4_9 : decode cJ6_bitCount_0f7a4 9 = .ok (.istore_n 0, 1) := by decide +kernel
theorem dJ6_bitCount_0f7a4_10 : decode cJ6_bitCount_0f7a4 10 = .ok (.iload_n 0, 1) := by decide +kernel
theorem dJ6_bitCount_0f7a4_11 : decode cJ6_bitCount_0f7a4 11 = .ok (.ldc_w 266, 3) := by decide +kernel
theorem dJ6_bitCount_0f7a4_14 : decode cJ6_bitCount_0f7a4 14 = .ok (.iand, 1) := by decide +kernel
theorem dJ6_bitCount_0f7a4_15 : decode cJ6_bitCount_0f7a4 15 = .ok (.iload_n 0, 1) := by decide +kernel
theorem dJ6_bitCount_0f7a4_16 : decode cJ6_bitCount_0f7a4 16 = .ok (.iconst 2, 1) := by decide +kernel
theorem dJ6_bitCount_0f7a4_17 : decode cJ6_bitCount_0f7a4 17 = .ok (.iushr, 1) := by decide +kernel
theorem dJ6_bitCount_0f7a4_18 : decode cJ6_bitCount_0f7a4 18 = .ok (.ldc_w 266, 3) := by decide +kernel
theorem dJ6_bitCount_0f7a4_21 : decode cJ6_bitCount_0f7a4 21 = .ok (.iand, 1) := by decide +kernel
theorem dJ6_bitCount_0f7a4_22 : decode cJ6_bitCount_0f7a4 22 = .ok (.iadd, 1) := by decide +kernel
theorem dJ6_bitCount_0f7a4_23 : decode cJ6_bitCount_0f7a4 23 = .ok (.istore_n 0, 1) := by decide +kernel
theorem dJ6_bitCount_0f7a4_24 : decode cJ6_bitCount_0f7a4 24 = .ok (.iload_n 0, 1) := by decide +kernel
theorem dJ6_bitCount_0f7a4_25 : decode cJ6_bitCount_0f7a4 25 = .ok (.iload_n 0, 1) := by decide +kernel
theorem dJ6_bitCount_0f7a4_26 : decode cJ6_bitCount_0f7a4 26 = .ok (.iconst 4, 1) := by decide +kernel
theorem dJ6_bitCount_0f7a4_27 : decode cJ6_bitCount_0f7a4 27 = .ok (.iushr, 1) := by decide +kernel
theorem dJ6_bitCount_0f7a4_28 : decode cJ6_bitCount_0f7a4 28 = .ok (.iadd, 1) := by decide +kernel
theorem dJ6_bitCount_0f7a4_29 : decode cJ6_bitCount_0f7a4 29 = .ok (.ldc_w 267, 3) := by decide +kernel
theorem dJ6_bitCount_0f7a4_32 : decode cJ6_bitCount_0f7a4 32 = .ok (.iand, 1) := by decide +kernel
theorem dJ6_bitCount_0f7a4_33 : decode cJ6_bitCount_0f7a4 33 = .ok (.istore_n 0, 1) := by decide +kernel
theorem dJ6_bitCount_0f7a4_34 : decode cJ6_bitCount_0f7a4 34 = .ok (.iload_n 0, 1) := by decide +kernel
theorem dJ6_bitCount_0f7a4_35 : decode cJ6_bitCount_0f7a4 35 = .ok (.iload_n 0, 1) := by decide +kernel
theorem dJ6_bitCount_0f7a4_36 : decode cJ6_bitCount_0f7a4 36 = .ok (.bipush 8, 2) := by decide +kernel
theorem dJ6_bitCount_0f7a4_38 : decode cJ6_bitCount_0f7a4 38 = .ok (.iushr, 1) := by decide +kernel
theorem dJ6_bitCount_0f7a4_39 : decode cJ6_bitCount_0f7a4 39 = .ok (.iadd, 1) := by decide +kernel
theorem dJ6_bitCount_0f7a4_40 : decode cJ6_bitCount_0f7a4 40 = .ok (.istore_n 0, 1) := by decide +kernel
theorem dJ6_bitCount_0f7a4_41 : decode cJ6_bitCount_0f7a4 41 = .ok (.iload_n 0, 1) := by decide +kernel
theorem dJ6_bitCount_0f7a4_42 : decode cJ6_bitCount_0f7a4 42 = .ok (.iload_n 0, 1) := by decide +kernel
theorem dJ6_bitCount_0f7a4_43 : decode cJ6_bitCount_0f7a4 43 = .ok (.bipush 16, 2) := by decide +kernel
theorem dJ6_bitCount_0f7a4_45 : decode cJ6_bitCount_0f7a4 45 = .ok (.iushr, 1) := by decide +kernel
theorem dJ6_bitCount_0f7a4_46 : decode cJ6_bitCount_0f7a4 46 = .ok (.iadd, 1) := by decide +kernel
theorem dJ6_bitCount_0f7a4_47 : decode cJ6_bitCount_0f7a4 47 = .ok (.istore_n 0, 1) := by decide +kernel
theorem dJ6_bitCount_0f7a4_48 : decode cJ6_bitCount_0f7a4 48 = .ok (.iload_n 0, 1) := by decide +kernel
theorem dJ6_bitCount_0f7a4_49 : decode cJ6_bitCount_0f7a4 49 = .ok (.bipush 63, 2) := by decide +kernel
theorem dJ6_bitCount_0f7a4_51 : decode cJ6_bitCount_0f7a4 51 = .ok (.iand, 1) := by decide +kernel
theorem dJ6_bitCount_0f7a4_52 : decode cJ6_bitCount_0f7a4 52 = .ok (.ireturn, 1) := by decide +kernel
theorem dJ9_max_7cf53_0 : decode cJ9_max_7cf53 0 = .ok (.iload_n 0, 1) := by decide +kernel
theorem dJ9_max_7cf53_1 : decode cJ9_max_7cf53 1 = .ok (.iload_n 1, 1) := by decide +kernel
theorem dJ9_max_7cf53_2 : decode cJ9_max_7cf53 2 = .ok (.if_icmp .lt 7, 3) := by decide +kernel
theorem dJ9_max_7cf53_5 : decode cJ9_max_7cf53 5 = .ok (.iload_n 0, 1) := by decide +kernel
theorem dJ9_max_7cf53_6 : decode cJ9_max_7cf53 6 = .ok (.goto 4, 3) := by decide +kernel
theorem dJ9_max_7cf53_9 : decode cJ9_max_7cf53 9 = .ok (.iload_n 1, 1) := by decide +kernel
theorem dJ9_max_7cf53_10 : decode cJ9_max_7cf53 10 = .ok (.ireturn, 1) := by decide +kernel
theorem dJ7_fill_53178_0 : decode cJ7_fill_53178 0 = .ok (.iconst 0, 1) := by decide +kernel
theorem dJ7_fill_53178_1 : decode cJ7_fill_53178 1 = .ok (.istore_n 2, 1) := by decide +kernel
theorem dJ7_fill_53178_2 : decode cJ7_fill_53178 2 = .ok (.aload_n 0, 1) := by decide +kernel
theorem dJ7_fill_53178_3 : decode cJ7_fill_53178 3 = .ok (.arraylength, 1) := by decide +kernel
theorem dJ7_fill_53178_4 : decode cJ7_fill_53178 4 = .ok (.istore_n 3, 1) := by decide +kernel
theorem dJ7_fill_53178_5 : decode cJ7_fill_53178 5 = .ok (.iload_n 2, 1) := by decide +kernel
theorem dJ7_fill_53178_6 : decode cJ7_fill_53178 6 = .ok (.iload_n 3, 1) := by decide +kernel
theorem dJ7_fill_53178_7 : decode cJ7_fill_53178 7 = .ok (.if_icmp .ge 13, 3) := by decide +kernel
theorem dJ7_fill_53178_10 : decode cJ7_fill_53178 10 = .ok (.aload_n 0, 1) := by decide +kernel
theorem dJ7_fill_53178_11 : decode cJ7_fill_53178 11 = .ok (.iload_n 2, 1) := by decide +kernel
theorem dJ7_fill_53178_12 : decode cJ7_fill_53178 12 = .ok (.iload_n 1, 1) := by decide +kernel
theorem dJ7_fill_53178_13 : decode cJ7_fill_53178 13 = .ok (.iastore, 1) := by decide +kernel
theorem dJ7_fill_53178_14 : decode cJ7_fill_53178 14 = .ok (.iinc 2 1, 3) := by decide +kernel
theorem dJ7_fill_53178_17 : decode cJ7_fill_53178 17 = .ok (.goto (-12), 3) := by decide +kernel
theorem dJ7_fill_53178_20 : decode cJ7_fill_53178 20 = .ok (.return_, 1) := by decide +kernel
theorem dL_law_0 : decode cL_law 0 = .ok (.new 7, 3) := by decide +kernel
theorem dL_law_3 : decode cL_law 3 = .ok (.dup, 1) := by decide +kernel
theorem dL_law_4 : decode cL_law 4 = .ok (.invokespecial 9, 3) := by decide +kernel
theorem dL_law_7 : decode cL_law 7 = .ok (.astore_n 1, 1) := by decide +kernel
theorem dL_law_8 : decode cL_law 8 = .ok (.new 10, 3) := by decide +kernel
theorem dL_law_11 : decode cL_law 11 = .ok (.dup, 1) := by decide +kernel
theorem dL_law_12 : decode cL_law 12 = .ok (.invokespecial 12, 3) := by decide +kernel
theorem dL_law_15 : decode cL_law 15 = .ok (.astore_n 2, 1) := by decide +kernel
theorem dL_law_16 : decode cL_law 16 = .ok (.iconst 0, 1) := by decide +kernel
theorem dL_law_17 : decode cL_law 17 = .ok (.istore_n 3, 1) := by decide +kernel
theorem dL_law_18 : decode cL_law 18 = .ok (.iload_n 3, 1) := by decide +kernel
theorem dL_law_19 : decode cL_law 19 = .ok (.aload_n 0, 1) := by decide +kernel
theorem dL_law_20 : decode cL_law 20 = .ok (.arraylength, 1) := by decide +kernel
theorem dL_law_21 : decode cL_law 21 = .ok (.bipush 7, 2) := by decide +kernel
theorem dL_law_23 : decode cL_law 23 = .ok (.isub, 1) := by decide +kernel
theorem dL_law_24 : decode cL_law 24 = .ok (.if_icmp .gt 954, 3) := by decide +kernel
theorem dL_law_27 : decode cL_law 27 = .ok (.aload_n 0, 1) := by decide +kernel
theorem dL_law_28 : decode cL_law 28 = .ok (.iload_n 3, 1) := by decide +kernel
theorem dL_law_29 : decode cL_law 29 = .ok (.iaload, 1) := by decide +kernel
theorem dL_law_30 : decode cL_law 30 = .ok (.bipush 31, 2) := by decide +kernel
theorem dL_law_32 : decode cL_law 32 = .ok (.iand, 1) := by decide +kernel
theorem dL_law_33 : decode cL_law 33 = .ok (.tableswitch 939 0 23 #[111, 170, 229, 278, 311, 364, 417, 466, 489, 522, 535, 548, 581, 594, 669, 722, 745, 768, 801, 824, 857, 880, 893, 916], 111) := by decide +kernel
theorem dL_law_144 : decode cL_law 144 = .ok (.aload_n 1, 1) := by decide +kernel
theorem dL_law_145 : decode cL_law 145 = .ok (.aload_n 0, 1) := by decide +kernel
theorem dL_law_146 : decode cL_law 146 = .ok (.iload_n 3, 1) := by decide +kernel
theorem dL_law_147 : decode cL_law 147 = .ok (.iconst 1, 1) := by decide +kernel
theorem dL_law_148 : decode cL_law 148 = .ok (.iadd, 1) := by decide +kernel
theorem dL_law_149 : decode cL_law 149 = .ok (.iaload, 1) := by decide +kernel
theorem dL_law_150 : decode cL_law 150 = .ok (.aload_n 0, 1) := by decide +kernel
theorem dL_law_151 : decode cL_law 151 = .ok (.iload_n 3, 1) := by decide +kernel
theorem dL_law_152 : decode cL_law 152 = .ok (.iconst 2, 1) := by decide +kernel
theorem dL_law_153 : decode cL_law 153 = .ok (.iadd, 1) := by decide +kernel
theorem dL_law_154 : decode cL_law 154 = .ok (.iaload, 1) := by decide +kernel
theorem dL_law_155 : decode cL_law 155 = .ok (.aload_n 0, 1) := by decide +kernel
theorem dL_law_156 : decode cL_law 156 = .ok (.iload_n 3, 1) := by decide +kernel
theorem dL_law_157 : decode cL_law 157 = .ok (.iconst 3, 1) := by decide +kernel
theorem dL_law_158 : decode cL_law 158 = .ok (.iadd, 1) := by decide +kernel
theorem dL_law_159 : decode cL_law 159 = .ok (.iaload, 1) := by decide +kernel
theorem dL_law_160 : decode cL_law 160 = .ok (.ifCond .eq 7, 3) := by decide +kernel
theorem dL_law_163 : decode cL_law 163 = .ok (.iconst 1, 1) := by decide +kernel
theorem dL_law_164 : decode cL_law 164 = .ok (.goto 4, 3) := by decide +kernel
theorem dL_law_167 : decode cL_law 167 = .ok (.iconst 0, 1) := by decide +kernel
theorem dL_law_168 : decode cL_law 168 = .ok (.invokevirtual 13, 3) := by decide +kernel
theorem dL_law_171 : decode cL_law 171 = .ok (.aload_n 2, 1) := by decide +kernel
theorem dL_law_172 : decode cL_law 172 = .ok (.aload_n 0, 1) := by decide +kernel
theorem dL_law_173 : decode cL_law 173 = .ok (.iload_n 3, 1) := by decide +kernel
theorem dL_law_174 : decode cL_law 174 = .ok (.iconst 1, 1) := by decide +kernel
theorem dL_law_175 : decode cL_law 175 = .ok (.iadd, 1) := by decide +kernel
theorem dL_law_176 : decode cL_law 176 = .ok (.iaload, 1) := by decide +kernel
theorem dL_law_177 : decode cL_law 177 = .ok (.aload_n 0, 1) := by decide +kernel
theorem dL_law_178 : decode cL_law 178 = .ok (.iload_n 3, 1) := by decide +kernel
theorem dL_law_179 : decode cL_law 179 = .ok (.iconst 2, 1) := by decide +kernel
theorem dL_law_180 : decode cL_law 180 = .ok (.iadd, 1) := by decide +kernel
theorem dL_law_181 : decode cL_law 181 = .ok (.iaload, 1) := by decide +kernel
theorem dL_law_182 : decode cL_law 182 = .ok (.aload_n 0, 1) := by decide +kernel
theorem dL_law_183 : decode cL_law 183 = .ok (.iload_n 3, 1) := by decide +kernel
theorem dL_law_184 : decode cL_law 184 = .ok (.iconst 3, 1) := by decide +kernel
theorem dL_law_185 : decode cL_law 185 = .ok (.iadd, 1) := by decide +kernel
theorem dL_law_186 : decode cL_law 186 = .ok (.iaload, 1) := by decide +kernel
theorem dL_law_187 : decode cL_law 187 = .ok (.ifCond .eq 7, 3) := by decide +kernel
theorem dL_law_190 : decode cL_law 190 = .ok (.iconst 1, 1) := by decide +kernel
theorem dL_law_191 : decode cL_law 191 = .ok (.goto 4, 3) := by decide +kernel
theorem dL_law_194 : decode cL_law 194 = .ok (.iconst 0, 1) := by decide +kernel
theorem dL_law_195 : decode cL_law 195 = .ok (.invokevirtual 17, 3) := by decide +kernel
theorem dL_law_198 : decode cL_law 198 = .ok (.if_icmp .eq 774, 3) := by decide +kernel
theorem dL_law_201 : decode cL_law 201 = .ok (.iconst 0, 1) := by decide +kernel
theorem dL_law_202 : decode cL_law 202 = .ok (.ireturn, 1) := by decide +kernel
theorem dL_law_203 : decode cL_law 203 = .ok (.aload_n 1, 1) := by decide +kernel
theorem dL_law_204 : decode cL_law 204 = .ok (.aload_n 0, 1) := by decide +kernel
theorem dL_law_205 : decode cL_law 205 = .ok (.iload_n 3, 1) := by decide +kernel
theorem dL_law_206 : decode cL_law 206 = .ok (.iconst 1, 1) := by decide +kernel
theorem dL_law_207 : decode cL_law 207 = .ok (.iadd, 1) := by decide +kernel
theorem dL_law_208 : decode cL_law 208 = .ok (.iaload, 1) := by decide +kernel
theorem dL_law_209 : decode cL_law 209 = .ok (.aload_n 0, 1) := by decide +kernel
theorem dL_law_210 : decode cL_law 210 = .ok (.iload_n 3, 1) := by decide +kernel
theorem dL_law_211 : decode cL_law 211 = .ok (.iconst 2, 1) := by decide +kernel
theorem dL_law_212 : decode cL_law 212 = .ok (.iadd, 1) := by decide +kernel
theorem dL_law_213 : decode cL_law 213 = .ok (.iaload, 1) := by decide +kernel
theorem dL_law_214 : decode cL_law 214 = .ok (.aload_n 0, 1) := by decide +kernel
theorem dL_law_215 : decode cL_law 215 = .ok (.iload_n 3, 1) := by decide +kernel
theorem dL_law_216 : decode cL_law 216 = .ok (.iconst 3, 1) := by decide +kernel
theorem dL_law_217 : decode cL_law 217 = .ok (.iadd, 1) := by decide +kernel
theorem dL_law_218 : decode cL_law 218 = .ok (.iaload, 1) := by decide +kernel
theorem dL_law_219 : decode cL_law 219 = .ok (.ifCond .eq 7, 3) := by decide +kernel
theorem dL_law_222 : decode cL_law 222 = .ok (.iconst 1, 1) := by decide +kernel
theorem dL_law_223 : decode cL_law 223 = .ok (.goto 4, 3) := by decide +kernel
theorem dL_law_226 : decode cL_law 226 = .ok (.iconst 0, 1) := by decide +kernel
theorem dL_law_227 : decode cL_law 227 = .ok (.invokevirtual 18, 3) := by decide +kernel
theorem dL_law_230 : decode cL_law 230 = .ok (.aload_n 2, 1) := by decide +kernel
theorem dL_law_231 : decode cL_law 231 = .ok (.aload_n 0, 1) := by decide +kernel
theorem dL_law_232 : decode cL_law 232 = .ok (.iload_n 3, 1) := by decide +kernel
theorem dL_law_233 : decode cL_law 233 = .ok (.iconst 1, 1) := by decide +kernel
theorem dL_law_234 : decode cL_law 234 = .ok (.iadd, 1) := by decide +kernel
theorem dL_law_235 : decode cL_law 235 = .ok (.iaload, 1) := by decide +kernel
theorem dL_law_236 : decode cL_law 236 = .ok (.aload_n 0, 1) := by decide +kernel
theorem dL_law_237 : decode cL_law 237 = .ok (.iload_n 3, 1) := by decide +kernel
theorem dL_law_238 : decode cL_law 238 = .ok (.iconst 2, 1) := by decide +kernel
theorem dL_law_239 : decode cL_law 239 = .ok (.iadd, 1) := by decide +kernel
theorem dL_law_240 : decode cL_law 240 = .ok (.iaload, 1) := by decide +kernel
theorem dL_law_241 : decode cL_law 241 = .ok (.aload_n 0, 1) := by decide +kernel
theorem dL_law_242 : decode cL_law 242 = .ok (.iload_n 3, 1) := by decide +kernel
theorem dL_law_243 : decode cL_law 243 = .ok (.iconst 3, 1) := by decide +kernel
theorem dL_law_244 : decode cL_law 244 = .ok (.iadd, 1) := by decide +kernel
theorem dL_law_245 : decode cL_law 245 = .ok (.iaload, 1) := by decide +kernel
theorem dL_law_246 : decode cL_law 246 = .ok (.ifCond .eq 7, 3) := by decide +kernel
theorem dL_law_249 : decode cL_law 249 = .ok (.iconst 1, 1) := by decide +kernel
theorem dL_law_250 : decode cL_law 250 = .ok (.goto 4, 3) := by decide +kernel
theorem dL_law_253 : decode cL_law 253 = .ok (.iconst 0, 1) := by decide +kernel
theorem dL_law_254 : decode cL_law 254 = .ok (.invokevirtual 21, 3) := by decide +kernel
theorem dL_law_257 : decode cL_law 257 = .ok (.if_icmp .eq 715, 3) := by decide +kernel
theorem dL_law_260 : decode cL_law 260 = .ok (.iconst 0, 1) := by decide +kernel
theorem dL_law_261 : decode cL_law 261 = .ok (.ireturn, 1) := by decide +kernel
theorem dL_law_262 : decode cL_law 262 = .ok (.aload_n 1, 1) := by decide +kernel
theorem dL_law_263 : decode cL_law 263 = .ok (.aload_n 0, 1) := by decide +kernel
theorem dL_law_264 : decode cL_law 264 = .ok (.iload_n 3, 1) := by decide +kernel
theorem dL_law_265 : decode cL_law 265 = .ok (.iconst 1, 1) := by decide +kernel
theorem dL_law_266 : decode cL_law 266 = .ok (.iadd, 1) := by decide +kernel
theorem dL_law_267 : decode cL_law 267 = .ok (.iaload, 1) := by decide +kernel
theorem dL_law_268 : decode cL_law 268 = .ok (.aload_n 0, 1) := by decide +kernel
theorem dL_law_269 : decode cL_law 269 = .ok (.iload_n 3, 1) := by decide +kernel
theorem dL_law_270 : decode cL_law 270 = .ok (.iconst 2, 1) := by decide +kernel
theorem dL_law_271 : decode cL_law 271 = .ok (.iadd, 1) := by decide +kernel
theorem dL_law_272 : decode cL_law 272 = .ok (.iaload, 1) := by decide +kernel
theorem dL_law_273 : decode cL_law 273 = .ok (.ifCond .eq 7, 3) := by decide +kernel
theorem dL_law_276 : decode cL_law 276 = .ok (.iconst 1, 1) := by decide +kernel
theorem dL_law_277 : decode cL_law 277 = .ok (.goto 4, 3) := by decide +kernel
theorem dL_law_280 : decode cL_law 280 = .ok (.iconst 0, 1) := by decide +kernel
theorem dL_law_281 : decode cL_law 281 = .ok (.invokevirtual 22, 3) := by decide +kernel
theorem dL_law_284 : decode cL_law 284 = .ok (.aload_n 2, 1) := by decide +kernel
theorem dL_law_285 : decode cL_law 285 = .ok (.aload_n 0, 1) := by decide +kernel
theorem dL_law_286 : decode cL_law 286 = .ok (.iload_n 3, 1) := by decide +kernel
theorem dL_law_287 : decode cL_law 287 = .ok (.iconst 1, 1) := by decide +kernel
theorem dL_law_288 : decode cL_law 288 = .ok (.iadd, 1) := by decide +kernel
theorem dL_law_289 : decode cL_law 289 = .ok (.iaload, 1) := by decide +kernel
theorem dL_law_290 : decode cL_law 290 = .ok (.aload_n 0, 1) := by decide +kernel
theorem dL_law_291 : decode cL_law 291 = .ok (.iload_n 3, 1) := by decide +kernel
theorem dL_law_292 : decode cL_law 292 = .ok (.iconst 2, 1) := by decide +kernel
theorem dL_law_293 : decode cL_law 293 = .ok (.iadd, 1) := by decide +kernel
theorem dL_law_294 : decode cL_law 294 = .ok (.iaload, 1) := by decide +kernel
theorem dL_law_295 : decode cL_law 295 = .ok (.ifCond .eq 7, 3) := by decide +kernel
theorem dL_law_298 : decode cL_law 298 = .ok (.iconst 1, 1) := by decide +kernel
theorem dL_law_299 : decode cL_law 299 = .ok (.goto 4, 3) := by decide +kernel
theorem dL_law_302 : decode cL_law 302 = .ok (.iconst 0, 1) := by decide +kernel
theorem dL_law_303 : decode cL_law 303 = .ok (.invokevirtual 26, 3) := by decide +kernel
theorem dL_law_306 : decode cL_law 306 = .ok (.if_icmp .eq 666, 3) := by decide +kernel
theorem dL_law_309 : decode cL_law 309 = .ok (.iconst 0, 1) := by decide +kernel
theorem dL_law_310 : decode cL_law 310 = .ok (.ireturn, 1) := by decide +kernel
theorem dL_law_311 : decode cL_law 311 = .ok (.aload_n 1, 1) := by decide +kernel
theorem dL_law_312 : decode cL_law 312 = .ok (.aload_n 0, 1) := by decide +kernel
theorem dL_law_313 : decode cL_law 313 = .ok (.iload_n 3, 1) := by decide +kernel
theorem dL_law_314 : decode cL_law 314 = .ok (.iconst 1, 1) := by decide +kernel
theorem dL_law_315 : decode cL_law 315 = .ok (.iadd, 1) := by decide +kernel
theorem dL_law_316 : decode cL_law 316 = .ok (.iaload, 1) := by decide +kernel
theorem dL_law_317 : decode cL_law 317 = .ok (.aload_n 0, 1) := by decide +kernel
theorem dL_law_318 : decode cL_law 318 = .ok (.iload_n 3, 1) := by decide +kernel
theorem dL_law_319 : decode cL_law 319 = .ok (.iconst 2, 1) := by decide +kernel
theorem dL_law_320 : decode cL_law 320 = .ok (.iadd, 1) := by decide +kernel
theorem dL_law_321 : decode cL_law 321 = .ok (.iaload, 1) := by decide +kernel
theorem dL_law_322 : decode cL_law 322 = .ok (.invokevirtual 27, 3) := by decide +kernel
theorem dL_law_325 : decode cL_law 325 = .ok (.aload_n 2, 1) := by decide +kernel
theorem dL_law_326 : decode cL_law 326 = .ok (.aload_n 0, 1) := by decide +kernel
theorem dL_law_327 : decode cL_law 327 = .ok (.iload_n 3, 1) := by decide +kernel
theorem dL_law_328 : decode cL_law 328 = .ok (.iconst 1, 1) := by decide +kernel
theorem dL_law_329 : decode cL_law 329 = .ok (.iadd, 1) := by decide +kernel
theorem dL_law_330 : decode cL_law 330 = .ok (.iaload, 1) := by decide +kernel
theorem dL_law_331 : decode cL_law 331 = .ok (.aload_n 0, 1) := by decide +kernel
theorem dL_law_332 : decode cL_law 332 = .ok (.iload_n 3, 1) := by decide +kernel
theorem dL_law_333 : decode cL_law 333 = .ok (.iconst 2, 1) := by decide +kernel
theorem dL_law_334 : decode cL_law 334 = .ok (.iadd, 1) := by decide +kernel
theorem dL_law_335 : decode cL_law 335 = .ok (.iaload, 1) := by decide +kernel
theorem dL_law_336 : decode cL_law 336 = .ok (.invokevirtual 31, 3) := by decide +kernel
theorem dL_law_339 : decode cL_law 339 = .ok (.if_icmp .eq 633, 3) := by decide +kernel
theorem dL_law_342 : decode cL_law 342 = .ok (.iconst 0, 1) := by decide +kernel
theorem dL_law_343 : decode cL_law 343 = .ok (.ireturn, 1) := by decide +kernel
theorem dL_law_344 : decode cL_law 344 = .ok (.aload_n 1, 1) := by decide +kernel
theorem dL_law_345 : decode cL_law 345 = .ok (.aload_n 0, 1) := by decide +kernel
theorem dL_law_346 : decode cL_law 346 = .ok (.iload_n 3, 1) := by decide +kernel
theorem dL_law_347 : decode cL_law 347 = .ok (.iconst 1, 1) := by decide +kernel
theorem dL_law_348 : decode cL_law 348 = .ok (.iadd, 1) := by decide +kernel
theorem dL_law_349 : decode cL_law 349 = .ok (.iaload, 1) := by decide +kernel
theorem dL_law_350 : decode cL_law 350 = .ok (.aload_n 0, 1) := by decide +kernel
theorem dL_law_351 : decode cL_law 351 = .ok (.iload_n 3, 1) := by decide +kernel
theorem dL_law_352 : decode cL_law 352 = .ok (.iconst 2, 1) := by decide +kernel
theorem dL_law_353 : decode cL_law 353 = .ok (.iadd, 1) := by decide +kernel
theorem dL_law_354 : decode cL_law 354 = .ok (.iaload, 1) := by decide +kernel
theorem dL_law_355 : decode cL_law 355 = .ok (.aload_n 0, 1) := by decide +kernel
theorem dL_law_356 : decode cL_law 356 = .ok (.iload_n 3, 1) := by decide +kernel
theorem dL_law_357 : decode cL_law 357 = .ok (.iconst 3, 1) := by decide +kernel
theorem dL_law_358 : decode cL_law 358 = .ok (.iadd, 1) := by decide +kernel
theorem dL_law_359 : decode cL_law 359 = .ok (.iaload, 1) := by decide +kernel
theorem dL_law_360 : decode cL_law 360 = .ok (.aload_n 0, 1) := by decide +kernel
theorem dL_law_361 : decode cL_law 361 = .ok (.iload_n 3, 1) := by decide +kernel
theorem dL_law_362 : decode cL_law 362 = .ok (.iconst 4, 1) := by decide +kernel
theorem dL_law_363 : decode cL_law 363 = .ok (.iadd, 1) := by decide +kernel
theorem dL_law_364 : decode cL_law 364 = .ok (.iaload, 1) := by decide +kernel
theorem dL_law_365 : decode cL_law 365 = .ok (.invokevirtual 32, 3) := by decide +kernel
theorem dL_law_368 : decode cL_law 368 = .ok (.aload_n 2, 1) := by decide +kernel
theorem dL_law_369 : decode cL_law 369 = .ok (.aload_n 0, 1) := by decide +kernel
theorem dL_law_370 : decode cL_law 370 = .ok (.iload_n 3, 1) := by decide +kernel
theorem dL_law_371 : decode cL_law 371 = .ok (.iconst 1, 1) := by decide +kernel
theorem dL_law_372 : decode cL_law 372 = .ok (.iadd, 1) := by decide +kernel
theorem dL_law_373 : decode cL_law 373 = .ok (.iaload, 1) := by decide +kernel
theorem dL_law_374 : decode cL_law 374 = .ok (.aload_n 0, 1) := by decide +kernel
theorem dL_law_375 : decode cL_law 375 = .ok (.iload_n 3, 1) := by decide +kernel
theorem dL_law_376 : decode cL_law 376 = .ok (.iconst 2, 1) := by decide +kernel
theorem dL_law_377 : decode cL_law 377 = .ok (.iadd, 1) := by decide +kernel
theorem dL_law_378 : decode cL_law 378 = .ok (.iaload, 1) := by decide +kernel
theorem dL_law_379 : decode cL_law 379 = .ok (.aload_n 0, 1) := by decide +kernel
theorem dL_law_380 : decode cL_law 380 = .ok (.iload_n 3, 1) := by decide +kernel
theorem dL_law_381 : decode cL_law 381 = .ok (.iconst 3, 1) := by decide +kernel
theorem dL_law_382 : decode cL_law 382 = .ok (.iadd, 1) := by decide +kernel
theorem dL_law_383 : decode cL_law 383 = .ok (.iaload, 1) := by decide +kernel
theorem dL_law_384 : decode cL_law 384 = .ok (.aload_n 0, 1) := by decide +kernel
theorem dL_law_385 : decode cL_law 385 = .ok (.iload_n 3, 1) := by decide +kernel
theorem dL_law_386 : decode cL_law 386 = .ok (.iconst 4, 1) := by decide +kernel
theorem dL_law_387 : decode cL_law 387 = .ok (.iadd, 1) := by decide +kernel
theorem dL_law_388 : decode cL_law 388 = .ok (.iaload, 1) := by decide +kernel
theorem dL_law_389 : decode cL_law 389 = .ok (.invokevirtual 36, 3) := by decide +kernel
theorem dL_law_392 : decode cL_law 392 = .ok (.if_icmp .eq 580, 3) := by decide +kernel
theorem dL_law_395 : decode cL_law 395 = .ok (.iconst 0, 1) := by decide +kernel
theorem dL_law_396 : decode cL_law 396 = .ok (.ireturn, 1) := by decide +kernel
theorem dL_law_397 : decode cL_law 397 = .ok (.aload_n 1, 1) := by decide +kernel
theorem dL_law_398 : decode cL_law 398 = .ok (.aload_n 0, 1) := by decide +kernel
theorem dL_law_399 : decode cL_law 399 = .ok (.iload_n 3, 1) := by decide +kernel
theorem dL_law_400 : decode cL_law 400 = .ok (.iconst 1, 1) := by decide +kernel
theorem dL_law_401 : decode cL_law 401 = .ok (.iadd, 1) := by decide +kernel
theorem dL_law_402 : decode cL_law 402 = .ok (.iaload, 1) := by decide +kernel
theorem dL_law_403 : decode cL_law 403 = .ok (.aload_n 0, 1) := by decide +kernel
theorem dL_law_404 : decode cL_law 404 = .ok (.iload_n 3, 1) := by decide +kernel
theorem dL_law_405 : decode cL_law 405 = .ok (.iconst 2, 1) := by decide +kernel
theorem dL_law_406 : decode cL_law 406 = .ok (.iadd, 1) := by decide +kernel
theorem dL_law_407 : decode cL_law 407 = .ok (.iaload, 1) := by decide +kernel
theorem dL_law_408 : decode cL_law 408 = .ok (.aload_n 0, 1) := by decide +kernel
theorem dL_law_409 : decode cL_law 409 = .ok (.iload_n 3, 1) := by decide +kernel
theorem dL_law_410 : decode cL_law 410 = .ok (.iconst 3, 1) := by decide +kernel
theorem dL_law_411 : decode cL_law 411 = .ok (.iadd, 1) := by decide +kernel
theorem dL_law_412 : decode cL_law 412 = .ok (.iaload, 1) := by decide +kernel
theorem dL_law_413 : decode cL_law 413 = .ok (.aload_n 0, 1) := by decide +kernel
theorem dL_law_414 : decode cL_law 414 = .ok (.iload_n 3, 1) := by decide +kernel
theorem dL_law_415 : decode cL_law 415 = .ok (.iconst 4, 1) := by decide +kernel
theorem dL_law_416 : decode cL_law 416 = .ok (.iadd, 1) := by decide +kernel
theorem dL_law_417 : decode cL_law 417 = .ok (.iaload, 1) := by decide +kernel
theorem dL_law_418 : decode cL_law 418 = .ok (.invokevirtual 37, 3) := by decide +kernel
theorem dL_law_421 : decode cL_law 421 = .ok (.aload_n 2, 1) := by decide +kernel
theorem dL_law_422 : decode cL_law 422 = .ok (.aload_n 0, 1) := by decide +kernel
theorem dL_law_423 : decode cL_law 423 = .ok (.iload_n 3, 1) := by decide +kernel
theorem dL_law_424 : decode cL_law 424 = .ok (.iconst 1, 1) := by decide +kernel
theorem dL_law_425 : decode cL_law 425 = .ok (.iadd, 1) := by decide +kernel
theorem dL_law_426 : decode cL_law 426 = .ok (.iaload, 1) := by decide +kernel
theorem dL_law_427 : decode cL_law 427 = .ok (.aload_n 0, 1) := by decide +kernel
theorem dL_law_428 : decode cL_law 428 = .ok (.iload_n 3, 1) := by decide +kernel
theorem dL_law_429 : decode cL_law 429 = .ok (.iconst 2, 1) := by decide +kernel
theorem dL_law_430 : decode cL_law 430 = .ok (.iadd, 1) := by decide +kernel
theorem dL_law_431 : decode cL_law 431 = .ok (.iaload, 1) := by decide +kernel
theorem dL_law_432 : decode cL_law 432 = .ok (.aload_n 0, 1) := by decide +kernel
theorem dL_law_433 : decode cL_law 433 = .ok (.iload_n 3, 1) := by decide +kernel
theorem dL_law_434 : decode cL_law 434 = .ok (.iconst 3, 1) := by decide +kernel
theorem dL_law_435 : decode cL_law 435 = .ok (.iadd, 1) := by decide +kernel
theorem dL_law_436 : decode cL_law 436 = .ok (.iaload, 1) := by decide +kernel
theorem dL_law_437 : decode cL_law 437 = .ok (.aload_n 0, 1) := by decide +kernel
theorem dL_law_438 : decode cL_law 438 = .ok (.iload_n 3, 1) := by decide +kernel
theorem dL_law_439 : decode cL_law 439 = .ok (.iconst 4, 1) := by decide +kernel
theorem dL_law_440 : decode cL_law 440 = .ok (.iadd, 1) := by decide +kernel
theorem dL_law_441 : decode cL_law 441 = .ok (.iaload, 1) := by decide +kernel
theorem dL_law_442 : decode cL_law 442 = .ok (.invokevirtual 40, 3) := by decide +kernel
theorem dL_law_445 : decode cL_law 445 = .ok (.if_icmp .eq 527, 3) := by decide +kernel
theorem dL_law_448 : decode cL_law 448 = .ok (.iconst 0, 1) := by decide +kernel
theorem dL_law_449 : decode cL_law 449 = .ok (.ireturn, 1) := by decide +kernel
theorem dL_law_450 : decode cL_law 450 = .ok (.aload_n 1, 1) := by decide +kernel
theorem dL_law_451 : decode cL_law 451 = .ok (.aload_n 0, 1) := by decide +kernel
theorem dL_law_452 : decode cL_law 452 = .ok (.iload_n 3, 1) := by decide +kernel
theorem dL_law_453 : decode cL_law 453 = .ok (.iconst 1, 1) := by decide +kernel
theorem dL_law_454 : decode cL_law 454 = .ok (.iadd, 1) := by decide +kernel
theorem dL_law_455 : decode cL_law 455 = .ok (.iaload, 1) := by decide +kernel
theorem dL_law_456 : decode cL_law 456 = .ok (.aload_n 0, 1) := by decide +kernel
theorem dL_law_457 : decode cL_law 457 = .ok (.iload_n 3, 1) := by decide +kernel
theorem dL_law_458 : decode cL_law 458 = .ok (.iconst 2, 1) := by decide +kernel
theorem dL_law_459 : decode cL_law 459 = .ok (.iadd, 1) := by decide +kernel
theorem dL_law_460 : decode cL_law 460 = .ok (.iaload, 1) := by decide +kernel
theorem dL_law_461 : decode cL_law 461 = .ok (.ifCond .eq 7, 3) := by decide +kernel
theorem dL_law_464 : decode cL_law 464 = .ok (.iconst 1, 1) := by decide +kernel
theorem dL_law_465 : decode cL_law 465 = .ok (.goto 4, 3) := by decide +kernel
theorem dL_law_468 : decode cL_law 468 = .ok (.iconst 0, 1) := by decide +kernel
theorem dL_law_469 : decode cL_law 469 = .ok (.invokevirtual 41, 3) := by decide +kernel
theorem dL_law_472 : decode cL_law 472 = .ok (.aload_n 2, 1) := by decide +kernel
theorem dL_law_473 : decode cL_law 473 = .ok (.aload_n 0, 1) := by decide +kernel
theorem dL_law_474 : decode cL_law 474 = .ok (.iload_n 3, 1) := by decide +kernel
theorem dL_law_475 : decode cL_law 475 = .ok (.iconst 1, 1) := by decide +kernel
theorem dL_law_476 : decode cL_law 476 = .ok (.iadd, 1) := by decide +kernel
theorem dL_law_477 : decode cL_law 477 = .ok (.iaload, 1) := by decide +kernel
theorem dL_law_478 : decode cL_law 478 = .ok (.aload_n 0, 1) := by decide +kernel
theorem dL_law_479 : decode cL_law 479 = .ok (.iload_n 3, 1) := by decide +kernel
theorem dL_law_480 : decode cL_law 480 = .ok (.iconst 2, 1) := by decide +kernel
theorem dL_law_481 : decode cL_law 481 = .ok (.iadd, 1) := by decide +kernel
theorem dL_law_482 : decode cL_law 482 = .ok (.iaload, 1) := by decide +kernel
theorem dL_law_483 : decode cL_law 483 = .ok (.ifCond .eq 7, 3) := by decide +kernel
theorem dL_law_486 : decode cL_law 486 = .ok (.iconst 1, 1) := by decide +kernel
theorem dL_law_487 : decode cL_law 487 = .ok (.goto 4, 3) := by decide +kernel
theorem dL_law_490 : decode cL_law 490 = .ok (.iconst 0, 1) := by decide +kernel
theorem dL_law_491 : decode cL_law 491 = .ok (.invokevirtual 44, 3) := by decide +kernel
theorem dL_law_494 : decode cL_law 494 = .ok (.if_icmp .eq 478, 3) := by decide +kernel
theorem dL_law_497 : decode cL_law 497 = .ok (.iconst 0, 1) := by decide +kernel
theorem dL_law_498 : decode cL_law 498 = .ok (.ireturn, 1) := by decide +kernel
theorem dL_law_499 : decode cL_law 499 = .ok (.aload_n 1, 1) := by decide +kernel
theorem dL_law_500 : decode cL_law 500 = .ok (.aload_n 0, 1) := by decide +kernel
theorem dL_law_501 : decode cL_law 501 = .ok (.iload_n 3, 1) := by decide +kernel
theorem dL_law_502 : decode cL_law 502 = .ok (.iconst 1, 1) := by decide +kernel
theorem dL_law_503 : decode cL_law 503 = .ok (.iadd, 1) := by decide +kernel
theorem dL_law_504 : decode cL_law 504 = .ok (.iaload, 1) := by decide +kernel
theorem dL_law_505 : decode cL_law 505 = .ok (.invokevirtual 45, 3) := by decide +kernel
theorem dL_law_508 : decode cL_law 508 = .ok (.aload_n 2, 1) := by decide +kernel
theorem dL_law_509 : decode cL_law 509 = .ok (.aload_n 0, 1) := by decide +kernel
theorem dL_law_510 : decode cL_law 510 = .ok (.iload_n 3, 1) := by decide +kernel
theorem dL_law_511 : decode cL_law 511 = .ok (.iconst 1, 1) := by decide +kernel
theorem dL_law_512 : decode cL_law 512 = .ok (.iadd, 1) := by decide +kernel
theorem dL_law_513 : decode cL_law 513 = .ok (.iaload, 1) := by decide +kernel
theorem dL_law_514 : decode cL_law 514 = .ok (.invokevirtual 49, 3) := by decide +kernel
theorem dL_law_517 : decode cL_law 517 = .ok (.if_icmp .eq 455, 3) := by decide +kernel
theorem dL_law_520 : decode cL_law 520 = .ok (.iconst 0, 1) := by decide +kernel
theorem dL_law_521 : decode cL_law 521 = .ok (.ireturn, 1) := by decide +kernel
theorem dL_law_522 : decode cL_law 522 = .ok (.aload_n 1, 1) := by decide +kernel
theorem dL_law_523 : decode cL_law 523 = .ok (.aload_n 0, 1) := by decide +kernel
theorem dL_law_524 : decode cL_law 524 = .ok (.iload_n 3, 1) := by decide +kernel
theorem dL_law_525 : decode cL_law 525 = .ok (.iconst 1, 1) := by decide +kernel
theorem dL_law_526 : decode cL_law 526 = .ok (.iadd, 1) := by decide +kernel
theorem dL_law_527 : decode cL_law 527 = .ok (.iaload, 1) := by decide +kernel
theorem dL_law_528 : decode cL_law 528 = .ok (.aload_n 0, 1) := by decide +kernel
theorem dL_law_529 : decode cL_law 529 = .ok (.iload_n 3, 1) := by decide +kernel
theorem dL_law_530 : decode cL_law 530 = .ok (.iconst 2, 1) := by decide +kernel
theorem dL_law_531 : decode cL_law 531 = .ok (.iadd, 1) := by decide +kernel
theorem dL_law_532 : decode cL_law 532 = .ok (.iaload, 1) := by decide +kernel
theorem dL_law_533 : decode cL_law 533 = .ok (.invokevirtual 50, 3) := by decide +kernel
theorem dL_law_536 : decode cL_law 536 = .ok (.aload_n 2, 1) := by decide +kernel
theorem dL_law_537 : decode cL_law 537 = .ok (.aload_n 0, 1) := by decide +kernel
theorem dL_law_538 : decode cL_law 538 = .ok (.iload_n 3, 1) := by decide +kernel
theorem dL_law_539 : decode cL_law 539 = .ok (.iconst 1, 1) := by decide +kernel
theorem dL_law_540 : decode cL_law 540 = .ok (.iadd, 1) := by decide +kernel
theorem dL_law_541 : decode cL_law 541 = .ok (.iaload, 1) := by decide +kernel
theorem dL_law_542 : decode cL_law 542 = .ok (.aload_n 0, 1) := by decide +kernel
theorem dL_law_543 : decode cL_law 543 = .ok (.iload_n 3, 1) := by decide +kernel
theorem dL_law_544 : decode cL_law 544 = .ok (.iconst 2, 1) := by decide +kernel
theorem dL_law_545 : decode cL_law 545 = .ok (.iadd, 1) := by decide +kernel
theorem dL_law_546 : decode cL_law 546 = .ok (.iaload, 1) := by decide +kernel
theorem dL_law_547 : decode cL_law 547 = .ok (.invokevirtual 53, 3) := by decide +kernel
theorem dL_law_550 : decode cL_law 550 = .ok (.if_icmp .eq 422, 3) := by decide +kernel
theorem dL_law_553 : decode cL_law 553 = .ok (.iconst 0, 1) := by decide +kernel
theorem dL_law_554 : decode cL_law 554 = .ok (.ireturn, 1) := by decide +kernel
theorem dL_law_555 : decode cL_law 555 = .ok (.aload_n 1, 1) := by decide +kernel
theorem dL_law_556 : decode cL_law 556 = .ok (.invokevirtual 54, 3) := by decide +kernel
theorem dL_law_559 : decode cL_law 559 = .ok (.aload_n 2, 1) := by decide +kernel
theorem dL_law_560 : decode cL_law 560 = .ok (.invokevirtual 58, 3) := by decide +kernel
theorem dL_law_563 : decode cL_law 563 = .ok (.if_icmp .eq 409, 3) := by decide +kernel
theorem dL_law_566 : decode cL_law 566 = .ok (.iconst 0, 1) := by decide +kernel
theorem dL_law_567 : decode cL_law 567 = .ok (.ireturn, 1) := by decide +kernel
theorem dL_law_568 : decode cL_law 568 = .ok (.aload_n 1, 1) := by decide +kernel
theorem dL_law_569 : decode cL_law 569 = .ok (.invokevirtual 59, 3) := by decide +kernel
theorem dL_law_572 : decode cL_law 572 = .ok (.aload_n 2, 1) := by decide +kernel
theorem dL_law_573 : decode cL_law 573 = .ok (.invokevirtual 62, 3) := by decide +kernel
theorem dL_law_576 : decode cL_law 576 = .ok (.if_icmp .eq 396, 3) := by decide +kernel
theorem dL_law_579 : decode cL_law 579 = .ok (.iconst 0, 1) := by decide +kernel
theorem dL_law_580 : decode cL_law 580 = .ok (.ireturn, 1) := by decide +kernel
theorem dL_law_581 : decode cL_law 581 = .ok (.aload_n 1, 1) := by decide +kernel
theorem dL_law_582 : decode cL_law 582 = .ok (.aload_n 0, 1) := by decide +kernel
theorem dL_law_583 : decode cL_law 583 = .ok (.iload_n 3, 1) := by decide +kernel
theorem dL_law_584 : decode cL_law 584 = .ok (.iconst 1, 1) := by decide +kernel
theorem dL_law_585 : decode cL_law 585 = .ok (.iadd, 1) := by decide +kernel
theorem dL_law_586 : decode cL_law 586 = .ok (.iaload, 1) := by decide +kernel
theorem dL_law_587 : decode cL_law 587 = .ok (.aload_n 0, 1) := by decide +kernel
theorem dL_law_588 : decode cL_law 588 = .ok (.iload_n 3, 1) := by decide +kernel
theorem dL_law_589 : decode cL_law 589 = .ok (.iconst 2, 1) := by decide +kernel
theorem dL_law_590 : decode cL_law 590 = .ok (.iadd, 1) := by decide +kernel
theorem dL_law_591 : decode cL_law 591 = .ok (.iaload, 1) := by decide +kernel
theorem dL_law_592 : decode cL_law 592 = .ok (.invokevirtual 63, 3) := by decide +kernel
theorem dL_law_595 : decode cL_law 595 = .ok (.aload_n 2, 1) := by decide +kernel
theorem dL_law_596 : decode cL_law 596 = .ok (.aload_n 0, 1) := by decide +kernel
theorem dL_law_597 : decode cL_law 597 = .ok (.iload_n 3, 1) := by decide +kernel
theorem dL_law_598 : decode cL_law 598 = .ok (.iconst 1, 1) := by decide +kernel
theorem dL_law_599 : decode cL_law 599 = .ok (.iadd, 1) := by decide +kernel
theorem dL_law_600 : decode cL_law 600 = .ok (.iaload, 1) := by decide +kernel
theorem dL_law_601 : decode cL_law 601 = .ok (.aload_n 0, 1) := by decide +kernel
theorem dL_law_602 : decode cL_law 602 = .ok (.iload_n 3, 1) := by decide +kernel
theorem dL_law_603 : decode cL_law 603 = .ok (.iconst 2, 1) := by decide +kernel
theorem dL_law_604 : decode cL_law 604 = .ok (.iadd, 1) := by decide +kernel
theorem dL_law_605 : decode cL_law 605 = .ok (.iaload, 1) := by decide +kernel
theorem dL_law_606 : decode cL_law 606 = .ok (.invokevirtual 66, 3) := by decide +kernel
theorem dL_law_609 : decode cL_law 609 = .ok (.if_icmp .eq 363, 3) := by decide +kernel
theorem dL_law_612 : decode cL_law 612 = .ok (.iconst 0, 1) := by decide +kernel
theorem dL_law_613 : decode cL_law 613 = .ok (.ireturn, 1) := by decide +kernel
theorem dL_law_614 : decode cL_law 614 = .ok (.aload_n 1, 1) := by decide +kernel
theorem dL_law_615 : decode cL_law 615 = .ok (.invokevirtual 67, 3) := by decide +kernel
theorem dL_law_618 : decode cL_law 618 = .ok (.aload_n 2, 1) := by decide +kernel
theorem dL_law_619 : decode cL_law 619 = .ok (.invokevirtual 70, 3) := by decide +kernel
theorem dL_law_622 : decode cL_law 622 = .ok (.if_icmp .eq 350, 3) := by decide +kernel
theorem dL_law_625 : decode cL_law 625 = .ok (.iconst 0, 1) := by decide +kernel
theorem dL_law_626 : decode cL_law 626 = .ok (.ireturn, 1) := by decide +kernel
theorem dL_law_627 : decode cL_law 627 = .ok (.aload_n 1, 1) := by decide +kernel
theorem dL_law_628 : decode cL_law 628 = .ok (.aload_n 0, 1) := by decide +kernel
theorem dL_law_629 : decode cL_law 629 = .ok (.iload_n 3, 1) := by decide +kernel
theorem dL_law_630 : decode cL_law 630 = .ok (.iconst 1, 1) := by decide +kernel
theorem dL_law_631 : decode cL_law 631 = .ok (.iadd, 1) := by decide +kernel
theorem dL_law_632 : decode cL_law 632 = .ok (.iaload, 1) := by decide +kernel
theorem dL_law_633 : decode cL_law 633 = .ok (.aload_n 0, 1) := by decide +kernel
theorem dL_law_634 : decode cL_law 634 = .ok (.iload_n 3, 1) := by decide +kernel
theorem dL_law_635 : decode cL_law 635 = .ok (.iconst 2, 1) := by decide +kernel
theorem dL_law_636 : decode cL_law 636 = .ok (.iadd, 1) := by decide +kernel
theorem dL_law_637 : decode cL_law 637 = .ok (.iaload, 1) := by decide +kernel
theorem dL_law_638 : decode cL_law 638 = .ok (.aload_n 0, 1) := by decide +kernel
theorem dL_law_639 : decode cL_law 639 = .ok (.iload_n 3, 1) := by decide +kernel
theorem dL_law_640 : decode cL_law 640 = .ok (.iconst 3, 1) := by decide +kernel
theorem dL_law_641 : decode cL_law 641 = .ok (.iadd, 1) := by decide +kernel
theorem dL_law_642 : decode cL_law 642 = .ok (.iaload, 1) := by decide +kernel
theorem dL_law_643 : decode cL_law 643 = .ok (.aload_n 0, 1) := by decide +kernel
theorem dL_law_644 : decode cL_law 644 = .ok (.iload_n 3, 1) := by decide +kernel
theorem dL_law_645 : decode cL_law 645 = .ok (.iconst 4, 1) := by decide +kernel
theorem dL_law_646 : decode cL_law 646 = .ok (.iadd, 1) := by decide +kernel
theorem dL_law_647 : decode cL_law 647 = .ok (.iaload, 1) := by decide +kernel
theorem dL_law_648 : decode cL_law 648 = .ok (.aload_n 0, 1) := by decide +kernel
theorem dL_law_649 : decode cL_law 649 = .ok (.iload_n 3, 1) := by decide +kernel
theorem dL_law_650 : decode cL_law 650 = .ok (.iconst 5, 1) := by decide +kernel
theorem dL_law_651 : decode cL_law 651 = .ok (.iadd, 1) := by decide +kernel
theorem dL_law_652 : decode cL_law 652 = .ok (.iaload, 1) := by decide +kernel
theorem dL_law_653 : decode cL_law 653 = .ok (.aload_n 0, 1) := by decide +kernel
theorem dL_law_654 : decode cL_law 654 = .ok (.iload_n 3, 1) := by decide +kernel
theorem dL_law_655 : decode cL_law 655 = .ok (.bipush 6, 2) := by decide +kernel
theorem dL_law_657 : decode cL_law 657 = .ok (.iadd, 1) := by decide +kernel
theorem dL_law_658 : decode cL_law 658 = .ok (.iaload, 1) := by decide +kernel
theorem dL_law_659 : decode cL_law 659 = .ok (.invokevirtual 71, 3) := by decide +kernel
theorem dL_law_662 : decode cL_law 662 = .ok (.aload_n 2, 1) := by decide +kernel
theorem dL_law_663 : decode cL_law 663 = .ok (.aload_n 0, 1) := by decide +kernel
theorem dL_law_664 : decode cL_law 664 = .ok (.iload_n 3, 1) := by decide +kernel
theorem dL_law_665 : decode cL_law 665 = .ok (.iconst 1, 1) := by decide +kernel
theorem dL_law_666 : decode cL_law 666 = .ok (.iadd, 1) := by decide +kernel
theorem dL_law_667 : decode cL_law 667 = .ok (.iaload, 1) := by decide +kernel
theorem dL_law_668 : decode cL_law 668 = .ok (.aload_n 0, 1) := by decide +kernel
theorem dL_law_669 : decode cL_law 669 = .ok (.iload_n 3, 1) := by decide +kernel
theorem dL_law_670 : decode cL_law 670 = .ok (.iconst 2, 1) := by decide +kernel
theorem dL_law_671 : decode cL_law 671 = .ok (.iadd, 1) := by decide +kernel
theorem dL_law_672 : decode cL_law 672 = .ok (.iaload, 1) := by decide +kernel
theorem dL_law_673 : decode cL_law 673 = .ok (.aload_n 0, 1) := by decide +kernel
theorem dL_law_674 : decode cL_law 674 = .ok (.iload_n 3, 1) := by decide +kernel
theorem dL_law_675 : decode cL_law 675 = .ok (.iconst 3, 1) := by decide +kernel
theorem dL_law_676 : decode cL_law 676 = .ok (.iadd, 1) := by decide +kernel
theorem dL_law_677 : decode cL_law 677 = .ok (.iaload, 1) := by decide +kernel
theorem dL_law_678 : decode cL_law 678 = .ok (.aload_n 0, 1) := by decide +kernel
theorem dL_law_679 : decode cL_law 679 = .ok (.iload_n 3, 1) := by decide +kernel
theorem dL_law_680 : decode cL_law 680 = .ok (.iconst 4, 1) := by decide +kernel
theorem dL_law_681 : decode cL_law 681 = .ok (.iadd, 1) := by decide +kernel
theorem dL_law_682 : decode cL_law 682 = .ok (.iaload, 1) := by decide +kernel
theorem dL_law_683 : decode cL_law 683 = .ok (.aload_n 0, 1) := by decide +kernel
theorem dL_law_684 : decode cL_law 684 = .ok (.iload_n 3, 1) := by decide +kernel
theorem dL_law_685 : decode cL_law 685 = .ok (.iconst 5, 1) := by decide +kernel
theorem dL_law_686 : decode cL_law 686 = .ok (.iadd, 1) := by decide +kernel
theorem dL_law_687 : decode cL_law 687 = .ok (.iaload, 1) := by decide +kernel
theorem dL_law_688 : decode cL_law 688 = .ok (.aload_n 0, 1) := by decide +kernel
theorem dL_law_689 : decode cL_law 689 = .ok (.iload_n 3, 1) := by decide +kernel
theorem dL_law_690 : decode cL_law 690 = .ok (.bipush 6, 2) := by decide +kernel
theorem dL_law_692 : decode cL_law 692 = .ok (.iadd, 1) := by decide +kernel
theorem dL_law_693 : decode cL_law 693 = .ok (.iaload, 1) := by decide +kernel
theorem dL_law_694 : decode cL_law 694 = .ok (.invokevirtual 75, 3) := by decide +kernel
theorem dL_law_697 : decode cL_law 697 = .ok (.if_icmp .eq 275, 3) := by decide +kernel
theorem dL_law_700 : decode cL_law 700 = .ok (.iconst 0, 1) := by decide +kernel
theorem dL_law_701 : decode cL_law 701 = .ok (.ireturn, 1) := by decide +kernel
theorem dL_law_702 : decode cL_law 702 = .ok (.aload_n 1, 1) := by decide +kernel
theorem dL_law_703 : decode cL_law 703 = .ok (.aload_n 0, 1) := by decide +kernel
theorem dL_law_704 : decode cL_law 704 = .ok (.iload_n 3, 1) := by decide +kernel
theorem dL_law_705 : decode cL_law 705 = .ok (.iconst 1, 1) := by decide +kernel
theorem dL_law_706 : decode cL_law 706 = .ok (.iadd, 1) := by decide +kernel
theorem dL_law_707 : decode cL_law 707 = .ok (.iaload, 1) := by decide +kernel
theorem dL_law_708 : decode cL_law 708 = .ok (.aload_n 0, 1) := by decide +kernel
theorem dL_law_709 : decode cL_law 709 = .ok (.iload_n 3, 1) := by decide +kernel
theorem dL_law_710 : decode cL_law 710 = .ok (.iconst 2, 1) := by decide +kernel
theorem dL_law_711 : decode cL_law 711 = .ok (.iadd, 1) := by decide +kernel
theorem dL_law_712 : decode cL_law 712 = .ok (.iaload, 1) := by decide +kernel
theorem dL_law_713 : decode cL_law 713 = .ok (.aload_n 0, 1) := by decide +kernel
theorem dL_law_714 : decode cL_law 714 = .ok (.iload_n 3, 1) := by decide +kernel
theorem dL_law_715 : decode cL_law 715 = .ok (.iconst 3, 1) := by decide +kernel
theorem dL_law_716 : decode cL_law 716 = .ok (.iadd, 1) := by decide +kernel
theorem dL_law_717 : decode cL_law 717 = .ok (.iaload, 1) := by decide +kernel
theorem dL_law_718 : decode cL_law 718 = .ok (.aload_n 0, 1) := by decide +kernel
theorem dL_law_719 : decode cL_law 719 = .ok (.iload_n 3, 1) := by decide +kernel
theorem dL_law_720 : decode cL_law 720 = .ok (.iconst 4, 1) := by decide +kernel
theorem dL_law_721 : decode cL_law 721 = .ok (.iadd, 1) := by decide +kernel
theorem dL_law_722 : decode cL_law 722 = .ok (.iaload, 1) := by decide +kernel
theorem dL_law_723 : decode cL_law 723 = .ok (.invokevirtual 76, 3) := by decide +kernel
theorem dL_law_726 : decode cL_law 726 = .ok (.aload_n 2, 1) := by decide +kernel
theorem dL_law_727 : decode cL_law 727 = .ok (.aload_n 0, 1) := by decide +kernel
theorem dL_law_728 : decode cL_law 728 = .ok (.iload_n 3, 1) := by decide +kernel
theorem dL_law_729 : decode cL_law 729 = .ok (.iconst 1, 1) := by decide +kernel
theorem dL_law_730 : decode cL_law 730 = .ok (.iadd, 1) := by decide +kernel
theorem dL_law_731 : decode cL_law 731 = .ok (.iaload, 1) := by decide +kernel
theorem dL_law_732 : decode cL_law 732 = .ok (.aload_n 0, 1) := by decide +kernel
theorem dL_law_733 : decode cL_law 733 = .ok (.iload_n 3, 1) := by decide +kernel
theorem dL_law_734 : decode cL_law 734 = .ok (.iconst 2, 1) := by decide +kernel
theorem dL_law_735 : decode cL_law 735 = .ok (.iadd, 1) := by decide +kernel
theorem dL_law_736 : decode cL_law 736 = .ok (.iaload, 1) := by decide +kernel
theorem dL_law_737 : decode cL_law 737 = .ok (.aload_n 0, 1) := by decide +kernel
theorem dL_law_738 : decode cL_law 738 = .ok (.iload_n 3, 1) := by decide +kernel
theorem dL_law_739 : decode cL_law 739 = .ok (.iconst 3, 1) := by decide +kernel
theorem dL_law_740 : decode cL_law 740 = .ok (.iadd, 1) := by decide +kernel
theorem dL_law_741 : decode cL_law 741 = .ok (.iaload, 1) := by decide +kernel
theorem dL_law_742 : decode cL_law 742 = .ok (.aload_n 0, 1) := by decide +kernel
theorem dL_law_743 : decode cL_law 743 = .ok (.iload_n 3, 1) := by decide +kernel
theorem dL_law_744 : decode cL_law 744 = .ok (.iconst 4, 1) := by decide +kernel
theorem dL_law_745 : decode cL_law 745 = .ok (.iadd, 1) := by decide +kernel
theorem dL_law_746 : decode cL_law 746 = .ok (.iaload, 1) := by decide +kernel
theorem dL_law_747 : decode cL_law 747 = .ok (.invokevirtual 79, 3) := by decide +kernel
theorem dL_law_750 : decode cL_law 750 = .ok (.if_icmp .eq 222, 3) := by decide +kernel
theorem dL_law_753 : decode cL_law 753 = .ok (.iconst 0, 1) := by decide +kernel
theorem dL_law_754 : decode cL_law 754 = .ok (.ireturn, 1) := by decide +kernel
theorem dL_law_755 : decode cL_law 755 = .ok (.aload_n 1, 1) := by decide +kernel
theorem dL_law_756 : decode cL_law 756 = .ok (.aload_n 0, 1) := by decide +kernel
theorem dL_law_757 : decode cL_law 757 = .ok (.iload_n 3, 1) := by decide +kernel
theorem dL_law_758 : decode cL_law 758 = .ok (.iconst 1, 1) := by decide +kernel
theorem dL_law_759 : decode cL_law 759 = .ok (.iadd, 1) := by decide +kernel
theorem dL_law_760 : decode cL_law 760 = .ok (.iaload, 1) := by decide +kernel
theorem dL_law_761 : decode cL_law 761 = .ok (.invokevirtual 80, 3) := by decide +kernel
theorem dL_law_764 : decode cL_law 764 = .ok (.aload_n 2, 1) := by decide +kernel
theorem dL_law_765 : decode cL_law 765 = .ok (.aload_n 0, 1) := by decide +kernel
theorem dL_law_766 : decode cL_law 766 = .ok (.iload_n 3, 1) := by decide +kernel
theorem dL_law_767 : decode cL_law 767 = .ok (.iconst 1, 1) := by decide +kernel
theorem dL_law_768 : decode cL_law 768 = .ok (.iadd, 1) := by decide +kernel
theorem dL_law_769 : decode cL_law 769 = .ok (.iaload, 1) := by decide +kernel
theorem dL_law_770 : decode cL_law 770 = .ok (.invokevirtual 83, 3) := by decide +kernel
theorem dL_law_773 : decode cL_law 773 = .ok (.if_icmp .eq 199, 3) := by decide +kernel
theorem dL_law_776 : decode cL_law 776 = .ok (.iconst 0, 1) := by decide +kernel
theorem dL_law_777 : decode cL_law 777 = .ok (.ireturn, 1) := by decide +kernel
theorem dL_law_778 : decode cL_law 778 = .ok (.aload_n 1, 1) := by decide +kernel
theorem dL_law_779 : decode cL_law 779 = .ok (.aload_n 0, 1) := by decide +kernel
theorem dL_law_780 : decode cL_law 780 = .ok (.iload_n 3, 1) := by decide +kernel
theorem dL_law_781 : decode cL_law 781 = .ok (.iconst 1, 1) := by decide +kernel
theorem dL_law_782 : decode cL_law 782 = .ok (.iadd, 1) := by decide +kernel
theorem dL_law_783 : decode cL_law 783 = .ok (.iaload, 1) := by decide +kernel
theorem dL_law_784 : decode cL_law 784 = .ok (.invokevirtual 84, 3) := by decide +kernel
theorem dL_law_787 : decode cL_law 787 = .ok (.aload_n 2, 1) := by decide +kernel
theorem dL_law_788 : decode cL_law 788 = .ok (.aload_n 0, 1) := by decide +kernel
theorem dL_law_789 : decode cL_law 789 = .ok (.iload_n 3, 1) := by decide +kernel
theorem dL_law_790 : decode cL_law 790 = .ok (.iconst 1, 1) := by decide +kernel
theorem dL_law_791 : decode cL_law 791 = .ok (.iadd, 1) := by decide +kernel
theorem dL_law_792 : decode cL_law 792 = .ok (.iaload, 1) := by decide +kernel
theorem dL_law_793 : decode cL_law 793 = .ok (.invokevirtual 87, 3) := by decide +kernel
theorem dL_law_796 : decode cL_law 796 = .ok (.if_icmp .eq 176, 3) := by decide +kernel
theorem dL_law_799 : decode cL_law 799 = .ok (.iconst 0, 1) := by decide +kernel
theorem dL_law_800 : decode cL_law 800 = .ok (.ireturn, 1) := by decide +kernel
theorem dL_law_801 : decode cL_law 801 = .ok (.aload_n 1, 1) := by decide +kernel
theorem dL_law_802 : decode cL_law 802 = .ok (.aload_n 0, 1) := by decide +kernel
theorem dL_law_803 : decode cL_law 803 = .ok (.iload_n 3, 1) := by decide +kernel
theorem dL_law_804 : decode cL_law 804 = .ok (.iconst 1, 1) := by decide +kernel
theorem dL_law_805 : decode cL_law 805 = .ok (.iadd, 1) := by decide +kernel
theorem dL_law_806 : decode cL_law 806 = .ok (.iaload, 1) := by decide +kernel
theorem dL_law_807 : decode cL_law 807 = .ok (.aload_n 0, 1) := by decide +kernel
theorem dL_law_808 : decode cL_law 808 = .ok (.iload_n 3, 1) := by decide +kernel
theorem dL_law_809 : decode cL_law 809 = .ok (.iconst 2, 1) := by decide +kernel
theorem dL_law_810 : decode cL_law 810 = .ok (.iadd, 1) := by decide +kernel
theorem dL_law_811 : decode cL_law 811 = .ok (.iaload, 1) := by decide +kernel
theorem dL_law_812 : decode cL_law 812 = .ok (.invokevirtual 88, 3) := by decide +kernel
theorem dL_law_815 : decode cL_law 815 = .ok (.aload_n 2, 1) := by decide +kernel
theorem dL_law_816 : decode cL_law 816 = .ok (.aload_n 0, 1) := by decide +kernel
theorem dL_law_817 : decode cL_law 817 = .ok (.iload_n 3, 1) := by decide +kernel
theorem dL_law_818 : decode cL_law 818 = .ok (.iconst 1, 1) := by decide +kernel
theorem dL_law_819 : decode cL_law 819 = .ok (.iadd, 1) := by decide +kernel
theorem dL_law_820 : decode cL_law 820 = .ok (.iaload, 1) := by decide +kernel
theorem dL_law_821 : decode cL_law 821 = .ok (.aload_n 0, 1) := by decide +kernel
theorem dL_law_822 : decode cL_law 822 = .ok (.iload_n 3, 1) := by decide +kernel
theorem dL_law_823 : decode cL_law 823 = .ok (.iconst 2, 1) := by decide +kernel
theorem dL_law_824 : decode cL_law 824 = .ok (.iadd, 1) := by decide +kernel
theorem dL_law_825 : decode cL_law 825 = .ok (.iaload, 1) := by decide +kernel
theorem dL_law_826 : decode cL_law 826 = .ok (.invokevirtual 91, 3) := by decide +kernel
theorem dL_law_829 : decode cL_law 829 = .ok (.if_icmp .eq 143, 3) := by decide +kernel
theorem dL_law_832 : decode cL_law 832 = .ok (.iconst 0, 1) := by decide +kernel
theorem dL_law_833 : decode cL_law 833 = .ok (.ireturn, 1) := by decide +kernel
theorem dL_law_834 : decode cL_law 834 = .ok (.aload_n 1, 1) := by decide +kernel
theorem dL_law_835 : decode cL_law 835 = .ok (.aload_n 0, 1) := by decide +kernel
theorem dL_law_836 : decode cL_law 836 = .ok (.iload_n 3, 1) := by decide +kernel
theorem dL_law_837 : decode cL_law 837 = .ok (.iconst 1, 1) := by decide +kernel
theorem dL_law_838 : decode cL_law 838 = .ok (.iadd, 1) := by decide +kernel
theorem dL_law_839 : decode cL_law 839 = .ok (.iaload, 1) := by decide +kernel
theorem dL_law_840 : decode cL_law 840 = .ok (.invokevirtual 92, 3) := by decide +kernel
theorem dL_law_843 : decode cL_law 843 = .ok (.aload_n 2, 1) := by decide +kernel
theorem dL_law_844 : decode cL_law 844 = .ok (.aload_n 0, 1) := by decide +kernel
theorem dL_law_845 : decode cL_law 845 = .ok (.iload_n 3, 1) := by decide +kernel
theorem dL_law_846 : decode cL_law 846 = .ok (.iconst 1, 1) := by decide +kernel
theorem dL_law_847 : decode cL_law 847 = .ok (.iadd, 1) := by decide +kernel
theorem dL_law_848 : decode cL_law 848 = .ok (.iaload, 1) := by decide +kernel
theorem dL_law_849 : decode cL_law 849 = .ok (.invokevirtual 95, 3) := by decide +kernel
theorem dL_law_852 : decode cL_law 852 = .ok (.if_icmp .eq 120, 3) := by decide +kernel
theorem dL_law_855 : decode cL_law 855 = .ok (.iconst 0, 1) := by decide +kernel
theorem dL_law_856 : decode cL_law 856 = .ok (.ireturn, 1) := by decide +kernel
theorem dL_law_857 : decode cL_law 857 = .ok (.aload_n 1, 1) := by decide +kernel
theorem dL_law_858 : decode cL_law 858 = .ok (.aload_n 0, 1) := by decide +kernel
theorem dL_law_859 : decode cL_law 859 = .ok (.iload_n 3, 1) := by decide +kernel
theorem dL_law_860 : decode cL_law 860 = .ok (.iconst 1, 1) := by decide +kernel
theorem dL_law_861 : decode cL_law 861 = .ok (.iadd, 1) := by decide +kernel
theorem dL_law_862 : decode cL_law 862 = .ok (.iaload, 1) := by decide +kernel
theorem dL_law_863 : decode cL_law 863 = .ok (.aload_n 0, 1) := by decide +kernel
theorem dL_law_864 : decode cL_law 864 = .ok (.iload_n 3, 1) := by decide +kernel
theorem dL_law_865 : decode cL_law 865 = .ok (.iconst 2, 1) := by decide +kernel
theorem dL_law_866 : decode cL_law 866 = .ok (.iadd, 1) := by decide +kernel
theorem dL_law_867 : decode cL_law 867 = .ok (.iaload, 1) := by decide +kernel
theorem dL_law_868 : decode cL_law 868 = .ok (.invokevirtual 96, 3) := by decide +kernel
theorem dL_law_871 : decode cL_law 871 = .ok (.aload_n 2, 1) := by decide +kernel
theorem dL_law_872 : decode cL_law 872 = .ok (.aload_n 0, 1) := by decide +kernel
theorem dL_law_873 : decode cL_law 873 = .ok (.iload_n 3, 1) := by decide +kernel
theorem dL_law_874 : decode cL_law 874 = .ok (.iconst 1, 1) := by decide +kernel
theorem dL_law_875 : decode cL_law 875 = .ok (.iadd, 1) := by decide +kernel
theorem dL_law_876 : decode cL_law 876 = .ok (.iaload, 1) := by decide +kernel
theorem dL_law_877 : decode cL_law 877 = .ok (.aload_n 0, 1) := by decide +kernel
theorem dL_law_878 : decode cL_law 878 = .ok (.iload_n 3, 1) := by decide +kernel
theorem dL_law_879 : decode cL_law 879 = .ok (.iconst 2, 1) := by decide +kernel
theorem dL_law_880 : decode cL_law 880 = .ok (.iadd, 1) := by decide +kernel
theorem dL_law_881 : decode cL_law 881 = .ok (.iaload, 1) := by decide +kernel
theorem dL_law_882 : decode cL_law 882 = .ok (.invokevirtual 99, 3) := by decide +kernel
theorem dL_law_885 : decode cL_law 885 = .ok (.if_icmp .eq 87, 3) := by decide +kernel
theorem dL_law_888 : decode cL_law 888 = .ok (.iconst 0, 1) := by decide +kernel
theorem dL_law_889 : decode cL_law 889 = .ok (.ireturn, 1) := by decide +kernel
theorem dL_law_890 : decode cL_law 890 = .ok (.aload_n 1, 1) := by decide +kernel
theorem dL_law_891 : decode cL_law 891 = .ok (.aload_n 0, 1) := by decide +kernel
theorem dL_law_892 : decode cL_law 892 = .ok (.iload_n 3, 1) := by decide +kernel
theorem dL_law_893 : decode cL_law 893 = .ok (.iconst 1, 1) := by decide +kernel
theorem dL_law_894 : decode cL_law 894 = .ok (.iadd, 1) := by decide +kernel
theorem dL_law_895 : decode cL_law 895 = .ok (.iaload, 1) := by decide +kernel
theorem dL_law_896 : decode cL_law 896 = .ok (.invokevirtual 100, 3) := by decide +kernel
theorem dL_law_899 : decode cL_law 899 = .ok (.aload_n 2, 1) := by decide +kernel
theorem dL_law_900 : decode cL_law 900 = .ok (.aload_n 0, 1) := by decide +kernel
theorem dL_law_901 : decode cL_law 901 = .ok (.iload_n 3, 1) := by decide +kernel
theorem dL_law_902 : decode cL_law 902 = .ok (.iconst 1, 1) := by decide +kernel
theorem dL_law_903 : decode cL_law 903 = .ok (.iadd, 1) := by decide +kernel
theorem dL_law_904 : decode cL_law 904 = .ok (.iaload, 1) := by decide +kernel
theorem dL_law_905 : decode cL_law 905 = .ok (.invokevirtual 103, 3) := by decide +kernel
theorem dL_law_908 : decode cL_law 908 = .ok (.if_icmp .eq 64, 3) := by decide +kernel
theorem dL_law_911 : decode cL_law 911 = .ok (.iconst 0, 1) := by decide +kernel
theorem dL_law_912 : decode cL_law 912 = .ok (.ireturn, 1) := by decide +kernel
theorem dL_law_913 : decode cL_law 913 = .ok (.aload_n 1, 1) := by decide +kernel
theorem dL_law_914 : decode cL_law 914 = .ok (.invokevirtual 104, 3) := by decide +kernel
theorem dL_law_917 : decode cL_law 917 = .ok (.aload_n 2, 1) := by decide +kernel
theorem dL_law_918 : decode cL_law 918 = .ok (.invokevirtual 107, 3) := by decide +kernel
theorem dL_law_921 : decode cL_law 921 = .ok (.if_icmp .eq 51, 3) := by decide +kernel
theorem dL_law_924 : decode cL_law 924 = .ok (.iconst 0, 1) := by decide +kernel
theorem dL_law_925 : decode cL_law 925 = .ok (.ireturn, 1) := by decide +kernel
theorem dL_law_926 : decode cL_law 926 = .ok (.aload_n 1, 1) := by decide +kernel
theorem dL_law_927 : decode cL_law 927 = .ok (.aload_n 0, 1) := by decide +kernel
theorem dL_law_928 : decode cL_law 928 = .ok (.iload_n 3, 1) := by decide +kernel
theorem dL_law_929 : decode cL_law 929 = .ok (.iconst 1, 1) := by decide +kernel
theorem dL_law_930 : decode cL_law 930 = .ok (.iadd, 1) := by decide +kernel
theorem dL_law_931 : decode cL_law 931 = .ok (.iaload, 1) := by decide +kernel
theorem dL_law_932 : decode cL_law 932 = .ok (.invokevirtual 108, 3) := by decide +kernel
theorem dL_law_935 : decode cL_law 935 = .ok (.aload_n 2, 1) := by decide +kernel
theorem dL_law_936 : decode cL_law 936 = .ok (.aload_n 0, 1) := by decide +kernel
theorem dL_law_937 : decode cL_law 937 = .ok (.iload_n 3, 1) := by decide +kernel
theorem dL_law_938 : decode cL_law 938 = .ok (.iconst 1, 1) := by decide +kernel
theorem dL_law_939 : decode cL_law 939 = .ok (.iadd, 1) := by decide +kernel
theorem dL_law_940 : decode cL_law 940 = .ok (.iaload, 1) := by decide +kernel
theorem dL_law_941 : decode cL_law 941 = .ok (.invokevirtual 111, 3) := by decide +kernel
theorem dL_law_944 : decode cL_law 944 = .ok (.if_icmp .eq 28, 3) := by decide +kernel
theorem dL_law_947 : decode cL_law 947 = .ok (.iconst 0, 1) := by decide +kernel
theorem dL_law_948 : decode cL_law 948 = .ok (.ireturn, 1) := by decide +kernel
theorem dL_law_949 : decode cL_law 949 = .ok (.aload_n 1, 1) := by decide +kernel
theorem dL_law_950 : decode cL_law 950 = .ok (.aload_n 0, 1) := by decide +kernel
theorem dL_law_951 : decode cL_law 951 = .ok (.iload_n 3, 1) := by decide +kernel
theorem dL_law_952 : decode cL_law 952 = .ok (.iconst 1, 1) := by decide +kernel
theorem dL_law_953 : decode cL_law 953 = .ok (.iadd, 1) := by decide +kernel
theorem dL_law_954 : decode cL_law 954 = .ok (.iaload, 1) := by decide +kernel
theorem dL_law_955 : decode cL_law 955 = .ok (.invokevirtual 112, 3) := by decide +kernel
theorem dL_law_958 : decode cL_law 958 = .ok (.aload_n 2, 1) := by decide +kernel
theorem dL_law_959 : decode cL_law 959 = .ok (.aload_n 0, 1) := by decide +kernel
theorem dL_law_960 : decode cL_law 960 = .ok (.iload_n 3, 1) := by decide +kernel
theorem dL_law_961 : decode cL_law 961 = .ok (.iconst 1, 1) := by decide +kernel
theorem dL_law_962 : decode cL_law 962 = .ok (.iadd, 1) := by decide +kernel
theorem dL_law_963 : decode cL_law 963 = .ok (.iaload, 1) := by decide +kernel
theorem dL_law_964 : decode cL_law 964 = .ok (.invokevirtual 115, 3) := by decide +kernel
theorem dL_law_967 : decode cL_law 967 = .ok (.if_icmp .eq 5, 3) := by decide +kernel
theorem dL_law_970 : decode cL_law 970 = .ok (.iconst 0, 1) := by decide +kernel
theorem dL_law_971 : decode cL_law 971 = .ok (.ireturn, 1) := by decide +kernel
theorem dL_law_972 : decode cL_law 972 = .ok (.iinc 3 7, 3) := by decide +kernel
theorem dL_law_975 : decode cL_law 975 = .ok (.goto (-957), 3) := by decide +kernel
theorem dL_law_978 : decode cL_law 978 = .ok (.iconst 1, 1) := by decide +kernel
theorem dL_law_979 : decode cL_law 979 = .ok (.ireturn, 1) := by decide +kernel

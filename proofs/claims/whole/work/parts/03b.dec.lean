theorem dX11_bestGuard_72 : decode cX11_bestGuard 72 = .ok (.iload 4, 2) := by decide +kernel
theorem dX11_bestGuard_74 : decode cX11_bestGuard 74 = .ok (.istore_n 2, 1) := by decide +kernel
theorem dX11_bestGuard_75 : decode cX11_bestGuard 75 = .ok (.iload_n 3, 1) := by decide +kernel
theorem dX11_bestGuard_76 : decode cX11_bestGuard 76 = .ok (.istore_n 1, 1) := by decide +kernel
theorem dX11_bestGuard_77 : decode cX11_bestGuard 77 = .ok (.iinc 3 1, 3) := by decide +kernel
theorem dX11_bestGuard_80 : decode cX11_bestGuard 80 = .ok (.goto (-70), 3) := by decide +kernel
theorem dX11_bestGuard_83 : decode cX11_bestGuard 83 = .ok (.iload_n 1, 1) := by decide +kernel
theorem dX11_bestGuard_84 : decode cX11_bestGuard 84 = .ok (.ireturn, 1) := by decide +kernel
theorem dX11_mend_0 : decode cX11_mend 0 = .ok (.aload_n 0, 1) := by decide +kernel
theorem dX11_mend_1 : decode cX11_mend 1 = .ok (.getfield 12, 3) := by decide +kernel
theorem dX11_mend_4 : decode cX11_mend 4 = .ok (.iload_n 1, 1) := by decide +kernel
theorem dX11_mend_5 : decode cX11_mend 5 = .ok (.invokevirtual 55, 3) := by decide +kernel
theorem dX11_mend_8 : decode cX11_mend 8 = .ok (.ifCond .eq 20, 3) := by decide +kernel
theorem dX11_mend_11 : decode cX11_mend 11 = .ok (.iload_n 2, 1) := by decide +kernel
theorem dX11_mend_12 : decode cX11_mend 12 = .ok (.invokestatic 43, 3) := by decide +kernel
theorem dX11_mend_15 : decode cX11_mend 15 = .ok (.ifCond .eq 13, 3) := by decide +kernel
theorem dX11_mend_18 : decode cX11_mend 18 = .ok (.iload_n 3, 1) := by decide +kernel
theorem dX11_mend_19 : decode cX11_mend 19 = .ok (.iconst 1, 1) := by decide +kernel
theorem dX11_mend_20 : decode cX11_mend 20 = .ok (.bipush 9, 2) := by decide +kernel
theorem dX11_mend_22 : decode cX11_mend 22 = .ok (.invokestatic 47, 3) := by decide +kernel
theorem dX11_mend_25 : decode cX11_mend 25 = .ok (.ifCond .ne 5, 3) := by decide +kernel
theorem dX11_mend_28 : decode cX11_mend 28 = .ok (.iconst (-1), 1) := by decide +kernel
theorem dX11_mend_29 : decode cX11_mend 29 = .ok (.ireturn, 1) := by decide +kernel
theorem dX11_mend_30 : decode cX11_mend 30 = .ok (.iload 4, 2) := by decide +kernel
theorem dX11_mend_32 : decode cX11_mend 32 = .ok (.iconst (-1), 1) := by decide +kernel
theorem dX11_mend_33 : decode cX11_mend 33 = .ok (.if_icmp .eq 17, 3) := by decide +kernel
theorem dX11_mend_36 : decode cX11_mend 36 = .ok (.aload_n 0, 1) := by decide +kernel
theorem dX11_mend_37 : decode cX11_mend 37 = .ok (.getfield 30, 3) := by decide +kernel
theorem dX11_mend_40 : decode cX11_mend 40 = .ok (.iload 4, 2) := by decide +kernel
theorem dX11_mend_42 : decode cX11_mend 42 = .ok (.invokevirtual 154, 3) := by decide +kernel
theorem dX11_mend_45 : decode cX11_mend 45 = .ok (.ifnonnull 5, 3) := by decide +kernel
theorem dX11_mend_48 : decode cX11_mend 48 = .ok (.iconst (-1), 1) := by decide +kernel
theorem dX11_mend_49 : decode cX11_mend 49 = .ok (.ireturn, 1) := by decide +kernel
theorem dX11_mend_50 : decode cX11_mend 50 = .ok (.iload 5, 2) := by decide +kernel
theorem dX11_mend_52 : decode cX11_mend 52 = .ok (.iconst 0, 1) := by decide +kernel
theorem dX11_mend_53 : decode cX11_mend 53 = .ok (.iconst 5, 1) := by decide +kernel
theorem dX11_mend_54 : decode cX11_mend 54 = .ok (.invokestatic 47, 3) := by decide +kernel
theorem dX11_mend_57 : decode cX11_mend 57 = .ok (.ifCond .eq 14, 3) := by decide +kernel
theorem dX11_mend_60 : decode cX11_mend 60 = .ok (.iload 6, 2) := by decide +kernel
theorem dX11_mend_62 : decode cX11_mend 62 = .ok (.iload 5, 2) := by decide +kernel
theorem dX11_mend_64 : decode cX11_mend 64 = .ok (.iconst 5, 1) := by decide +kernel
theorem dX11_mend_65 : decode cX11_mend 65 = .ok (.invokestatic 47, 3) := by decide +kernel
theorem dX11_mend_68 : decode cX11_mend 68 = .ok (.ifCond .ne 5, 3) := by decide +kernel
theorem dX11_mend_71 : decode cX11_mend 71 = .ok (.iconst (-1), 1) := by decide +kernel
theorem dX11_mend_72 : decode cX11_mend 72 = .ok (.ireturn, 1) := by decide +kernel
theorem dX11_mend_73 : decode cX11_mend 73 = .ok (.aload_n 0, 1) := by decide +kernel
theorem dX11_mend_74 : decode cX11_mend 74 = .ok (.getfield 30, 3) := by decide +kernel
theorem dX11_mend_77 : decode cX11_mend 77 = .ok (.new 158, 3) := by decide +kernel
theorem dX11_mend_80 : decode cX11_mend 80 = .ok (.dup, 1) := by decide +kernel
theorem dX11_mend_81 : decode cX11_mend 81 = .ok (.iload_n 1, 1) := by decide +kernel
theorem dX11_mend_82 : decode cX11_mend 82 = .ok (.iload_n 2, 1) := by decide +kernel
theorem dX11_mend_83 : decode cX11_mend 83 = .ok (.iload_n 3, 1) := by decide +kernel
theorem dX11_mend_84 : decode cX11_mend 84 = .ok (.iload 4, 2) := by decide +kernel
theorem dX11_mend_86 : decode cX11_mend 86 = .ok (.iload 5, 2) := by decide +kernel
theorem dX11_mend_88 : decode cX11_mend 88 = .ok (.iload 6, 2) := by decide +kernel
theorem dX11_mend_90 : decode cX11_mend 90 = .ok (.invokespecial 160, 3) := by decide +kernel
theorem dX11_mend_93 : decode cX11_mend 93 = .ok (.invokevirtual 163, 3) := by decide +kernel
theorem dX11_mend_96 : decode cX11_mend 96 = .ok (.ireturn, 1) := by decide +kernel
theorem dX11_quarrel_0 : decode cX11_quarrel 0 = .ok (.aload_n 0, 1) := by decide +kernel
theorem dX11_quarrel_1 : decode cX11_quarrel 1 = .ok (.getfield 12, 3) := by decide +kernel
theorem dX11_quarrel_4 : decode cX11_quarrel 4 = .ok (.iload_n 1, 1) := by decide +kernel
theorem dX11_quarrel_5 : decode cX11_quarrel 5 = .ok (.invokevirtual 55, 3) := by decide +kernel
theorem dX11_quarrel_8 : decode cX11_quarrel 8 = .ok (.ifCond .eq 19, 3) := by decide +kernel
theorem dX11_quarrel_11 : decode cX11_quarrel 11 = .ok (.aload_n 0, 1) := by decide +kernel
theorem dX11_quarrel_12 : decode cX11_quarrel 12 = .ok (.getfield 12, 3) := by decide +kernel
theorem dX11_quarrel_15 : decode cX11_quarrel 15 = .ok (.iload_n 3, 1) := by decide +kernel
theorem dX11_quarrel_16 : decode cX11_quarrel 16 = .ok (.invokevirtual 55, 3) := by decide +kernel
theorem dX11_quarrel_19 : decode cX11_quarrel 19 = .ok (.ifCond .eq 8, 3) := by decide +kernel
theorem dX11_quarrel_22 : decode cX11_quarrel 22 = .ok (.iload_n 1, 1) := by decide +kernel
theorem dX11_quarrel_23 : decode cX11_quarrel 23 = .ok (.iload_n 3, 1) := by decide +kernel
theorem dX11_quarrel_24 : decode cX11_quarrel 24 = .ok (.if_icmp .ne 5, 3) := by decide +kernel
theorem dX11_quarrel_27 : decode cX11_quarrel 27 = .ok (.iconst (-1), 1) := by decide +kernel
theorem dX11_quarrel_28 : decode cX11_quarrel 28 = .ok (.ireturn, 1) := by decide +kernel
theorem dX11_quarrel_29 : decode cX11_quarrel 29 = .ok (.iload_n 2, 1) := by decide +kernel
theorem dX11_quarrel_30 : decode cX11_quarrel 30 = .ok (.invokestatic 43, 3) := by decide +kernel
theorem dX11_quarrel_33 : decode cX11_quarrel 33 = .ok (.ifCond .eq 11, 3) := by decide +kernel
theorem dX11_quarrel_36 : decode cX11_quarrel 36 = .ok (.iload 4, 2) := by decide +kernel
theorem dX11_quarrel_38 : decode cX11_quarrel 38 = .ok (.invokestatic 43, 3) := by decide +kernel
theorem dX11_quarrel_41 : decode cX11_quarrel 41 = .ok (.ifCond .ne 5, 3) := by decide +kernel
theorem dX11_quarrel_44 : decode cX11_quarrel 44 = .ok (.iconst (-1), 1) := by decide +kernel
theorem dX11_quarrel_45 : decode cX11_quarrel 45 = .ok (.ireturn, 1) := by decide +kernel
theorem dX11_quarrel_46 : decode cX11_quarrel 46 = .ok (.aload_n 0, 1) := by decide +kernel
theorem dX11_quarrel_47 : decode cX11_quarrel 47 = .ok (.getfield 30, 3) := by decide +kernel
theorem dX11_quarrel_50 : decode cX11_quarrel 50 = .ok (.new 167, 3) := by decide +kernel
theorem dX11_quarrel_53 : decode cX11_quarrel 53 = .ok (.dup, 1) := by decide +kernel
theorem dX11_quarrel_54 : decode cX11_quarrel 54 = .ok (.iload_n 1, 1) := by decide +kernel
theorem dX11_quarrel_55 : decode cX11_quarrel 55 = .ok (.iload_n 2, 1) := by decide +kernel
theorem dX11_quarrel_56 : decode cX11_quarrel 56 = .ok (.iload_n 3, 1) := by decide +kernel
theorem dX11_quarrel_57 : decode cX11_quarrel 57 = .ok (.iload 4, 2) := by decide +kernel
theorem dX11_quarrel_59 : decode cX11_quarrel 59 = .ok (.invokespecial 169, 3) := by decide +kernel
theorem dX11_quarrel_62 : decode cX11_quarrel 62 = .ok (.invokevirtual 172, 3) := by decide +kernel
theorem dX11_quarrel_65 : decode cX11_quarrel 65 = .ok (.ireturn, 1) := by decide +kernel
theorem dX11_riskWith_0 : decode cX11_riskWith 0 = .ok (.aload_n 0, 1) := by decide +kernel
theorem dX11_riskWith_1 : decode cX11_riskWith 1 = .ok (.getfield 30, 3) := by decide +kernel
theorem dX11_riskWith_4 : decode cX11_riskWith 4 = .ok (.iload_n 1, 1) := by decide +kernel
theorem dX11_riskWith_5 : decode cX11_riskWith 5 = .ok (.invokevirtual 176, 3) := by decide +kernel
theorem dX11_riskWith_8 : decode cX11_riskWith 8 = .ok (.ifCond .ne 5, 3) := by decide +kernel
theorem dX11_riskWith_11 : decode cX11_riskWith 11 = .ok (.iconst (-1), 1) := by decide +kernel
theorem dX11_riskWith_12 : decode cX11_riskWith 12 = .ok (.ireturn, 1) := by decide +kernel
theorem dX11_riskWith_13 : decode cX11_riskWith 13 = .ok (.aload_n 0, 1) := by decide +kernel
theorem dX11_riskWith_14 : decode cX11_riskWith 14 = .ok (.getfield 30, 3) := by decide +kernel
theorem dX11_riskWith_17 : decode cX11_riskWith 17 = .ok (.iload_n 1, 1) := by decide +kernel
theorem dX11_riskWith_18 : decode cX11_riskWith 18 = .ok (.invokevirtual 179, 3) := by decide +kernel
theorem dX11_riskWith_21 : decode cX11_riskWith 21 = .ok (.ireturn, 1) := by decide +kernel
theorem dX11_sound_0 : decode cX11_sound 0 = .ok (.aload_n 0, 1) := by decide +kernel
theorem dX11_sound_1 : decode cX11_sound 1 = .ok (.getfield 30, 3) := by decide +kernel
theorem dX11_sound_4 : decode cX11_sound 4 = .ok (.iload_n 1, 1) := by decide +kernel
theorem dX11_sound_5 : decode cX11_sound 5 = .ok (.invokevirtual 176, 3) := by decide +kernel
theorem dX11_sound_8 : decode cX11_sound 8 = .ok (.ifCond .ne 5, 3) := by decide +kernel
theorem dX11_sound_11 : decode cX11_sound 11 = .ok (.iconst (-1), 1) := by decide +kernel
theorem dX11_sound_12 : decode cX11_sound 12 = .ok (.ireturn, 1) := by decide +kernel
theorem dX11_sound_13 : decode cX11_sound 13 = .ok (.aload_n 0, 1) := by decide +kernel
theorem dX11_sound_14 : decode cX11_sound 14 = .ok (.getfield 30, 3) := by decide +kernel
theorem dX11_sound_17 : decode cX11_sound 17 = .ok (.iload_n 1, 1) := by decide +kernel
theorem dX11_sound_18 : decode cX11_sound 18 = .ok (.invokevirtual 182, 3) := by decide +kernel
theorem dX11_sound_21 : decode cX11_sound 21 = .ok (.invokestatic 69, 3) := by decide +kernel
theorem dX11_sound_24 : decode cX11_sound 24 = .ok (.ireturn, 1) := by decide +kernel
theorem dX11_gain_0 : decode cX11_gain 0 = .ok (.aload_n 0, 1) := by decide +kernel
theorem dX11_gain_1 : decode cX11_gain 1 = .ok (.getfield 30, 3) := by decide +kernel
theorem dX11_gain_4 : decode cX11_gain 4 = .ok (.iload_n 1, 1) := by decide +kernel
theorem dX11_gain_5 : decode cX11_gain 5 = .ok (.invokevirtual 154, 3) := by decide +kernel
theorem dX11_gain_8 : decode cX11_gain 8 = .ok (.ifnull 22, 3) := by decide +kernel
theorem dX11_gain_11 : decode cX11_gain 11 = .ok (.aload_n 0, 1) := by decide +kernel
theorem dX11_gain_12 : decode cX11_gain 12 = .ok (.getfield 30, 3) := by decide +kernel
theorem dX11_gain_15 : decode cX11_gain 15 = .ok (.iload_n 2, 1) := by decide +kernel
theorem dX11_gain_16 : decode cX11_gain 16 = .ok (.invokevirtual 176, 3) := by decide +kernel
theorem dX11_gain_19 : decode cX11_gain 19 = .ok (.ifCond .eq 11, 3) := by decide +kernel
theorem dX11_gain_22 : decode cX11_gain 22 = .ok (.iload_n 2, 1) := by decide +kernel
theorem dX11_gain_23 : decode cX11_gain 23 = .ok (.iload_n 1, 1) := by decide +kernel
theorem dX11_gain_24 : decode cX11_gain 24 = .ok (.invokestatic 65, 3) := by decide +kernel
theorem dX11_gain_27 : decode cX11_gain 27 = .ok (.ifCond .eq 6, 3) := by decide +kernel
theorem dX11_gain_30 : decode cX11_gain 30 = .ok (.ldc 185, 2) := by decide +kernel
theorem dX11_gain_32 : decode cX11_gain 32 = .ok (.ireturn, 1) := by decide +kernel
theorem dX11_gain_33 : decode cX11_gain 33 = .ok (.aload_n 0, 1) := by decide +kernel
theorem dX11_gain_34 : decode cX11_gain 34 = .ok (.getfield 30, 3) := by decide +kernel
theorem dX11_gain_37 : decode cX11_gain 37 = .ok (.iload_n 2, 1) := by decide +kernel
theorem dX11_gain_38 : decode cX11_gain 38 = .ok (.invokevirtual 179, 3) := by decide +kernel
theorem dX11_gain_41 : decode cX11_gain 41 = .ok (.aload_n 0, 1) := by decide +kernel
theorem dX11_gain_42 : decode cX11_gain 42 = .ok (.getfield 30, 3) := by decide +kernel
theorem dX11_gain_45 : decode cX11_gain 45 = .ok (.iload_n 2, 1) := by decide +kernel
theorem dX11_gain_46 : decode cX11_gain 46 = .ok (.iload_n 1, 1) := by decide +kernel
theorem dX11_gain_47 : decode cX11_gain 47 = .ok (.invokestatic 146, 3) := by decide +kernel
theorem dX11_gain_50 : decode cX11_gain 50 = .ok (.ior, 1) := by decide +kernel
theorem dX11_gain_51 : decode cX11_gain 51 = .ok (.invokevirtual 179, 3) := by decide +kernel
theorem dX11_gain_54 : decode cX11_gain 54 = .ok (.isub, 1) := by decide +kernel
theorem dX11_gain_55 : decode cX11_gain 55 = .ok (.ireturn, 1) := by decide +kernel
theorem dX11_next_0 : decode cX11_next 0 = .ok (.aload_n 0, 1) := by decide +kernel
theorem dX11_next_1 : decode cX11_next 1 = .ok (.getfield 30, 3) := by decide +kernel
theorem dX11_next_4 : decode cX11_next 4 = .ok (.iload_n 1, 1) := by decide +kernel
theorem dX11_next_5 : decode cX11_next 5 = .ok (.invokevirtual 176, 3) := by decide +kernel
theorem dX11_next_8 : decode cX11_next 8 = .ok (.ifCond .ne 5, 3) := by decide +kernel
theorem dX11_next_11 : decode cX11_next 11 = .ok (.iconst (-1), 1) := by decide +kernel
theorem dX11_next_12 : decode cX11_next 12 = .ok (.ireturn, 1) := by decide +kernel
theorem dX11_next_13 : decode cX11_next 13 = .ok (.aload_n 0, 1) := by decide +kernel
theorem dX11_next_14 : decode cX11_next 14 = .ok (.getfield 30, 3) := by decide +kernel
theorem dX11_next_17 : decode cX11_next 17 = .ok (.iload_n 1, 1) := by decide +kernel
theorem dX11_next_18 : decode cX11_next 18 = .ok (.invokevirtual 179, 3) := by decide +kernel
theorem dX11_next_21 : decode cX11_next 21 = .ok (.istore_n 2, 1) := by decide +kernel
theorem dX11_next_22 : decode cX11_next 22 = .ok (.bipush (-4), 2) := by decide +kernel
theorem dX11_next_24 : decode cX11_next 24 = .ok (.istore_n 3, 1) := by decide +kernel
theorem dX11_next_25 : decode cX11_next 25 = .ok (.iconst 0, 1) := by decide +kernel
theorem dX11_next_26 : decode cX11_next 26 = .ok (.istore 4, 2) := by decide +kernel
theorem dX11_next_28 : decode cX11_next 28 = .ok (.iconst 1, 1) := by decide +kernel
theorem dX11_next_29 : decode cX11_next 29 = .ok (.istore 5, 2) := by decide +kernel
theorem dX11_next_31 : decode cX11_next 31 = .ok (.iconst 0, 1) := by decide +kernel
theorem dX11_next_32 : decode cX11_next 32 = .ok (.istore 6, 2) := by decide +kernel
theorem dX11_next_34 : decode cX11_next 34 = .ok (.iload 6, 2) := by decide +kernel
theorem dX11_next_36 : decode cX11_next 36 = .ok (.aload_n 0, 1) := by decide +kernel
theorem dX11_next_37 : decode cX11_next 37 = .ok (.getfield 30, 3) := by decide +kernel
theorem dX11_next_40 : decode cX11_next 40 = .ok (.getfield 186, 3) := by decide +kernel
theorem dX11_next_43 : decode cX11_next 43 = .ok (.if_icmp .ge 102, 3) := by decide +kernel
theorem dX11_next_46 : decode cX11_next 46 = .ok (.aload_n 0, 1) := by decide +kernel
theorem dX11_next_47 : decode cX11_next 47 = .ok (.getfield 30, 3) := by decide +kernel
theorem dX11_next_50 : decode cX11_next 50 = .ok (.iload 6, 2) := by decide +kernel
theorem dX11_next_52 : decode cX11_next 52 = .ok (.invokevirtual 154, 3) := by decide +kernel
theorem dX11_next_55 : decode cX11_next 55 = .ok (.astore 7, 2) := by decide +kernel
theorem dX11_next_57 : decode cX11_next 57 = .ok (.aload 7, 2) := by decide +kernel
theorem dX11_next_59 : decode cX11_next 59 = .ok (.ifnull 80, 3) := by decide +kernel
theorem dX11_next_62 : decode cX11_next 62 = .ok (.iload_n 1, 1) := by decide +kernel
theorem dX11_next_63 : decode cX11_next 63 = .ok (.iload 6, 2) := by decide +kernel
theorem dX11_next_65 : decode cX11_next 65 = .ok (.invokestatic 65, 3) := by decide +kernel
theorem dX11_next_68 : decode cX11_next 68 = .ok (.ifCond .ne 71, 3) := by decide +kernel
theorem dX11_next_71 : decode cX11_next 71 = .ok (.aload_n 0, 1) := by decide +kernel
theorem dX11_next_72 : decode cX11_next 72 = .ok (.getfield 30, 3) := by decide +kernel
theorem dX11_next_75 : decode cX11_next 75 = .ok (.iload_n 1, 1) := by decide +kernel
theorem dX11_next_76 : decode cX11_next 76 = .ok (.iload 6, 2) := by decide +kernel
theorem dX11_next_78 : decode cX11_next 78 = .ok (.invokestatic 146, 3) := by decide +kernel
theorem dX11_next_81 : decode cX11_next 81 = .ok (.ior, 1) := by decide +kernel
theorem dX11_next_82 : decode cX11_next 82 = .ok (.invokevirtual 182, 3) := by decide +kernel
theorem dX11_next_85 : decode cX11_next 85 = .ok (.ifCond .ne 6, 3) := by decide +kernel
theorem dX11_next_88 : decode cX11_next 88 = .ok (.goto 51, 3) := by decide +kernel
theorem dX11_next_91 : decode cX11_next 91 = .ok (.iload_n 2, 1) := by decide +kernel
theorem dX11_next_92 : decode cX11_next 92 = .ok (.aload_n 0, 1) := by decide +kernel
theorem dX11_next_93 : decode cX11_next 93 = .ok (.getfield 30, 3) := by decide +kernel
theorem dX11_next_96 : decode cX11_next 96 = .ok (.iload_n 1, 1) := by decide +kernel
theorem dX11_next_97 : decode cX11_next 97 = .ok (.iload 6, 2) := by decide +kernel
theorem dX11_next_99 : decode cX11_next 99 = .ok (.invokestatic 146, 3) := by decide +kernel
theorem dX11_next_102 : decode cX11_next 102 = .ok (.ior, 1) := by decide +kernel
theorem dX11_next_103 : decode cX11_next 103 = .ok (.invokevirtual 179, 3) := by decide +kernel
theorem dX11_next_106 : decode cX11_next 106 = .ok (.isub, 1) := by decide +kernel
theorem dX11_next_107 : decode cX11_next 107 = .ok (.istore 8, 2) := by decide +kernel
theorem dX11_next_109 : decode cX11_next 109 = .ok (.iload 8, 2) := by decide +kernel
theorem dX11_next_111 : decode cX11_next 111 = .ok (.iload 5, 2) := by decide +kernel
theorem dX11_next_113 : decode cX11_next 113 = .ok (.imul, 1) := by decide +kernel
theorem dX11_next_114 : decode cX11_next 114 = .ok (.iload 4, 2) := by decide +kernel
theorem dX11_next_116 : decode cX11_next 116 = .ok (.aload 7, 2) := by decide +kernel
theorem dX11_next_118 : decode cX11_next 118 = .ok (.getfield 189, 3) := by decide +kernel
theorem dX11_next_121 : decode cX11_next 121 = .ok (.imul, 1) := by decide +kernel
theorem dX11_next_122 : decode cX11_next 122 = .ok (.if_icmp .le 17, 3) := by decide +kernel
theorem dX11_next_125 : decode cX11_next 125 = .ok (.iload 6, 2) := by decide +kernel
theorem dX11_next_127 : decode cX11_next 127 = .ok (.istore_n 3, 1) := by decide +kernel
theorem dX11_next_128 : decode cX11_next 128 = .ok (.iload 8, 2) := by decide +kernel
theorem dX11_next_130 : decode cX11_next 130 = .ok (.istore 4, 2) := by decide +kernel
theorem dX11_next_132 : decode cX11_next 132 = .ok (.aload 7, 2) := by decide +kernel
theorem dX11_next_134 : decode cX11_next 134 = .ok (.getfield 189, 3) := by decide +kernel
theorem dX11_next_137 : decode cX11_next 137 = .ok (.istore 5, 2) := by decide +kernel
theorem dX11_next_139 : decode cX11_next 139 = .ok (.iinc 6 1, 3) := by decide +kernel
theorem dX11_next_142 : decode cX11_next 142 = .ok (.goto (-108), 3) := by decide +kernel
theorem dX11_next_145 : decode cX11_next 145 = .ok (.iload_n 3, 1) := by decide +kernel
theorem dX11_next_146 : decode cX11_next 146 = .ok (.ireturn, 1) := by decide +kernel
theorem dX11_plan_0 : decode cX11_plan 0 = .ok (.iload_n 1, 1) := by decide +kernel
theorem dX11_plan_1 : decode cX11_plan 1 = .ok (.iconst 1, 1) := by decide +kernel
theorem dX11_plan_2 : decode cX11_plan 2 = .ok (.bipush 6, 2) := by decide +kernel
theorem dX11_plan_4 : decode cX11_plan 4 = .ok (.invokestatic 47, 3) := by decide +kernel
theorem dX11_plan_7 : decode cX11_plan 7 = .ok (.ifCond .eq 13, 3) := by decide +kernel
theorem dX11_plan_10 : decode cX11_plan 10 = .ok (.iload_n 2, 1) := by decide +kernel
theorem dX11_plan_11 : decode cX11_plan 11 = .ok (.iconst 0, 1) := by decide +kernel
theorem dX11_plan_12 : decode cX11_plan 12 = .ok (.bipush 99, 2) := by decide +kernel
theorem dX11_plan_14 : decode cX11_plan 14 = .ok (.invokestatic 47, 3) := by decide +kernel
theorem dX11_plan_17 : decode cX11_plan 17 = .ok (.ifCond .ne 5, 3) := by decide +kernel
theorem dX11_plan_20 : decode cX11_plan 20 = .ok (.iconst (-1), 1) := by decide +kernel
theorem dX11_plan_21 : decode cX11_plan 21 = .ok (.ireturn, 1) := by decide +kernel
theorem dX11_plan_22 : decode cX11_plan 22 = .ok (.aload_n 0, 1) := by decide +kernel
theorem dX11_plan_23 : decode cX11_plan 23 = .ok (.getfield 30, 3) := by decide +kernel
theorem dX11_plan_26 : decode cX11_plan 26 = .ok (.iconst 0, 1) := by decide +kernel
theorem dX11_plan_27 : decode cX11_plan 27 = .ok (.invokevirtual 182, 3) := by decide +kernel
theorem dX11_plan_30 : decode cX11_plan 30 = .ok (.ifCond .ne 6, 3) := by decide +kernel
theorem dX11_plan_33 : decode cX11_plan 33 = .ok (.bipush (-2), 2) := by decide +kernel
theorem dX11_plan_35 : decode cX11_plan 35 = .ok (.ireturn, 1) := by decide +kernel
theorem dX11_plan_36 : decode cX11_plan 36 = .ok (.aload_n 0, 1) := by decide +kernel
theorem dX11_plan_37 : decode cX11_plan 37 = .ok (.getfield 39, 3) := by decide +kernel
theorem dX11_plan_40 : decode cX11_plan 40 = .ok (.iload_n 1, 1) := by decide +kernel
theorem dX11_plan_41 : decode cX11_plan 41 = .ok (.iload_n 2, 1) := by decide +kernel
theorem dX11_plan_42 : decode cX11_plan 42 = .ok (.invokevirtual 192, 3) := by decide +kernel
theorem dX11_plan_45 : decode cX11_plan 45 = .ok (.aload_n 0, 1) := by decide +kernel
theorem dX11_plan_46 : decode cX11_plan 46 = .ok (.getfield 39, 3) := by decide +kernel
theorem dX11_plan_49 : decode cX11_plan 49 = .ok (.iload_n 1, 1) := by decide +kernel
theorem dX11_plan_50 : decode cX11_plan 50 = .ok (.invokevirtual 196, 3) := by decide +kernel
theorem dX11_plan_53 : decode cX11_plan 53 = .ok (.aload_n 0, 1) := by decide +kernel
theorem dX11_plan_54 : decode cX11_plan 54 = .ok (.getfield 39, 3) := by decide +kernel
theorem dX11_plan_57 : decode cX11_plan 57 = .ok (.iload_n 1, 1) := by decide +kernel
theorem dX11_plan_58 : decode cX11_plan 58 = .ok (.invokevirtual 200, 3) := by decide +kernel
theorem dX11_plan_61 : decode cX11_plan 61 = .ok (.aload_n 0, 1) := by decide +kernel
theorem dX11_plan_62 : decode cX11_plan 62 = .ok (.getfield 39, 3) := by decide +kernel
theorem dX11_plan_65 : decode cX11_plan 65 = .ok (.invokevirtual 203, 3) := by decide +kernel
theorem dX11_plan_68 : decode cX11_plan 68 = .ok (.ireturn, 1) := by decide +kernel
theorem dX11_week_0 : decode cX11_week 0 = .ok (.aload_n 0, 1) := by decide +kernel
theorem dX11_week_1 : decode cX11_week 1 = .ok (.getfield 30, 3) := by decide +kernel
theorem dX11_week_4 : decode cX11_week 4 = .ok (.iload_n 1, 1) := by decide +kernel
theorem dX11_week_5 : decode cX11_week 5 = .ok (.invokevirtual 154, 3) := by decide +kernel
theorem dX11_week_8 : decode cX11_week 8 = .ok (.ifnonnull 5, 3) := by decide +kernel
theorem dX11_week_11 : decode cX11_week 11 = .ok (.iconst (-1), 1) := by decide +kernel
theorem dX11_week_12 : decode cX11_week 12 = .ok (.ireturn, 1) := by decide +kernel
theorem dX11_week_13 : decode cX11_week 13 = .ok (.aload_n 0, 1) := by decide +kernel
theorem dX11_week_14 : decode cX11_week 14 = .ok (.getfield 39, 3) := by decide +kernel
theorem dX11_week_17 : decode cX11_week 17 = .ok (.getfield 206, 3) := by decide +kernel
theorem dX11_week_20 : decode cX11_week 20 = .ok (.iload_n 1, 1) := by decide +kernel
theorem dX11_week_21 : decode cX11_week 21 = .ok (.iaload, 1) := by decide +kernel
theorem dX11_week_22 : decode cX11_week 22 = .ok (.ireturn, 1) := by decide +kernel
theorem dX11_moved_0 : decode cX11_moved 0 = .ok (.aload_n 0, 1) := by decide +kernel
theorem dX11_moved_1 : decode cX11_moved 1 = .ok (.getfield 39, 3) := by decide +kernel
theorem dX11_moved_4 : decode cX11_moved 4 = .ok (.getfield 209, 3) := by decide +kernel
theorem dX11_moved_7 : decode cX11_moved 7 = .ok (.iconst 2, 1) := by decide +kernel
theorem dX11_moved_8 : decode cX11_moved 8 = .ok (.if_icmp .ge 8, 3) := by decide +kernel
theorem dX11_moved_11 : decode cX11_moved 11 = .ok (.bipush (-4), 2) := by decide +kernel
theorem dX11_moved_13 : decode cX11_moved 13 = .ok (.goto 10, 3) := by decide +kernel
theorem dX11_moved_16 : decode cX11_moved 16 = .ok (.aload_n 0, 1) := by decide +kernel
theorem dX11_moved_17 : decode cX11_moved 17 = .ok (.getfield 39, 3) := by decide +kernel
theorem dX11_moved_20 : decode cX11_moved 20 = .ok (.getfield 212, 3) := by decide +kernel
theorem dX11_moved_23 : decode cX11_moved 23 = .ok (.ireturn, 1) := by decide +kernel
theorem dX11_make_0 : decode cX11_make 0 = .ok (.aload_n 0, 1) := by decide +kernel
theorem dX11_make_1 : decode cX11_make 1 = .ok (.getfield 30, 3) := by decide +kernel
theorem dX11_make_4 : decode cX11_make 4 = .ok (.iload_n 1, 1) := by decide +kernel
theorem dX11_make_5 : decode cX11_make 5 = .ok (.invokevirtual 154, 3) := by decide +kernel
theorem dX11_make_8 : decode cX11_make 8 = .ok (.astore_n 2, 1) := by decide +kernel
theorem dX11_make_9 : decode cX11_make 9 = .ok (.aload_n 2, 1) := by decide +kernel
theorem dX11_make_10 : decode cX11_make 10 = .ok (.ifnonnull 5, 3) := by decide +kernel
theorem dX11_make_13 : decode cX11_make 13 = .ok (.iconst (-1), 1) := by decide +kernel
theorem dX11_make_14 : decode cX11_make 14 = .ok (.ireturn, 1) := by decide +kernel
theorem dX11_make_15 : decode cX11_make 15 = .ok (.aload_n 0, 1) := by decide +kernel
theorem dX11_make_16 : decode cX11_make 16 = .ok (.getfield 30, 3) := by decide +kernel
theorem dX11_make_19 : decode cX11_make 19 = .ok (.aload_n 2, 1) := by decide +kernel
theorem dX11_make_20 : decode cX11_make 20 = .ok (.invokevirtual 215, 3) := by decide +kernel
theorem dX11_make_23 : decode cX11_make 23 = .ok (.ifCond .eq 17, 3) := by decide +kernel
theorem dX11_make_26 : decode cX11_make 26 = .ok (.aload_n 0, 1) := by decide +kernel
theorem dX11_make_27 : decode cX11_make 27 = .ok (.getfield 30, 3) := by decide +kernel
theorem dX11_make_30 : decode cX11_make 30 = .ok (.iload_n 1, 1) := by decide +kernel
theorem dX11_make_31 : decode cX11_make 31 = .ok (.invokestatic 146, 3) := by decide +kernel
theorem dX11_make_34 : decode cX11_make 34 = .ok (.invokevirtual 219, 3) := by decide +kernel
theorem dX11_make_37 : decode cX11_make 37 = .ok (.ifCond .eq 6, 3) := by decide +kernel
theorem dX11_make_40 : decode cX11_make 40 = .ok (.bipush (-2), 2) := by decide +kernel
theorem dX11_make_42 : decode cX11_make 42 = .ok (.ireturn, 1) := by decide +kernel
theorem dX11_make_43 : decode cX11_make 43 = .ok (.aload_n 0, 1) := by decide +kernel
theorem dX11_make_44 : decode cX11_make 44 = .ok (.invokevirtual 128, 3) := by decide +kernel
theorem dX11_make_47 : decode cX11_make 47 = .ok (.istore_n 3, 1) := by decide +kernel
theorem dX11_make_48 : decode cX11_make 48 = .ok (.aload_n 0, 1) := by decide +kernel
theorem dX11_make_49 : decode cX11_make 49 = .ok (.getfield 12, 3) := by decide +kernel
theorem dX11_make_52 : decode cX11_make 52 = .ok (.getfield 77, 3) := by decide +kernel
theorem dX11_make_55 : decode cX11_make 55 = .ok (.aload_n 2, 1) := by decide +kernel
theorem dX11_make_56 : decode cX11_make 56 = .ok (.getfield 222, 3) := by decide +kernel
theorem dX11_make_59 : decode cX11_make 59 = .ok (.aload_n 0, 1) := by decide +kernel
theorem dX11_make_60 : decode cX11_make 60 = .ok (.getfield 12, 3) := by decide +kernel
theorem dX11_make_63 : decode cX11_make 63 = .ok (.getfield 77, 3) := by decide +kernel
theorem dX11_make_66 : decode cX11_make 66 = .ok (.aload_n 2, 1) := by decide +kernel
theorem dX11_make_67 : decode cX11_make 67 = .ok (.getfield 222, 3) := by decide +kernel
theorem dX11_make_70 : decode cX11_make 70 = .ok (.iaload, 1) := by decide +kernel
theorem dX11_make_71 : decode cX11_make 71 = .ok (.aload_n 2, 1) := by decide +kernel
theorem dX11_make_72 : decode cX11_make 72 = .ok (.getfield 223, 3) := by decide +kernel
theorem dX11_make_75 : decode cX11_make 75 = .ok (.invokestatic 226, 3) := by decide +kernel
theorem dX11_make_78 : decode cX11_make 78 = .ok (.iastore, 1) := by decide +kernel
theorem dX11_make_79 : decode cX11_make 79 = .ok (.iload_n 3, 1) := by decide +kernel
theorem dX11_make_80 : decode cX11_make 80 = .ok (.aload_n 0, 1) := by decide +kernel
theorem dX11_make_81 : decode cX11_make 81 = .ok (.invokevirtual 128, 3) := by decide +kernel
theorem dX11_make_84 : decode cX11_make 84 = .ok (.isub, 1) := by decide +kernel
theorem dX11_make_85 : decode cX11_make 85 = .ok (.ldc 232, 2) := by decide +kernel
theorem dX11_make_87 : decode cX11_make 87 = .ok (.iadd, 1) := by decide +kernel
theorem dX11_make_88 : decode cX11_make 88 = .ok (.ireturn, 1) := by decide +kernel
theorem dX11_count_0 : decode cX11_count 0 = .ok (.iload_n 1, 1) := by decide +kernel
theorem dX11_count_1 : decode cX11_count 1 = .ok (.tableswitch 103 0 5 #[39, 47, 55, 63, 71, 87], 39) := by decide +kernel
theorem dX11_count_40 : decode cX11_count 40 = .ok (.aload_n 0, 1) := by decide +kernel
theorem dX11_count_41 : decode cX11_count 41 = .ok (.getfield 12, 3) := by decide +kernel
theorem dX11_count_44 : decode cX11_count 44 = .ok (.getfield 143, 3) := by decide +kernel
theorem dX11_count_47 : decode cX11_count 47 = .ok (.ireturn, 1) := by decide +kernel
theorem dX11_count_48 : decode cX11_count 48 = .ok (.aload_n 0, 1) := by decide +kernel
theorem dX11_count_49 : decode cX11_count 49 = .ok (.getfield 12, 3) := by decide +kernel
theorem dX11_count_52 : decode cX11_count 52 = .ok (.getfield 233, 3) := by decide +kernel
theorem dX11_count_55 : decode cX11_count 55 = .ok (.ireturn, 1) := by decide +kernel
theorem dX11_count_56 : decode cX11_count 56 = .ok (.aload_n 0, 1) := by decide +kernel
theorem dX11_count_57 : decode cX11_count 57 = .ok (.getfield 30, 3) := by decide +kernel
theorem dX11_count_60 : decode cX11_count 60 = .ok (.getfield 186, 3) := by decide +kernel
theorem dX11_count_63 : decode cX11_count 63 = .ok (.ireturn, 1) := by decide +kernel
theorem dX11_count_64 : decode cX11_count 64 = .ok (.aload_n 0, 1) := by decide +kernel
theorem dX11_count_65 : decode cX11_count 65 = .ok (.getfield 30, 3) := by decide +kernel
theorem dX11_count_68 : decode cX11_count 68 = .ok (.getfield 236, 3) := by decide +kernel
theorem dX11_count_71 : decode cX11_count 71 = .ok (.ireturn, 1) := by decide +kernel
theorem dX11_count_72 : decode cX11_count 72 = .ok (.aload_n 0, 1) := by decide +kernel
theorem dX11_count_73 : decode cX11_count 73 = .ok (.invokevirtual 128, 3) := by decide +kernel
theorem dX11_count_76 : decode cX11_count 76 = .ok (.pop, 1) := by decide +kernel
theorem dX11_count_77 : decode cX11_count 77 = .ok (.aload_n 0, 1) := by decide +kernel
theorem dX11_count_78 : decode cX11_count 78 = .ok (.getfield 21, 3) := by decide +kernel
theorem dX11_count_81 : decode cX11_count 81 = .ok (.getfield 239, 3) := by decide +kernel
theorem dX11_count_84 : decode cX11_count 84 = .ok (.invokestatic 242, 3) := by decide +kernel
theorem dX11_count_87 : decode cX11_count 87 = .ok (.ireturn, 1) := by decide +kernel
theorem dX11_count_88 : decode cX11_count 88 = .ok (.aload_n 0, 1) := by decide +kernel
theorem dX11_count_89 : decode cX11_count 89 = .ok (.invokevirtual 128, 3) := by decide +kernel
theorem dX11_count_92 : decode cX11_count 92 = .ok (.pop, 1) := by decide +kernel
theorem dX11_count_93 : decode cX11_count 93 = .ok (.aload_n 0, 1) := by decide +kernel
theorem dX11_count_94 : decode cX11_count 94 = .ok (.getfield 21, 3) := by decide +kernel
theorem dX11_count_97 : decode cX11_count 97 = .ok (.getfield 131, 3) := by decide +kernel
theorem dX11_count_100 : decode cX11_count 100 = .ok (.invokestatic 242, 3) := by decide +kernel
theorem dX11_count_103 : decode cX11_count 103 = .ok (.ireturn, 1) := by decide +kernel
theorem dX11_count_104 : decode cX11_count 104 = .ok (.iconst (-1), 1) := by decide +kernel
theorem dX11_count_105 : decode cX11_count 105 = .ok (.ireturn, 1) := by decide +kernel
theorem dX11_spreadNow_0 : decode cX11_spreadNow 0 = .ok (.aload_n 0, 1) := by decide +kernel
theorem dX11_spreadNow_1 : decode cX11_spreadNow 1 = .ok (.getfield 21, 3) := by decide +kernel
theorem dX11_spreadNow_4 : decode cX11_spreadNow 4 = .ok (.aload_n 0, 1) := by decide +kernel
theorem dX11_spreadNow_5 : decode cX11_spreadNow 5 = .ok (.getfield 12, 3) := by decide +kernel
theorem dX11_spreadNow_8 : decode cX11_spreadNow 8 = .ok (.getfield 77, 3) := by decide +kernel
theorem dX11_spreadNow_11 : decode cX11_spreadNow 11 = .ok (.aload_n 0, 1) := by decide +kernel
theorem dX11_spreadNow_12 : decode cX11_spreadNow 12 = .ok (.getfield 12, 3) := by decide +kernel
theorem dX11_spreadNow_15 : decode cX11_spreadNow 15 = .ok (.getfield 73, 3) := by decide +kernel
theorem dX11_spreadNow_18 : decode cX11_spreadNow 18 = .ok (.invokevirtual 150, 3) := by decide +kernel
theorem dX11_spreadNow_21 : decode cX11_spreadNow 21 = .ok (.ireturn, 1) := by decide +kernel
theorem dX11_isBetween_0 : decode cX11_isBetween 0 = .ok (.iload_n 1, 1) := by decide +kernel
theorem dX11_isBetween_1 : decode cX11_isBetween 1 = .ok (.iload_n 0, 1) := by decide +kernel
theorem dX11_isBetween_2 : decode cX11_isBetween 2 = .ok (.if_icmp .gt 12, 3) := by decide +kernel
theorem dX11_isBetween_5 : decode cX11_isBetween 5 = .ok (.iload_n 0, 1) := by decide +kernel
theorem dX11_isBetween_6 : decode cX11_isBetween 6 = .ok (.iload_n 2, 1) := by decide +kernel
theorem dX11_isBetween_7 : decode cX11_isBetween 7 = .ok (.if_icmp .gt 7, 3) := by decide +kernel
theorem dX11_isBetween_10 : decode cX11_isBetween 10 = .ok (.iconst 1, 1) := by decide +kernel
theorem dX11_isBetween_11 : decode cX11_isBetween 11 = .ok (.goto 4, 3) := by decide +kernel
theorem dX11_isBetween_14 : decode cX11_isBetween 14 = .ok (.iconst 0, 1) := by decide +kernel
theorem dX11_isBetween_15 : decode cX11_isBetween 15 = .ok (.ireturn, 1) := by decide +kernel
theorem dX11_isVersion_0 : decode cX11_isVersion 0 = .ok (.iload_n 0, 1) := by decide +kernel
theorem dX11_isVersion_1 : decode cX11_isVersion 1 = .ok (.iconst 1, 1) := by decide +kernel
theorem dX11_isVersion_2 : decode cX11_isVersion 2 = .ok (.bipush 9, 2) := by decide +kernel
theorem dX11_isVersion_4 : decode cX11_isVersion 4 = .ok (.invokestatic 47, 3) := by decide +kernel
theorem dX11_isVersion_7 : decode cX11_isVersion 7 = .ok (.ireturn, 1) := by decide +kernel
theorem dX11_isSpan_0 : decode cX11_isSpan 0 = .ok (.iload_n 0, 1) := by decide +kernel
theorem dX11_isSpan_1 : decode cX11_isSpan 1 = .ok (.invokestatic 43, 3) := by decide +kernel
theorem dX11_isSpan_4 : decode cX11_isSpan 4 = .ok (.ifCond .eq 19, 3) := by decide +kernel
theorem dX11_isSpan_7 : decode cX11_isSpan 7 = .ok (.iload_n 1, 1) := by decide +kernel
theorem dX11_isSpan_8 : decode cX11_isSpan 8 = .ok (.invokestatic 43, 3) := by decide +kernel
theorem dX11_isSpan_11 : decode cX11_isSpan 11 = .ok (.ifCond .eq 12, 3) := by decide +kernel
theorem dX11_isSpan_14 : decode cX11_isSpan 14 = .ok (.iload_n 0, 1) := by decide +kernel
theorem dX11_isSpan_15 : decode cX11_isSpan 15 = .ok (.iload_n 1, 1) := by decide +kernel
theorem dX11_isSpan_16 : decode cX11_isSpan 16 = .ok (.if_icmp .gt 7, 3) := by decide +kernel
theorem dX11_isSpan_19 : decode cX11_isSpan 19 = .ok (.iconst 1, 1) := by decide +kernel
theorem dX11_isSpan_20 : decode cX11_isSpan 20 = .ok (.goto 4, 3) := by decide +kernel
theorem dX11_isSpan_23 : decode cX11_isSpan 23 = .ok (.iconst 0, 1) := by decide +kernel
theorem dX11_isSpan_24 : decode cX11_isSpan 24 = .ok (.ireturn, 1) := by decide +kernel
theorem dX11_asNumber_0 : decode cX11_asNumber 0 = .ok (.iload_n 0, 1) := by decide +kernel
theorem dX11_asNumber_1 : decode cX11_asNumber 1 = .ok (.ifCond .eq 7, 3) := by decide +kernel
theorem dX11_asNumber_4 : decode cX11_asNumber 4 = .ok (.iconst 1, 1) := by decide +kernel
theorem dX11_asNumber_5 : decode cX11_asNumber 5 = .ok (.goto 4, 3) := by decide +kernel
theorem dX11_asNumber_8 : decode cX11_asNumber 8 = .ok (.iconst 0, 1) := by decide +kernel
theorem dX11_asNumber_9 : decode cX11_asNumber 9 = .ok (.ireturn, 1) := by decide +kernel
theorem dX11_bit_0 : decode cX11_bit 0 = .ok (.iconst 1, 1) := by decide +kernel
theorem dX11_bit_1 : decode cX11_bit 1 = .ok (.iload_n 0, 1) := by decide +kernel
theorem dX11_bit_2 : decode cX11_bit 2 = .ok (.ishl, 1) := by decide +kernel
theorem dX11_bit_3 : decode cX11_bit 3 = .ok (.ireturn, 1) := by decide +kernel
theorem dX11_isIn_0 : decode cX11_isIn 0 = .ok (.iload_n 0, 1) := by decide +kernel
theorem dX11_isIn_1 : decode cX11_isIn 1 = .ok (.iconst 1, 1) := by decide +kernel
theorem dX11_isIn_2 : decode cX11_isIn 2 = .ok (.iload_n 1, 1) := by decide +kernel
theorem dX11_isIn_3 : decode cX11_isIn 3 = .ok (.ishl, 1) := by decide +kernel
theorem dX11_isIn_4 : decode cX11_isIn 4 = .ok (.iand, 1) := by decide +kernel
theorem dX11_isIn_5 : decode cX11_isIn 5 = .ok (.ifCond .eq 7, 3) := by decide +kernel
theorem dX11_isIn_8 : decode cX11_isIn 8 = .ok (.iconst 1, 1) := by decide +kernel
theorem dX11_isIn_9 : decode cX11_isIn 9 = .ok (.goto 4, 3) := by decide +kernel
theorem dX11_isIn_12 : decode cX11_isIn 12 = .ok (.iconst 0, 1) := by decide +kernel
theorem dX11_isIn_13 : decode cX11_isIn 13 = .ok (.ireturn, 1) := by decide +kernel
theorem dX11_withMember_0 : decode cX11_withMember 0 = .ok (.iload_n 2, 1) := by decide +kernel
theorem dX11_withMember_1 : decode cX11_withMember 1 = .ok (.ifCond .eq 12, 3) := by decide +kernel
theorem dX11_withMember_4 : decode cX11_withMember 4 = .ok (.iload_n 0, 1) := by decide +kernel
theorem dX11_withMember_5 : decode cX11_withMember 5 = .ok (.iload_n 1, 1) := by decide +kernel
theorem dX11_withMember_6 : decode cX11_withMember 6 = .ok (.invokestatic 146, 3) := by decide +kernel
theorem dX11_withMember_9 : decode cX11_withMember 9 = .ok (.ior, 1) := by decide +kernel
theorem dX11_withMember_10 : decode cX11_withMember 10 = .ok (.goto 11, 3) := by decide +kernel
theorem dX11_withMember_13 : decode cX11_withMember 13 = .ok (.iload_n 0, 1) := by decide +kernel
theorem dX11_withMember_14 : decode cX11_withMember 14 = .ok (.iload_n 1, 1) := by decide +kernel
theorem dX11_withMember_15 : decode cX11_withMember 15 = .ok (.invokestatic 146, 3) := by decide +kernel
theorem dX11_withMember_18 : decode cX11_withMember 18 = .ok (.iconst (-1), 1) := by decide +kernel
theorem dX11_withMember_19 : decode cX11_withMember 19 = .ok (.ixor, 1) := by decide +kernel
theorem dX11_withMember_20 : decode cX11_withMember 20 = .ok (.iand, 1) := by decide +kernel
theorem dX11_withMember_21 : decode cX11_withMember 21 = .ok (.ireturn, 1) := by decide +kernel
theorem dX11_newHole_0 : decode cX11_newHole 0 = .ok (.iload_n 0, 1) := by decide +kernel
theorem dX11_newHole_1 : decode cX11_newHole 1 = .ok (.tableswitch 79 0 4 #[35, 79, 46, 57, 68], 35) := by decide +kernel
theorem dX11_newHole_36 : decode cX11_newHole 36 = .ok (.new 98, 3) := by decide +kernel
theorem dX11_newHole_39 : decode cX11_newHole 39 = .ok (.dup, 1) := by decide +kernel
theorem dX11_newHole_40 : decode cX11_newHole 40 = .ok (.iload_n 1, 1) := by decide +kernel
theorem dX11_newHole_41 : decode cX11_newHole 41 = .ok (.iload_n 2, 1) := by decide +kernel
theorem dX11_newHole_42 : decode cX11_newHole 42 = .ok (.iload_n 3, 1) := by decide +kernel
theorem dX11_newHole_43 : decode cX11_newHole 43 = .ok (.invokespecial 247, 3) := by decide +kernel
theorem dX11_newHole_46 : decode cX11_newHole 46 = .ok (.areturn, 1) := by decide +kernel
theorem dX11_newHole_47 : decode cX11_newHole 47 = .ok (.new 250, 3) := by decide +kernel
theorem dX11_newHole_50 : decode cX11_newHole 50 = .ok (.dup, 1) := by decide +kernel
theorem dX11_newHole_51 : decode cX11_newHole 51 = .ok (.iload_n 1, 1) := by decide +kernel
theorem dX11_newHole_52 : decode cX11_newHole 52 = .ok (.iload_n 2, 1) := by decide +kernel
theorem dX11_newHole_53 : decode cX11_newHole 53 = .ok (.iload_n 3, 1) := by decide +kernel
theorem dX11_newHole_54 : decode cX11_newHole 54 = .ok (.invokespecial 252, 3) := by decide +kernel
theorem dX11_newHole_57 : decode cX11_newHole 57 = .ok (.areturn, 1) := by decide +kernel
theorem dX11_newHole_58 : decode cX11_newHole 58 = .ok (.new 253, 3) := by decide +kernel
theorem dX11_newHole_61 : decode cX11_newHole 61 = .ok (.dup, 1) := by decide +kernel
theorem dX11_newHole_62 : decode cX11_newHole 62 = .ok (.iload_n 1, 1) := by decide +kernel
theorem dX11_newHole_63 : decode cX11_newHole 63 = .ok (.iload_n 2, 1) := by decide +kernel
theorem dX11_newHole_64 : decode cX11_newHole 64 = .ok (.iload_n 3, 1) := by decide +kernel
theorem dX11_newHole_65 : decode cX11_newHole 65 = .ok (.invokespecial 255, 3) := by decide +kernel
theorem dX11_newHole_68 : decode cX11_newHole 68 = .ok (.areturn, 1) := by decide +kernel
theorem dX11_newHole_69 : decode cX11_newHole 69 = .ok (.new 105, 3) := by decide +kernel
theorem dX11_newHole_72 : decode cX11_newHole 72 = .ok (.dup, 1) := by decide +kernel
theorem dX11_newHole_73 : decode cX11_newHole 73 = .ok (.iload_n 1, 1) := by decide +kernel
theorem dX11_newHole_74 : decode cX11_newHole 74 = .ok (.iload_n 2, 1) := by decide +kernel
theorem dX11_newHole_75 : decode cX11_newHole 75 = .ok (.iload_n 3, 1) := by decide +kernel
theorem dX11_newHole_76 : decode cX11_newHole 76 = .ok (.invokespecial 256, 3) := by decide +kernel
theorem dX11_newHole_79 : decode cX11_newHole 79 = .ok (.areturn, 1) := by decide +kernel
theorem dX11_newHole_80 : decode cX11_newHole 80 = .ok (.aconst_null, 1) := by decide +kernel
theorem dX11_newHole_81 : decode cX11_newHole 81 = .ok (.areturn, 1) := by decide +kernel
theorem dX12_init_0 : decode cX12_init 0 = .ok (.aload_n 0, 1) := by decide +kernel
theorem dX12_init_1 : decode cX12_init 1 = .ok (.invokespecial 1, 3) := by decide +kernel
theorem dX12_init_4 : decode cX12_init 4 = .ok (.aload_n 0, 1) := by decide +kernel
theorem dX12_init_5 : decode cX12_init 5 = .ok (.bipush 8, 2) := by decide +kernel
theorem dX12_init_7 : decode cX12_init 7 = .ok (.newarray .int, 2) := by decide +kernel
theorem dX12_init_9 : decode cX12_init 9 = .ok (.putfield 7, 3) := by decide +kernel
theorem dX12_init_12 : decode cX12_init 12 = .ok (.aload_n 0, 1) := by decide +kernel
theorem dX12_init_13 : decode cX12_init 13 = .ok (.bipush 8, 2) := by decide +kernel
theorem dX12_init_15 : decode cX12_init 15 = .ok (.newarray .int, 2) := by decide +kernel
theorem dX12_init_17 : decode cX12_init 17 = .ok (.putfield 13, 3) := by decide +kernel
theorem dX12_init_20 : decode cX12_init 20 = .ok (.aload_n 0, 1) := by decide +kernel
theorem dX12_init_21 : decode cX12_init 21 = .ok (.bipush 8, 2) := by decide +kernel
theorem dX12_init_23 : decode cX12_init 23 = .ok (.newarray .boolean, 2) := by decide +kernel
theorem dX12_init_25 : decode cX12_init 25 = .ok (.putfield 16, 3) := by decide +kernel
theorem dX12_init_28 : decode cX12_init 28 = .ok (.aload_n 0, 1) := by decide +kernel
theorem dX12_init_29 : decode cX12_init 29 = .ok (.bipush 8, 2) := by decide +kernel
theorem dX12_init_31 : decode cX12_init 31 = .ok (.newarray .boolean, 2) := by decide +kernel
theorem dX12_init_33 : decode cX12_init 33 = .ok (.putfield 20, 3) := by decide +kernel
theorem dX12_init_36 : decode cX12_init 36 = .ok (.aload_n 0, 1) := by decide +kernel
theorem dX12_init_37 : decode cX12_init 37 = .ok (.bipush 64, 2) := by decide +kernel
theorem dX12_init_39 : decode cX12_init 39 = .ok (.newarray .boolean, 2) := by decide +kernel
theorem dX12_init_41 : decode cX12_init 41 = .ok (.putfield 23, 3) := by decide +kernel
theorem dX12_init_44 : decode cX12_init 44 = .ok (.aload_n 0, 1) := by decide +kernel
theorem dX12_init_45 : decode cX12_init 45 = .ok (.bipush 12, 2) := by decide +kernel
theorem dX12_init_47 : decode cX12_init 47 = .ok (.newarray .int, 2) := by decide +kernel
theorem dX12_init_49 : decode cX12_init 49 = .ok (.putfield 26, 3) := by decide +kernel
theorem dX12_init_52 : decode cX12_init 52 = .ok (.aload_n 0, 1) := by decide +kernel
theorem dX12_init_53 : decode cX12_init 53 = .ok (.bipush 12, 2) := by decide +kernel
theorem dX12_init_55 : decode cX12_init 55 = .ok (.newarray .int, 2) := by decide +kernel
theorem dX12_init_57 : decode cX12_init 57 = .ok (.putfield 29, 3) := by decide +kernel
theorem dX12_init_60 : decode cX12_init 60 = .ok (.aload_n 0, 1) := by decide +kernel
theorem dX12_init_61 : decode cX12_init 61 = .ok (.bipush 12, 2) := by decide +kernel
theorem dX12_init_63 : decode cX12_init 63 = .ok (.newarray .int, 2) := by decide +kernel
theorem dX12_init_65 : decode cX12_init 65 = .ok (.putfield 32, 3) := by decide +kernel
theorem dX12_init_68 : decode cX12_init 68 = .ok (.aload_n 0, 1) := by decide +kernel
theorem dX12_init_69 : decode cX12_init 69 = .ok (.bipush 12, 2) := by decide +kernel
theorem dX12_init_71 : decode cX12_init 71 = .ok (.newarray .int, 2) := by decide +kernel
theorem dX12_init_73 : decode cX12_init 73 = .ok (.putfield 35, 3) := by decide +kernel
theorem dX12_init_76 : decode cX12_init 76 = .ok (.aload_n 0, 1) := by decide +kernel
theorem dX12_init_77 : decode cX12_init 77 = .ok (.bipush 12, 2) := by decide +kernel
theorem dX12_init_79 : decode cX12_init 79 = .ok (.newarray .int, 2) := by decide +kernel
theorem dX12_init_81 : decode cX12_init 81 = .ok (.putfield 38, 3) := by decide +kernel
theorem dX12_init_84 : decode cX12_init 84 = .ok (.aload_n 0, 1) := by decide +kernel
theorem dX12_init_85 : decode cX12_init 85 = .ok (.bipush 12, 2) := by decide +kernel
theorem dX12_init_87 : decode cX12_init 87 = .ok (.newarray .boolean, 2) := by decide +kernel
theorem dX12_init_89 : decode cX12_init 89 = .ok (.putfield 41, 3) := by decide +kernel
theorem dX12_init_92 : decode cX12_init 92 = .ok (.aload_n 0, 1) := by decide +kernel
theorem dX12_init_93 : decode cX12_init 93 = .ok (.bipush 8, 2) := by decide +kernel
theorem dX12_init_95 : decode cX12_init 95 = .ok (.newarray .int, 2) := by decide +kernel
theorem dX12_init_97 : decode cX12_init 97 = .ok (.putfield 44, 3) := by decide +kernel
theorem dX12_init_100 : decode cX12_init 100 = .ok (.aload_n 0, 1) := by decide +kernel
theorem dX12_init_101 : decode cX12_init 101 = .ok (.bipush 8, 2) := by decide +kernel
theorem dX12_init_103 : decode cX12_init 103 = .ok (.newarray .int, 2) := by decide +kernel
theorem dX12_init_105 : decode cX12_init 105 = .ok (.putfield 47, 3) := by decide +kernel
theorem dX12_init_108 : decode cX12_init 108 = .ok (.aload_n 0, 1) := by decide +kernel
theorem dX12_init_109 : decode cX12_init 109 = .ok (.bipush 8, 2) := by decide +kernel
theorem dX12_init_111 : decode cX12_init 111 = .ok (.newarray .int, 2) := by decide +kernel
theorem dX12_init_113 : decode cX12_init 113 = .ok (.putfield 50, 3) := by decide +kernel
theorem dX12_init_116 : decode cX12_init 116 = .ok (.aload_n 0, 1) := by decide +kernel
theorem dX12_init_117 : decode cX12_init 117 = .ok (.bipush 8, 2) := by decide +kernel
theorem dX12_init_119 : decode cX12_init 119 = .ok (.newarray .int, 2) := by decide +kernel
theorem dX12_init_121 : decode cX12_init 121 = .ok (.putfield 53, 3) := by decide +kernel
theorem dX12_init_124 : decode cX12_init 124 = .ok (.aload_n 0, 1) := by decide +kernel
theorem dX12_init_125 : decode cX12_init 125 = .ok (.bipush 8, 2) := by decide +kernel
theorem dX12_init_127 : decode cX12_init 127 = .ok (.newarray .int, 2) := by decide +kernel
theorem dX12_init_129 : decode cX12_init 129 = .ok (.putfield 56, 3) := by decide +kernel
theorem dX12_init_132 : decode cX12_init 132 = .ok (.aload_n 0, 1) := by decide +kernel
theorem dX12_init_133 : decode cX12_init 133 = .ok (.bipush 8, 2) := by decide +kernel
theorem dX12_init_135 : decode cX12_init 135 = .ok (.newarray .int, 2) := by decide +kernel
theorem dX12_init_137 : decode cX12_init 137 = .ok (.putfield 59, 3) := by decide +kernel
theorem dX12_init_140 : decode cX12_init 140 = .ok (.aload_n 0, 1) := by decide +kernel
theorem dX12_init_141 : decode cX12_init 141 = .ok (.bipush 8, 2) := by decide +kernel
theorem dX12_init_143 : decode cX12_init 143 = .ok (.newarray .int, 2) := by decide +kernel
theorem dX12_init_145 : decode cX12_init 145 = .ok (.putfield 62, 3) := by decide +kernel
theorem dX12_init_148 : decode cX12_init 148 = .ok (.aload_n 0, 1) := by decide +kernel
theorem dX12_init_149 : decode cX12_init 149 = .ok (.bipush 8, 2) := by decide +kernel
theorem dX12_init_151 : decode cX12_init 151 = .ok (.newarray .int, 2) := by decide +kernel
theorem dX12_init_153 : decode cX12_init 153 = .ok (.putfield 65, 3) := by decide +kernel
theorem dX12_init_156 : decode cX12_init 156 = .ok (.aload_n 0, 1) := by decide +kernel
theorem dX12_init_157 : decode cX12_init 157 = .ok (.bipush 8, 2) := by decide +kernel
theorem dX12_init_159 : decode cX12_init 159 = .ok (.newarray .int, 2) := by decide +kernel
theorem dX12_init_161 : decode cX12_init 161 = .ok (.putfield 68, 3) := by decide +kernel
theorem dX12_init_164 : decode cX12_init 164 = .ok (.aload_n 0, 1) := by decide +kernel
theorem dX12_init_165 : decode cX12_init 165 = .ok (.bipush 8, 2) := by decide +kernel
theorem dX12_init_167 : decode cX12_init 167 = .ok (.newarray .int, 2) := by decide +kernel
theorem dX12_init_169 : decode cX12_init 169 = .ok (.putfield 71, 3) := by decide +kernel
theorem dX12_init_172 : decode cX12_init 172 = .ok (.aload_n 0, 1) := by decide +kernel
theorem dX12_init_173 : decode cX12_init 173 = .ok (.bipush 32, 2) := by decide +kernel
theorem dX12_init_175 : decode cX12_init 175 = .ok (.newarray .int, 2) := by decide +kernel
theorem dX12_init_177 : decode cX12_init 177 = .ok (.putfield 74, 3) := by decide +kernel
theorem dX12_init_180 : decode cX12_init 180 = .ok (.aload_n 0, 1) := by decide +kernel
theorem dX12_init_181 : decode cX12_init 181 = .ok (.sipush 256, 3) := by decide +kernel
theorem dX12_init_184 : decode cX12_init 184 = .ok (.newarray .int, 2) := by decide +kernel
theorem dX12_init_186 : decode cX12_init 186 = .ok (.putfield 77, 3) := by decide +kernel
theorem dX12_init_189 : decode cX12_init 189 = .ok (.aload_n 0, 1) := by decide +kernel
theorem dX12_init_190 : decode cX12_init 190 = .ok (.sipush 256, 3) := by decide +kernel
theorem dX12_init_193 : decode cX12_init 193 = .ok (.newarray .boolean, 2) := by decide +kernel
theorem dX12_init_195 : decode cX12_init 195 = .ok (.putfield 80, 3) := by decide +kernel
theorem dX12_init_198 : decode cX12_init 198 = .ok (.aload_n 0, 1) := by decide +kernel
theorem dX12_init_199 : decode cX12_init 199 = .ok (.sipush 1792, 3) := by decide +kernel
theorem dX12_init_202 : decode cX12_init 202 = .ok (.newarray .int, 2) := by decide +kernel
theorem dX12_init_204 : decode cX12_init 204 = .ok (.putfield 83, 3) := by decide +kernel
theorem dX12_init_207 : decode cX12_init 207 = .ok (.aload_n 0, 1) := by decide +kernel
theorem dX12_init_208 : decode cX12_init 208 = .ok (.sipush 1792, 3) := by decide +kernel
theorem dX12_init_211 : decode cX12_init 211 = .ok (.newarray .int, 2) := by decide +kernel
theorem dX12_init_213 : decode cX12_init 213 = .ok (.putfield 86, 3) := by decide +kernel
theorem dX12_init_216 : decode cX12_init 216 = .ok (.aload_n 0, 1) := by decide +kernel
theorem dX12_init_217 : decode cX12_init 217 = .ok (.bipush 8, 2) := by decide +kernel
theorem dX12_init_219 : decode cX12_init 219 = .ok (.newarray .int, 2) := by decide +kernel
theorem dX12_init_221 : decode cX12_init 221 = .ok (.dup, 1) := by decide +kernel
theorem dX12_init_222 : decode cX12_init 222 = .ok (.iconst 0, 1) := by decide +kernel
theorem dX12_init_223 : decode cX12_init 223 = .ok (.bipush (-4), 2) := by decide +kernel
theorem dX12_init_225 : decode cX12_init 225 = .ok (.iastore, 1) := by decide +kernel
theorem dX12_init_226 : decode cX12_init 226 = .ok (.dup, 1) := by decide +kernel
theorem dX12_init_227 : decode cX12_init 227 = .ok (.iconst 1, 1) := by decide +kernel
theorem dX12_init_228 : decode cX12_init 228 = .ok (.bipush (-4), 2) := by decide +kernel
theorem dX12_init_230 : decode cX12_init 230 = .ok (.iastore, 1) := by decide +kernel
theorem dX12_init_231 : decode cX12_init 231 = .ok (.dup, 1) := by decide +kernel
theorem dX12_init_232 : decode cX12_init 232 = .ok (.iconst 2, 1) := by decide +kernel
theorem dX12_init_233 : decode cX12_init 233 = .ok (.bipush (-4), 2) := by decide +kernel
theorem dX12_init_235 : decode cX12_init 235 = .ok (.iastore, 1) := by decide +kernel
theorem dX12_init_236 : decode cX12_init 236 = .ok (.dup, 1) := by decide +kernel
theorem dX12_init_237 : decode cX12_init 237 = .ok (.iconst 3, 1) := by decide +kernel
theorem dX12_init_238 : decode cX12_init 238 = .ok (.bipush (-4), 2) := by decide +kernel
theorem dX12_init_240 : decode cX12_init 240 = .ok (.iastore, 1) := by decide +kernel
theorem dX12_init_241 : decode cX12_init 241 = .ok (.dup, 1) := by decide +kernel
theorem dX12_init_242 : decode cX12_init 242 = .ok (.iconst 4, 1) := by decide +kernel
theorem dX12_init_243 : decode cX12_init 243 = .ok (.bipush (-4), 2) := by decide +kernel
theorem dX12_init_245 : decode cX12_init 245 = .ok (.iastore, 1) := by decide +kernel
theorem dX12_init_246 : decode cX12_init 246 = .ok (.dup, 1) := by decide +kernel
theorem dX12_init_247 : decode cX12_init 247 = .ok (.iconst 5, 1) := by decide +kernel
theorem dX12_init_248 : decode cX12_init 248 = .ok (.bipush (-4), 2) := by decide +kernel
theorem dX12_init_250 : decode cX12_init 250 = .ok (.iastore, 1) := by decide +kernel
theorem dX12_init_251 : decode cX12_init 251 = .ok (.dup, 1) := by decide +kernel
theorem dX12_init_252 : decode cX12_init 252 = .ok (.bipush 6, 2) := by decide +kernel
theorem dX12_init_254 : decode cX12_init 254 = .ok (.bipush (-4), 2) := by decide +kernel
theorem dX12_init_256 : decode cX12_init 256 = .ok (.iastore, 1) := by decide +kernel
theorem dX12_init_257 : decode cX12_init 257 = .ok (.dup, 1) := by decide +kernel
theorem dX12_init_258 : decode cX12_init 258 = .ok (.bipush 7, 2) := by decide +kernel
theorem dX12_init_260 : decode cX12_init 260 = .ok (.bipush (-4), 2) := by decide +kernel
theorem dX12_init_262 : decode cX12_init 262 = .ok (.iastore, 1) := by decide +kernel
theorem dX12_init_263 : decode cX12_init 263 = .ok (.putfield 89, 3) := by decide +kernel
theorem dX12_init_266 : decode cX12_init 266 = .ok (.aload_n 0, 1) := by decide +kernel
theorem dX12_init_267 : decode cX12_init 267 = .ok (.bipush 8, 2) := by decide +kernel
theorem dX12_init_269 : decode cX12_init 269 = .ok (.newarray .int, 2) := by decide +kernel
theorem dX12_init_271 : decode cX12_init 271 = .ok (.putfield 92, 3) := by decide +kernel
theorem dX12_init_274 : decode cX12_init 274 = .ok (.return_, 1) := by decide +kernel
theorem dX12_in_0 : decode cX12_in 0 = .ok (.iload_n 0, 1) := by decide +kernel
theorem dX12_in_1 : decode cX12_in 1 = .ok (.iload_n 1, 1) := by decide +kernel
theorem dX12_in_2 : decode cX12_in 2 = .ok (.if_icmp .lt 12, 3) := by decide +kernel
theorem dX12_in_5 : decode cX12_in 5 = .ok (.iload_n 0, 1) := by decide +kernel
theorem dX12_in_6 : decode cX12_in 6 = .ok (.iload_n 2, 1) := by decide +kernel
theorem dX12_in_7 : decode cX12_in 7 = .ok (.if_icmp .gt 7, 3) := by decide +kernel
theorem dX12_in_10 : decode cX12_in 10 = .ok (.iconst 1, 1) := by decide +kernel
theorem dX12_in_11 : decode cX12_in 11 = .ok (.goto 4, 3) := by decide +kernel
theorem dX12_in_14 : decode cX12_in 14 = .ok (.iconst 0, 1) := by decide +kernel
theorem dX12_in_15 : decode cX12_in 15 = .ok (.ireturn, 1) := by decide +kernel
theorem dX12_isPart_0 : decode cX12_isPart 0 = .ok (.iload_n 1, 1) := by decide +kernel
theorem dX12_isPart_1 : decode cX12_isPart 1 = .ok (.iconst 0, 1) := by decide +kernel
theorem dX12_isPart_2 : decode cX12_isPart 2 = .ok (.aload_n 0, 1) := by decide +kernel
theorem dX12_isPart_3 : decode cX12_isPart 3 = .ok (.getfield 95, 3) := by decide +kernel
theorem dX12_isPart_6 : decode cX12_isPart 6 = .ok (.iconst 1, 1) := by decide +kernel
theorem dX12_isPart_7 : decode cX12_isPart 7 = .ok (.isub, 1) := by decide +kernel
theorem dX12_isPart_8 : decode cX12_isPart 8 = .ok (.invokestatic 99, 3) := by decide +kernel
theorem dX12_isPart_11 : decode cX12_isPart 11 = .ok (.ireturn, 1) := by decide +kernel
theorem dX12_isVersion_0 : decode cX12_isVersion 0 = .ok (.iload_n 0, 1) := by decide +kernel
theorem dX12_isVersion_1 : decode cX12_isVersion 1 = .ok (.iconst 1, 1) := by decide +kernel
theorem dX12_isVersion_2 : decode cX12_isVersion 2 = .ok (.bipush 9, 2) := by decide +kernel
theorem dX12_isVersion_4 : decode cX12_isVersion 4 = .ok (.invokestatic 99, 3) := by decide +kernel
theorem dX12_isVersion_7 : decode cX12_isVersion 7 = .ok (.ireturn, 1) := by decide +kernel
theorem dX12_part_0 : decode cX12_part 0 = .ok (.iload_n 1, 1) := by decide +kernel
theorem dX12_part_1 : decode cX12_part 1 = .ok (.invokestatic 103, 3) := by decide +kernel
theorem dX12_part_4 : decode cX12_part 4 = .ok (.ifCond .eq 14, 3) := by decide +kernel
theorem dX12_part_7 : decode cX12_part 7 = .ok (.iload_n 2, 1) := by decide +kernel
theorem dX12_part_8 : decode cX12_part 8 = .ok (.iconst 0, 1) := by decide +kernel
theorem dX12_part_9 : decode cX12_part 9 = .ok (.sipush 1000, 3) := by decide +kernel
theorem dX12_part_12 : decode cX12_part 12 = .ok (.invokestatic 99, 3) := by decide +kernel
theorem dX12_part_15 : decode cX12_part 15 = .ok (.ifCond .ne 5, 3) := by decide +kernel
theorem dX12_part_18 : decode cX12_part 18 = .ok (.iconst (-1), 1) := by decide +kernel
theorem dX12_part_19 : decode cX12_part 19 = .ok (.ireturn, 1) := by decide +kernel
theorem dX12_part_20 : decode cX12_part 20 = .ok (.aload_n 0, 1) := by decide +kernel
theorem dX12_part_21 : decode cX12_part 21 = .ok (.getfield 95, 3) := by decide +kernel
theorem dX12_part_24 : decode cX12_part 24 = .ok (.bipush 8, 2) := by decide +kernel
theorem dX12_part_26 : decode cX12_part 26 = .ok (.if_icmp .ne 6, 3) := by decide +kernel
theorem dX12_part_29 : decode cX12_part 29 = .ok (.bipush (-3), 2) := by decide +kernel
theorem dX12_part_31 : decode cX12_part 31 = .ok (.ireturn, 1) := by decide +kernel
theorem dX12_part_32 : decode cX12_part 32 = .ok (.aload_n 0, 1) := by decide +kernel
theorem dX12_part_33 : decode cX12_part 33 = .ok (.getfield 7, 3) := by decide +kernel
theorem dX12_part_36 : decode cX12_part 36 = .ok (.aload_n 0, 1) := by decide +kernel
theorem dX12_part_37 : decode cX12_part 37 = .ok (.getfield 95, 3) := by decide +kernel
theorem dX12_part_40 : decode cX12_part 40 = .ok (.iload_n 1, 1) := by decide +kernel
theorem dX12_part_41 : decode cX12_part 41 = .ok (.iastore, 1) := by decide +kernel
theorem dX12_part_42 : decode cX12_part 42 = .ok (.aload_n 0, 1) := by decide +kernel
theorem dX12_part_43 : decode cX12_part 43 = .ok (.getfield 13, 3) := by decide +kernel
theorem dX12_part_46 : decode cX12_part 46 = .ok (.aload_n 0, 1) := by decide +kernel
theorem dX12_part_47 : decode cX12_part 47 = .ok (.getfield 95, 3) := by decide +kernel
theorem dX12_part_50 : decode cX12_part 50 = .ok (.iload_n 2, 1) := by decide +kernel
theorem dX12_part_51 : decode cX12_part 51 = .ok (.iastore, 1) := by decide +kernel
theorem dX12_part_52 : decode cX12_part 52 = .ok (.aload_n 0, 1) := by decide +kernel
theorem dX12_part_53 : decode cX12_part 53 = .ok (.getfield 16, 3) := by decide +kernel
theorem dX12_part_56 : decode cX12_part 56 = .ok (.aload_n 0, 1) := by decide +kernel
theorem dX12_part_57 : decode cX12_part 57 = .ok (.getfield 95, 3) := by decide +kernel
theorem dX12_part_60 : decode cX12_part 60 = .ok (.iload_n 3, 1) := by decide +kernel
theorem dX12_part_61 : decode cX12_part 61 = .ok (.bastore, 1) := by decide +kernel
theorem dX12_part_62 : decode cX12_part 62 = .ok (.aload_n 0, 1) := by decide +kernel
theorem dX12_part_63 : decode cX12_part 63 = .ok (.dup, 1) := by decide +kernel
theorem dX12_part_64 : decode cX12_part 64 = .ok (.getfield 95, 3) := by decide +kernel
theorem dX12_part_67 : decode cX12_part 67 = .ok (.iconst 1, 1) := by decide +kernel
theorem dX12_part_68 : decode cX12_part 68 = .ok (.iadd, 1) := by decide +kernel
theorem dX12_part_69 : decode cX12_part 69 = .ok (.putfield 95, 3) := by decide +kernel
theorem dX12_part_72 : decode cX12_part 72 = .ok (.aload_n 0, 1) := by decide +kernel
theorem dX12_part_73 : decode cX12_part 73 = .ok (.getfield 95, 3) := by decide +kernel
theorem dX12_part_76 : decode cX12_part 76 = .ok (.iconst 1, 1) := by decide +kernel
theorem dX12_part_77 : decode cX12_part 77 = .ok (.isub, 1) := by decide +kernel
theorem dX12_part_78 : decode cX12_part 78 = .ok (.ireturn, 1) := by decide +kernel
theorem dX12_link_0 : decode cX12_link 0 = .ok (.aload_n 0, 1) := by decide +kernel
theorem dX12_link_1 : decode cX12_link 1 = .ok (.iload_n 1, 1) := by decide +kernel
theorem dX12_link_2 : decode cX12_link 2 = .ok (.invokevirtual 107, 3) := by decide +kernel
theorem dX12_link_5 : decode cX12_link 5 = .ok (.ifCond .eq 16, 3) := by decide +kernel
theorem dX12_link_8 : decode cX12_link 8 = .ok (.aload_n 0, 1) := by decide +kernel
theorem dX12_link_9 : decode cX12_link 9 = .ok (.iload_n 2, 1) := by decide +kernel
theorem dX12_link_10 : decode cX12_link 10 = .ok (.invokevirtual 107, 3) := by decide +kernel
theorem dX12_link_13 : decode cX12_link 13 = .ok (.ifCond .eq 8, 3) := by decide +kernel
theorem dX12_link_16 : decode cX12_link 16 = .ok (.iload_n 1, 1) := by decide +kernel
theorem dX12_link_17 : decode cX12_link 17 = .ok (.iload_n 2, 1) := by decide +kernel
theorem dX12_link_18 : decode cX12_link 18 = .ok (.if_icmp .ne 5, 3) := by decide +kernel
theorem dX12_link_21 : decode cX12_link 21 = .ok (.iconst (-1), 1) := by decide +kernel
theorem dX12_link_22 : decode cX12_link 22 = .ok (.ireturn, 1) := by decide +kernel
theorem dX12_link_23 : decode cX12_link 23 = .ok (.aload_n 0, 1) := by decide +kernel
theorem dX12_link_24 : decode cX12_link 24 = .ok (.getfield 23, 3) := by decide +kernel
theorem dX12_link_27 : decode cX12_link 27 = .ok (.bipush 8, 2) := by decide +kernel
theorem dX12_link_29 : decode cX12_link 29 = .ok (.iload_n 1, 1) := by decide +kernel
theorem dX12_link_30 : decode cX12_link 30 = .ok (.imul, 1) := by decide +kernel
theorem dX12_link_31 : decode cX12_link 31 = .ok (.iload_n 2, 1) := by decide +kernel
theorem dX12_link_32 : decode cX12_link 32 = .ok (.iadd, 1) := by decide +kernel
theorem dX12_link_33 : decode cX12_link 33 = .ok (.baload, 1) := by decide +kernel
theorem dX12_link_34 : decode cX12_link 34 = .ok (.ifCond .eq 7, 3) := by decide +kernel
theorem dX12_link_37 : decode cX12_link 37 = .ok (.iconst 1, 1) := by decide +kernel
theorem dX12_link_38 : decode cX12_link 38 = .ok (.goto 4, 3) := by decide +kernel
theorem dX12_link_41 : decode cX12_link 41 = .ok (.iconst 0, 1) := by decide +kernel
theorem dX12_link_42 : decode cX12_link 42 = .ok (.istore 4, 2) := by decide +kernel
theorem dX12_link_44 : decode cX12_link 44 = .ok (.aload_n 0, 1) := by decide +kernel
theorem dX12_link_45 : decode cX12_link 45 = .ok (.getfield 23, 3) := by decide +kernel
theorem dX12_link_48 : decode cX12_link 48 = .ok (.bipush 8, 2) := by decide +kernel
theorem dX12_link_50 : decode cX12_link 50 = .ok (.iload_n 1, 1) := by decide +kernel
theorem dX12_link_51 : decode cX12_link 51 = .ok (.imul, 1) := by decide +kernel
theorem dX12_link_52 : decode cX12_link 52 = .ok (.iload_n 2, 1) := by decide +kernel
theorem dX12_link_53 : decode cX12_link 53 = .ok (.iadd, 1) := by decide +kernel
theorem dX12_link_54 : decode cX12_link 54 = .ok (.iload_n 3, 1) := by decide +kernel
theorem dX12_link_55 : decode cX12_link 55 = .ok (.bastore, 1) := by decide +kernel
theorem dX12_link_56 : decode cX12_link 56 = .ok (.iload 4, 2) := by decide +kernel
theorem dX12_link_58 : decode cX12_link 58 = .ok (.ireturn, 1) := by decide +kernel
theorem dX12_guard_0 : decode cX12_guard 0 = .ok (.aload_n 0, 1) := by decide +kernel
theorem dX12_guard_1 : decode cX12_guard 1 = .ok (.iload_n 1, 1) := by decide +kernel
theorem dX12_guard_2 : decode cX12_guard 2 = .ok (.invokevirtual 107, 3) := by decide +kernel
theorem dX12_guard_5 : decode cX12_guard 5 = .ok (.ifCond .ne 5, 3) := by decide +kernel
theorem dX12_guard_8 : decode cX12_guard 8 = .ok (.iconst (-1), 1) := by decide +kernel
theorem dX12_guard_9 : decode cX12_guard 9 = .ok (.ireturn, 1) := by decide +kernel
theorem dX12_guard_10 : decode cX12_guard 10 = .ok (.aload_n 0, 1) := by decide +kernel
theorem dX12_guard_11 : decode cX12_guard 11 = .ok (.getfield 20, 3) := by decide +kernel
theorem dX12_guard_14 : decode cX12_guard 14 = .ok (.iload_n 1, 1) := by decide +kernel
theorem dX12_guard_15 : decode cX12_guard 15 = .ok (.baload, 1) := by decide +kernel
theorem dX12_guard_16 : decode cX12_guard 16 = .ok (.ifCond .eq 7, 3) := by decide +kernel
theorem dX12_guard_19 : decode cX12_guard 19 = .ok (.iconst 1, 1) := by decide +kernel
theorem dX12_guard_20 : decode cX12_guard 20 = .ok (.goto 4, 3) := by decide +kernel
theorem dX12_guard_23 : decode cX12_guard 23 = .ok (.iconst 0, 1) := by decide +kernel
theorem dX12_guard_24 : decode cX12_guard 24 = .ok (.istore_n 3, 1) := by decide +kernel
theorem dX12_guard_25 : decode cX12_guard 25 = .ok (.aload_n 0, 1) := by decide +kernel
theorem dX12_guard_26 : decode cX12_guard 26 = .ok (.getfield 20, 3) := by decide +kernel
theorem dX12_guard_29 : decode cX12_guard 29 = .ok (.iload_n 1, 1) := by decide +kernel
theorem dX12_guard_30 : decode cX12_guard 30 = .ok (.iload_n 2, 1) := by decide +kernel
theorem dX12_guard_31 : decode cX12_guard 31 = .ok (.bastore, 1) := by decide +kernel
theorem dX12_guard_32 : decode cX12_guard 32 = .ok (.iload_n 3, 1) := by decide +kernel
theorem dX12_guard_33 : decode cX12_guard 33 = .ok (.ireturn, 1) := by decide +kernel
theorem dX12_version_0 : decode cX12_version 0 = .ok (.aload_n 0, 1) := by decide +kernel
theorem dX12_version_1 : decode cX12_version 1 = .ok (.iload_n 1, 1) := by decide +kernel
theorem dX12_version_2 : decode cX12_version 2 = .ok (.invokevirtual 107, 3) := by decide +kernel
theorem dX12_version_5 : decode cX12_version 5 = .ok (.ifCond .eq 10, 3) := by decide +kernel
theorem dX12_version_8 : decode cX12_version 8 = .ok (.iload_n 2, 1) := by decide +kernel
theorem dX12_version_9 : decode cX12_version 9 = .ok (.invokestatic 103, 3) := by decide +kernel
theorem dX12_version_12 : decode cX12_version 12 = .ok (.ifCond .ne 5, 3) := by decide +kernel
theorem dX12_version_15 : decode cX12_version 15 = .ok (.iconst (-1), 1) := by decide +kernel
theorem dX12_version_16 : decode cX12_version 16 = .ok (.ireturn, 1) := by decide +kernel
theorem dX12_version_17 : decode cX12_version 17 = .ok (.aload_n 0, 1) := by decide +kernel
theorem dX12_version_18 : decode cX12_version 18 = .ok (.getfield 7, 3) := by decide +kernel
theorem dX12_version_21 : decode cX12_version 21 = .ok (.iload_n 1, 1) := by decide +kernel
theorem dX12_version_22 : decode cX12_version 22 = .ok (.iaload, 1) := by decide +kernel
theorem dX12_version_23 : decode cX12_version 23 = .ok (.istore_n 3, 1) := by decide +kernel
theorem dX12_version_24 : decode cX12_version 24 = .ok (.aload_n 0, 1) := by decide +kernel
theorem dX12_version_25 : decode cX12_version 25 = .ok (.getfield 7, 3) := by decide +kernel
theorem dX12_version_28 : decode cX12_version 28 = .ok (.iload_n 1, 1) := by decide +kernel
theorem dX12_version_29 : decode cX12_version 29 = .ok (.iload_n 2, 1) := by decide +kernel
theorem dX12_version_30 : decode cX12_version 30 = .ok (.iastore, 1) := by decide +kernel
theorem dX12_version_31 : decode cX12_version 31 = .ok (.iload_n 3, 1) := by decide +kernel
theorem dX12_version_32 : decode cX12_version 32 = .ok (.ireturn, 1) := by decide +kernel
theorem dX12_add_0 : decode cX12_add 0 = .ok (.aload_n 0, 1) := by decide +kernel
theorem dX12_add_1 : decode cX12_add 1 = .ok (.getfield 110, 3) := by decide +kernel
theorem dX12_add_4 : decode cX12_add 4 = .ok (.bipush 12, 2) := by decide +kernel
theorem dX12_add_6 : decode cX12_add 6 = .ok (.if_icmp .ne 6, 3) := by decide +kernel
theorem dX12_add_9 : decode cX12_add 9 = .ok (.bipush (-3), 2) := by decide +kernel
theorem dX12_add_11 : decode cX12_add 11 = .ok (.ireturn, 1) := by decide +kernel
theorem dX12_add_12 : decode cX12_add 12 = .ok (.aload_n 0, 1) := by decide +kernel
theorem dX12_add_13 : decode cX12_add 13 = .ok (.getfield 26, 3) := by decide +kernel
theorem dX12_add_16 : decode cX12_add 16 = .ok (.aload_n 0, 1) := by decide +kernel
theorem dX12_add_17 : decode cX12_add 17 = .ok (.getfield 110, 3) := by decide +kernel
theorem dX12_add_20 : decode cX12_add 20 = .ok (.iload_n 1, 1) := by decide +kernel
theorem dX12_add_21 : decode cX12_add 21 = .ok (.iastore, 1) := by decide +kernel
theorem dX12_add_22 : decode cX12_add 22 = .ok (.aload_n 0, 1) := by decide +kernel
theorem dX12_add_23 : decode cX12_add 23 = .ok (.getfield 29, 3) := by decide +kernel
theorem dX12_add_26 : decode cX12_add 26 = .ok (.aload_n 0, 1) := by decide +kernel
theorem dX12_add_27 : decode cX12_add 27 = .ok (.getfield 110, 3) := by decide +kernel
theorem dX12_add_30 : decode cX12_add 30 = .ok (.iload_n 2, 1) := by decide +kernel
theorem dX12_add_31 : decode cX12_add 31 = .ok (.iastore, 1) := by decide +kernel
theorem dX12_add_32 : decode cX12_add 32 = .ok (.aload_n 0, 1) := by decide +kernel
theorem dX12_add_33 : decode cX12_add 33 = .ok (.getfield 32, 3) := by decide +kernel
theorem dX12_add_36 : decode cX12_add 36 = .ok (.aload_n 0, 1) := by decide +kernel
theorem dX12_add_37 : decode cX12_add 37 = .ok (.getfield 110, 3) := by decide +kernel
theorem dX12_add_40 : decode cX12_add 40 = .ok (.iload_n 3, 1) := by decide +kernel
theorem dX12_add_41 : decode cX12_add 41 = .ok (.iastore, 1) := by decide +kernel
theorem dX12_add_42 : decode cX12_add 42 = .ok (.aload_n 0, 1) := by decide +kernel
theorem dX12_add_43 : decode cX12_add 43 = .ok (.getfield 35, 3) := by decide +kernel
theorem dX12_add_46 : decode cX12_add 46 = .ok (.aload_n 0, 1) := by decide +kernel
theorem dX12_add_47 : decode cX12_add 47 = .ok (.getfield 110, 3) := by decide +kernel
theorem dX12_add_50 : decode cX12_add 50 = .ok (.iload 4, 2) := by decide +kernel
theorem dX12_add_52 : decode cX12_add 52 = .ok (.iastore, 1) := by decide +kernel
theorem dX12_add_53 : decode cX12_add 53 = .ok (.aload_n 0, 1) := by decide +kernel
theorem dX12_add_54 : decode cX12_add 54 = .ok (.getfield 38, 3) := by decide +kernel
theorem dX12_add_57 : decode cX12_add 57 = .ok (.aload_n 0, 1) := by decide +kernel
theorem dX12_add_58 : decode cX12_add 58 = .ok (.getfield 110, 3) := by decide +kernel
theorem dX12_add_61 : decode cX12_add 61 = .ok (.iload 5, 2) := by decide +kernel
theorem dX12_add_63 : decode cX12_add 63 = .ok (.iastore, 1) := by decide +kernel
theorem dX12_add_64 : decode cX12_add 64 = .ok (.aload_n 0, 1) := by decide +kernel
theorem dX12_add_65 : decode cX12_add 65 = .ok (.getfield 41, 3) := by decide +kernel
theorem dX12_add_68 : decode cX12_add 68 = .ok (.aload_n 0, 1) := by decide +kernel
theorem dX12_add_69 : decode cX12_add 69 = .ok (.getfield 110, 3) := by decide +kernel
theorem dX12_add_72 : decode cX12_add 72 = .ok (.iconst 0, 1) := by decide +kernel
theorem dX12_add_73 : decode cX12_add 73 = .ok (.bastore, 1) := by decide +kernel
theorem dX12_add_74 : decode cX12_add 74 = .ok (.aload_n 0, 1) := by decide +kernel
theorem dX12_add_75 : decode cX12_add 75 = .ok (.dup, 1) := by decide +kernel
theorem dX12_add_76 : decode cX12_add 76 = .ok (.getfield 110, 3) := by decide +kernel
theorem dX12_add_79 : decode cX12_add 79 = .ok (.iconst 1, 1) := by decide +kernel
theorem dX12_add_80 : decode cX12_add 80 = .ok (.iadd, 1) := by decide +kernel
theorem dX12_add_81 : decode cX12_add 81 = .ok (.putfield 110, 3) := by decide +kernel
theorem dX12_add_84 : decode cX12_add 84 = .ok (.aload_n 0, 1) := by decide +kernel
theorem dX12_add_85 : decode cX12_add 85 = .ok (.getfield 110, 3) := by decide +kernel
theorem dX12_add_88 : decode cX12_add 88 = .ok (.iconst 1, 1) := by decide +kernel
theorem dX12_add_89 : decode cX12_add 89 = .ok (.isub, 1) := by decide +kernel
theorem dX12_add_90 : decode cX12_add 90 = .ok (.ireturn, 1) := by decide +kernel
theorem dX12_isSpan_0 : decode cX12_isSpan 0 = .ok (.aload_n 0, 1) := by decide +kernel
theorem dX12_isSpan_1 : decode cX12_isSpan 1 = .ok (.iload_n 1, 1) := by decide +kernel
theorem dX12_isSpan_2 : decode cX12_isSpan 2 = .ok (.invokevirtual 107, 3) := by decide +kernel
theorem dX12_isSpan_5 : decode cX12_isSpan 5 = .ok (.ifCond .eq 26, 3) := by decide +kernel
theorem dX12_isSpan_8 : decode cX12_isSpan 8 = .ok (.iload_n 2, 1) := by decide +kernel
theorem dX12_isSpan_9 : decode cX12_isSpan 9 = .ok (.invokestatic 103, 3) := by decide +kernel
theorem dX12_isSpan_12 : decode cX12_isSpan 12 = .ok (.ifCond .eq 19, 3) := by decide +kernel
theorem dX12_isSpan_15 : decode cX12_isSpan 15 = .ok (.iload_n 3, 1) := by decide +kernel
theorem dX12_isSpan_16 : decode cX12_isSpan 16 = .ok (.invokestatic 103, 3) := by decide +kernel
theorem dX12_isSpan_19 : decode cX12_isSpan 19 = .ok (.ifCond .eq 12, 3) := by decide +kernel
theorem dX12_isSpan_22 : decode cX12_isSpan 22 = .ok (.iload_n 2, 1) := by decide +kernel
theorem dX12_isSpan_23 : decode cX12_isSpan 23 = .ok (.iload_n 3, 1) := by decide +kernel
theorem dX12_isSpan_24 : decode cX12_isSpan 24 = .ok (.if_icmp .gt 7, 3) := by decide +kernel
theorem dX12_isSpan_27 : decode cX12_isSpan 27 = .ok (.iconst 1, 1) := by decide +kernel
theorem dX12_isSpan_28 : decode cX12_isSpan 28 = .ok (.goto 4, 3) := by decide +kernel
theorem dX12_isSpan_31 : decode cX12_isSpan 31 = .ok (.iconst 0, 1) := by decide +kernel
theorem dX12_isSpan_32 : decode cX12_isSpan 32 = .ok (.ireturn, 1) := by decide +kernel
theorem dX12_isHole_0 : decode cX12_isHole 0 = .ok (.iload_n 1, 1) := by decide +kernel
theorem dX12_isHole_1 : decode cX12_isHole 1 = .ok (.iconst 0, 1) := by decide +kernel
theorem dX12_isHole_2 : decode cX12_isHole 2 = .ok (.aload_n 0, 1) := by decide +kernel
theorem dX12_isHole_3 : decode cX12_isHole 3 = .ok (.getfield 110, 3) := by decide +kernel
theorem dX12_isHole_6 : decode cX12_isHole 6 = .ok (.iconst 1, 1) := by decide +kernel
theorem dX12_isHole_7 : decode cX12_isHole 7 = .ok (.isub, 1) := by decide +kernel
theorem dX12_isHole_8 : decode cX12_isHole 8 = .ok (.invokestatic 99, 3) := by decide +kernel
theorem dX12_isHole_11 : decode cX12_isHole 11 = .ok (.ireturn, 1) := by decide +kernel
theorem dX12_hole_0 : decode cX12_hole 0 = .ok (.iload_n 1, 1) := by decide +kernel
theorem dX12_hole_1 : decode cX12_hole 1 = .ok (.iconst 0, 1) := by decide +kernel
theorem dX12_hole_2 : decode cX12_hole 2 = .ok (.iconst 4, 1) := by decide +kernel
theorem dX12_hole_3 : decode cX12_hole 3 = .ok (.invokestatic 99, 3) := by decide +kernel
theorem dX12_hole_6 : decode cX12_hole 6 = .ok (.ifCond .eq 19, 3) := by decide +kernel
theorem dX12_hole_9 : decode cX12_hole 9 = .ok (.iload_n 1, 1) := by decide +kernel
theorem dX12_hole_10 : decode cX12_hole 10 = .ok (.iconst 1, 1) := by decide +kernel
theorem dX12_hole_11 : decode cX12_hole 11 = .ok (.if_icmp .eq 14, 3) := by decide +kernel
theorem dX12_hole_14 : decode cX12_hole 14 = .ok (.aload_n 0, 1) := by decide +kernel
theorem dX12_hole_15 : decode cX12_hole 15 = .ok (.iload_n 2, 1) := by decide +kernel
theorem dX12_hole_16 : decode cX12_hole 16 = .ok (.iload_n 3, 1) := by decide +kernel
theorem dX12_hole_17 : decode cX12_hole 17 = .ok (.iload 4, 2) := by decide +kernel
theorem dX12_hole_19 : decode cX12_hole 19 = .ok (.invokevirtual 113, 3) := by decide +kernel
theorem dX12_hole_22 : decode cX12_hole 22 = .ok (.ifCond .ne 7, 3) := by decide +kernel
theorem dX12_hole_25 : decode cX12_hole 25 = .ok (.iconst (-1), 1) := by decide +kernel
theorem dX12_hole_26 : decode cX12_hole 26 = .ok (.goto 13, 3) := by decide +kernel
theorem dX12_hole_29 : decode cX12_hole 29 = .ok (.aload_n 0, 1) := by decide +kernel
theorem dX12_hole_30 : decode cX12_hole 30 = .ok (.iload_n 1, 1) := by decide +kernel
theorem dX12_hole_31 : decode cX12_hole 31 = .ok (.iload_n 2, 1) := by decide +kernel
theorem dX12_hole_32 : decode cX12_hole 32 = .ok (.iload_n 3, 1) := by decide +kernel
theorem dX12_hole_33 : decode cX12_hole 33 = .ok (.iload 4, 2) := by decide +kernel
theorem dX12_hole_35 : decode cX12_hole 35 = .ok (.iconst (-1), 1) := by decide +kernel
theorem dX12_hole_36 : decode cX12_hole 36 = .ok (.invokevirtual 116, 3) := by decide +kernel
theorem dX12_hole_39 : decode cX12_hole 39 = .ok (.ireturn, 1) := by decide +kernel
theorem dX12_chained_0 : decode cX12_chained 0 = .ok (.aload_n 0, 1) := by decide +kernel
theorem dX12_chained_1 : decode cX12_chained 1 = .ok (.iload_n 1, 1) := by decide +kernel
theorem dX12_chained_2 : decode cX12_chained 2 = .ok (.iload_n 2, 1) := by decide +kernel
theorem dX12_chained_3 : decode cX12_chained 3 = .ok (.iload_n 3, 1) := by decide +kernel
theorem dX12_chained_4 : decode cX12_chained 4 = .ok (.invokevirtual 113, 3) := by decide +kernel
theorem dX12_chained_7 : decode cX12_chained 7 = .ok (.ifCond .eq 12, 3) := by decide +kernel
theorem dX12_chained_10 : decode cX12_chained 10 = .ok (.aload_n 0, 1) := by decide +kernel
theorem dX12_chained_11 : decode cX12_chained 11 = .ok (.iload 4, 2) := by decide +kernel
theorem dX12_chained_13 : decode cX12_chained 13 = .ok (.invokevirtual 120, 3) := by decide +kernel
theorem dX12_chained_16 : decode cX12_chained 16 = .ok (.ifCond .ne 7, 3) := by decide +kernel
theorem dX12_chained_19 : decode cX12_chained 19 = .ok (.iconst (-1), 1) := by decide +kernel
theorem dX12_chained_20 : decode cX12_chained 20 = .ok (.goto 13, 3) := by decide +kernel
theorem dX12_chained_23 : decode cX12_chained 23 = .ok (.aload_n 0, 1) := by decide +kernel
theorem dX12_chained_24 : decode cX12_chained 24 = .ok (.iconst 1, 1) := by decide +kernel
theorem dX12_chained_25 : decode cX12_chained 25 = .ok (.iload_n 1, 1) := by decide +kernel
theorem dX12_chained_26 : decode cX12_chained 26 = .ok (.iload_n 2, 1) := by decide +kernel
theorem dX12_chained_27 : decode cX12_chained 27 = .ok (.iload_n 3, 1) := by decide +kernel
theorem dX12_chained_28 : decode cX12_chained 28 = .ok (.iload 4, 2) := by decide +kernel
theorem dX12_chained_30 : decode cX12_chained 30 = .ok (.invokevirtual 116, 3) := by decide +kernel
theorem dX12_chained_33 : decode cX12_chained 33 = .ok (.ireturn, 1) := by decide +kernel
theorem dX12_wake_0 : decode cX12_wake 0 = .ok (.aload_n 0, 1) := by decide +kernel
theorem dX12_wake_1 : decode cX12_wake 1 = .ok (.iload_n 1, 1) := by decide +kernel
theorem dX12_wake_2 : decode cX12_wake 2 = .ok (.invokevirtual 120, 3) := by decide +kernel
theorem dX12_wake_5 : decode cX12_wake 5 = .ok (.ifCond .ne 5, 3) := by decide +kernel
theorem dX12_wake_8 : decode cX12_wake 8 = .ok (.iconst (-1), 1) := by decide +kernel
theorem dX12_wake_9 : decode cX12_wake 9 = .ok (.ireturn, 1) := by decide +kernel
theorem dX12_wake_10 : decode cX12_wake 10 = .ok (.aload_n 0, 1) := by decide +kernel
theorem dX12_wake_11 : decode cX12_wake 11 = .ok (.getfield 26, 3) := by decide +kernel
theorem dX12_wake_14 : decode cX12_wake 14 = .ok (.iload_n 1, 1) := by decide +kernel
theorem dX12_wake_15 : decode cX12_wake 15 = .ok (.iaload, 1) := by decide +kernel
theorem dX12_wake_16 : decode cX12_wake 16 = .ok (.iconst 4, 1) := by decide +kernel
theorem dX12_wake_17 : decode cX12_wake 17 = .ok (.if_icmp .eq 6, 3) := by decide +kernel
theorem dX12_wake_20 : decode cX12_wake 20 = .ok (.bipush (-13), 2) := by decide +kernel
theorem dX12_wake_22 : decode cX12_wake 22 = .ok (.ireturn, 1) := by decide +kernel
theorem dX12_wake_23 : decode cX12_wake 23 = .ok (.aload_n 0, 1) := by decide +kernel
theorem dX12_wake_24 : decode cX12_wake 24 = .ok (.getfield 41, 3) := by decide +kernel
theorem dX12_wake_27 : decode cX12_wake 27 = .ok (.iload_n 1, 1) := by decide +kernel
theorem dX12_wake_28 : decode cX12_wake 28 = .ok (.baload, 1) := by decide +kernel
theorem dX12_wake_29 : decode cX12_wake 29 = .ok (.ifCond .eq 7, 3) := by decide +kernel
theorem dX12_wake_32 : decode cX12_wake 32 = .ok (.iconst 1, 1) := by decide +kernel
theorem dX12_wake_33 : decode cX12_wake 33 = .ok (.goto 4, 3) := by decide +kernel
theorem dX12_wake_36 : decode cX12_wake 36 = .ok (.iconst 0, 1) := by decide +kernel
theorem dX12_wake_37 : decode cX12_wake 37 = .ok (.istore_n 3, 1) := by decide +kernel
theorem dX12_wake_38 : decode cX12_wake 38 = .ok (.aload_n 0, 1) := by decide +kernel
theorem dX12_wake_39 : decode cX12_wake 39 = .ok (.getfield 41, 3) := by decide +kernel
theorem dX12_wake_42 : decode cX12_wake 42 = .ok (.iload_n 1, 1) := by decide +kernel
theorem dX12_wake_43 : decode cX12_wake 43 = .ok (.iload_n 2, 1) := by decide +kernel
theorem dX12_wake_44 : decode cX12_wake 44 = .ok (.bastore, 1) := by decide +kernel
theorem dX12_wake_45 : decode cX12_wake 45 = .ok (.iload_n 3, 1) := by decide +kernel
theorem dX12_wake_46 : decode cX12_wake 46 = .ok (.ireturn, 1) := by decide +kernel
theorem dX12_chain_0 : decode cX12_chain 0 = .ok (.aload_n 0, 1) := by decide +kernel
theorem dX12_chain_1 : decode cX12_chain 1 = .ok (.iload_n 1, 1) := by decide +kernel
theorem dX12_chain_2 : decode cX12_chain 2 = .ok (.invokevirtual 120, 3) := by decide +kernel
theorem dX12_chain_5 : decode cX12_chain 5 = .ok (.ifCond .ne 7, 3) := by decide +kernel
theorem dX12_chain_8 : decode cX12_chain 8 = .ok (.iconst (-1), 1) := by decide +kernel
theorem dX12_chain_9 : decode cX12_chain 9 = .ok (.goto 24, 3) := by decide +kernel
theorem dX12_chain_12 : decode cX12_chain 12 = .ok (.aload_n 0, 1) := by decide +kernel
theorem dX12_chain_13 : decode cX12_chain 13 = .ok (.getfield 26, 3) := by decide +kernel
theorem dX12_chain_16 : decode cX12_chain 16 = .ok (.iload_n 1, 1) := by decide +kernel
theorem dX12_chain_17 : decode cX12_chain 17 = .ok (.iaload, 1) := by decide +kernel
theorem dX12_chain_18 : decode cX12_chain 18 = .ok (.iconst 1, 1) := by decide +kernel
theorem dX12_chain_19 : decode cX12_chain 19 = .ok (.if_icmp .eq 8, 3) := by decide +kernel
theorem dX12_chain_22 : decode cX12_chain 22 = .ok (.bipush (-13), 2) := by decide +kernel
theorem dX12_chain_24 : decode cX12_chain 24 = .ok (.goto 9, 3) := by decide +kernel
theorem dX12_chain_27 : decode cX12_chain 27 = .ok (.aload_n 0, 1) := by decide +kernel
theorem dX12_chain_28 : decode cX12_chain 28 = .ok (.getfield 38, 3) := by decide +kernel
theorem dX12_chain_31 : decode cX12_chain 31 = .ok (.iload_n 1, 1) := by decide +kernel
theorem dX12_chain_32 : decode cX12_chain 32 = .ok (.iaload, 1) := by decide +kernel
theorem dX12_chain_33 : decode cX12_chain 33 = .ok (.ireturn, 1) := by decide +kernel
theorem dX12_takeVersions_0 : decode cX12_takeVersions 0 = .ok (.iconst 0, 1) := by decide +kernel
theorem dX12_takeVersions_1 : decode cX12_takeVersions 1 = .ok (.istore_n 2, 1) := by decide +kernel
theorem dX12_takeVersions_2 : decode cX12_takeVersions 2 = .ok (.iload_n 2, 1) := by decide +kernel
theorem dX12_takeVersions_3 : decode cX12_takeVersions 3 = .ok (.aload_n 0, 1) := by decide +kernel
theorem dX12_takeVersions_4 : decode cX12_takeVersions 4 = .ok (.getfield 95, 3) := by decide +kernel
theorem dX12_takeVersions_7 : decode cX12_takeVersions 7 = .ok (.if_icmp .ge 21, 3) := by decide +kernel
theorem dX12_takeVersions_10 : decode cX12_takeVersions 10 = .ok (.aload_n 0, 1) := by decide +kernel
theorem dX12_takeVersions_11 : decode cX12_takeVersions 11 = .ok (.getfield 44, 3) := by decide +kernel
theorem dX12_takeVersions_14 : decode cX12_takeVersions 14 = .ok (.iload_n 2, 1) := by decide +kernel
theorem dX12_takeVersions_15 : decode cX12_takeVersions 15 = .ok (.aload_n 0, 1) := by decide +kernel
theorem dX12_takeVersions_16 : decode cX12_takeVersions 16 = .ok (.getfield 7, 3) := by decide +kernel
theorem dX12_takeVersions_19 : decode cX12_takeVersions 19 = .ok (.iload_n 2, 1) := by decide +kernel
theorem dX12_takeVersions_20 : decode cX12_takeVersions 20 = .ok (.iaload, 1) := by decide +kernel
theorem dX12_takeVersions_21 : decode cX12_takeVersions 21 = .ok (.iastore, 1) := by decide +kernel
theorem dX12_takeVersions_22 : decode cX12_takeVersions 22 = .ok (.iinc 2 1, 3) := by decide +kernel
theorem dX12_takeVersions_25 : decode cX12_takeVersions 25 = .ok (.goto (-23), 3) := by decide +kernel
theorem dX12_takeVersions_28 : decode cX12_takeVersions 28 = .ok (.iconst 0, 1) := by decide +kernel
theorem dX12_takeVersions_29 : decode cX12_takeVersions 29 = .ok (.istore_n 2, 1) := by decide +kernel
theorem dX12_takeVersions_30 : decode cX12_takeVersions 30 = .ok (.iload_n 2, 1) := by decide +kernel
theorem dX12_takeVersions_31 : decode cX12_takeVersions 31 = .ok (.aload_n 0, 1) := by decide +kernel
theorem dX12_takeVersions_32 : decode cX12_takeVersions 32 = .ok (.getfield 123, 3) := by decide +kernel
theorem dX12_takeVersions_35 : decode cX12_takeVersions 35 = .ok (.if_icmp .ge 55, 3) := by decide +kernel
theorem dX12_takeVersions_38 : decode cX12_takeVersions 38 = .ok (.iload_n 1, 1) := by decide +kernel
theorem dX12_takeVersions_39 : decode cX12_takeVersions 39 = .ok (.iload_n 2, 1) := by decide +kernel
theorem dX12_takeVersions_40 : decode cX12_takeVersions 40 = .ok (.ishr, 1) := by decide +kernel
theorem dX12_takeVersions_41 : decode cX12_takeVersions 41 = .ok (.iconst 1, 1) := by decide +kernel
theorem dX12_takeVersions_42 : decode cX12_takeVersions 42 = .ok (.iand, 1) := by decide +kernel
theorem dX12_takeVersions_43 : decode cX12_takeVersions 43 = .ok (.iconst 1, 1) := by decide +kernel
theorem dX12_takeVersions_44 : decode cX12_takeVersions 44 = .ok (.if_icmp .ne 40, 3) := by decide +kernel
theorem dX12_takeVersions_47 : decode cX12_takeVersions 47 = .ok (.aload_n 0, 1) := by decide +kernel
theorem dX12_takeVersions_48 : decode cX12_takeVersions 48 = .ok (.getfield 59, 3) := by decide +kernel
theorem dX12_takeVersions_51 : decode cX12_takeVersions 51 = .ok (.iload_n 2, 1) := by decide +kernel
theorem dX12_takeVersions_52 : decode cX12_takeVersions 52 = .ok (.iaload, 1) := by decide +kernel
theorem dX12_takeVersions_53 : decode cX12_takeVersions 53 = .ok (.aload_n 0, 1) := by decide +kernel
theorem dX12_takeVersions_54 : decode cX12_takeVersions 54 = .ok (.getfield 44, 3) := by decide +kernel
theorem dX12_takeVersions_57 : decode cX12_takeVersions 57 = .ok (.aload_n 0, 1) := by decide +kernel
theorem dX12_takeVersions_58 : decode cX12_takeVersions 58 = .ok (.getfield 56, 3) := by decide +kernel
theorem dX12_takeVersions_61 : decode cX12_takeVersions 61 = .ok (.iload_n 2, 1) := by decide +kernel
theorem dX12_takeVersions_62 : decode cX12_takeVersions 62 = .ok (.iaload, 1) := by decide +kernel
theorem dX12_takeVersions_63 : decode cX12_takeVersions 63 = .ok (.iaload, 1) := by decide +kernel
theorem dX12_takeVersions_64 : decode cX12_takeVersions 64 = .ok (.if_icmp .le 20, 3) := by decide +kernel
theorem dX12_takeVersions_67 : decode cX12_takeVersions 67 = .ok (.aload_n 0, 1) := by decide +kernel
theorem dX12_takeVersions_68 : decode cX12_takeVersions 68 = .ok (.getfield 44, 3) := by decide +kernel
theorem dX12_takeVersions_71 : decode cX12_takeVersions 71 = .ok (.aload_n 0, 1) := by decide +kernel
theorem dX12_takeVersions_72 : decode cX12_takeVersions 72 = .ok (.getfield 56, 3) := by decide +kernel
theorem dX12_takeVersions_75 : decode cX12_takeVersions 75 = .ok (.iload_n 2, 1) := by decide +kernel
theorem dX12_takeVersions_76 : decode cX12_takeVersions 76 = .ok (.iaload, 1) := by decide +kernel
theorem dX12_takeVersions_77 : decode cX12_takeVersions 77 = .ok (.aload_n 0, 1) := by decide +kernel
theorem dX12_takeVersions_78 : decode cX12_takeVersions 78 = .ok (.getfield 59, 3) := by decide +kernel
theorem dX12_takeVersions_81 : decode cX12_takeVersions 81 = .ok (.iload_n 2, 1) := by decide +kernel
theorem dX12_takeVersions_82 : decode cX12_takeVersions 82 = .ok (.iaload, 1) := by decide +kernel
theorem dX12_takeVersions_83 : decode cX12_takeVersions 83 = .ok (.iastore, 1) := by decide +kernel
theorem dX12_takeVersions_84 : decode cX12_takeVersions 84 = .ok (.iinc 2 1, 3) := by decide +kernel
theorem dX12_takeVersions_87 : decode cX12_takeVersions 87 = .ok (.goto (-57), 3) := by decide +kernel
theorem dX12_takeVersions_90 : decode cX12_takeVersions 90 = .ok (.return_, 1) := by decide +kernel
theorem dX12_stands_0 : decode cX12_stands 0 = .ok (.aload_n 0, 1) := by decide +kernel
theorem dX12_stands_1 : decode cX12_stands 1 = .ok (.getfield 29, 3) := by decide +kernel
theorem dX12_stands_4 : decode cX12_stands 4 = .ok (.iload_n 1, 1) := by decide +kernel
theorem dX12_stands_5 : decode cX12_stands 5 = .ok (.iaload, 1) := by decide +kernel
theorem dX12_stands_6 : decode cX12_stands 6 = .ok (.istore_n 2, 1) := by decide +kernel
theorem dX12_stands_7 : decode cX12_stands 7 = .ok (.aload_n 0, 1) := by decide +kernel
theorem dX12_stands_8 : decode cX12_stands 8 = .ok (.getfield 44, 3) := by decide +kernel
theorem dX12_stands_11 : decode cX12_stands 11 = .ok (.iload_n 2, 1) := by decide +kernel
theorem dX12_stands_12 : decode cX12_stands 12 = .ok (.iaload, 1) := by decide +kernel
theorem dX12_stands_13 : decode cX12_stands 13 = .ok (.aload_n 0, 1) := by decide +kernel
theorem dX12_stands_14 : decode cX12_stands 14 = .ok (.getfield 32, 3) := by decide +kernel
theorem dX12_stands_17 : decode cX12_stands 17 = .ok (.iload_n 1, 1) := by decide +kernel
theorem dX12_stands_18 : decode cX12_stands 18 = .ok (.iaload, 1) := by decide +kernel
theorem dX12_stands_19 : decode cX12_stands 19 = .ok (.aload_n 0, 1) := by decide +kernel
theorem dX12_stands_20 : decode cX12_stands 20 = .ok (.getfield 35, 3) := by decide +kernel
theorem dX12_stands_23 : decode cX12_stands 23 = .ok (.iload_n 1, 1) := by decide +kernel
theorem dX12_stands_24 : decode cX12_stands 24 = .ok (.iaload, 1) := by decide +kernel
theorem dX12_stands_25 : decode cX12_stands 25 = .ok (.invokestatic 99, 3) := by decide +kernel
theorem dX12_stands_28 : decode cX12_stands 28 = .ok (.istore_n 3, 1) := by decide +kernel
theorem dX12_stands_29 : decode cX12_stands 29 = .ok (.iload_n 3, 1) := by decide +kernel
theorem dX12_stands_30 : decode cX12_stands 30 = .ok (.ifCond .eq 45, 3) := by decide +kernel
theorem dX12_stands_33 : decode cX12_stands 33 = .ok (.aload_n 0, 1) := by decide +kernel
theorem dX12_stands_34 : decode cX12_stands 34 = .ok (.getfield 26, 3) := by decide +kernel
theorem dX12_stands_37 : decode cX12_stands 37 = .ok (.iload_n 1, 1) := by decide +kernel
theorem dX12_stands_38 : decode cX12_stands 38 = .ok (.iaload, 1) := by decide +kernel
theorem dX12_stands_39 : decode cX12_stands 39 = .ok (.iconst 2, 1) := by decide +kernel
theorem dX12_stands_40 : decode cX12_stands 40 = .ok (.if_icmp .ne 12, 3) := by decide +kernel
theorem dX12_stands_43 : decode cX12_stands 43 = .ok (.aload_n 0, 1) := by decide +kernel
theorem dX12_stands_44 : decode cX12_stands 44 = .ok (.getfield 20, 3) := by decide +kernel
theorem dX12_stands_47 : decode cX12_stands 47 = .ok (.iload_n 2, 1) := by decide +kernel
theorem dX12_stands_48 : decode cX12_stands 48 = .ok (.baload, 1) := by decide +kernel
theorem dX12_stands_49 : decode cX12_stands 49 = .ok (.ifCond .ne 26, 3) := by decide +kernel
theorem dX12_stands_52 : decode cX12_stands 52 = .ok (.aload_n 0, 1) := by decide +kernel
theorem dX12_stands_53 : decode cX12_stands 53 = .ok (.getfield 26, 3) := by decide +kernel
theorem dX12_stands_56 : decode cX12_stands 56 = .ok (.iload_n 1, 1) := by decide +kernel
theorem dX12_stands_57 : decode cX12_stands 57 = .ok (.iaload, 1) := by decide +kernel
theorem dX12_stands_58 : decode cX12_stands 58 = .ok (.iconst 4, 1) := by decide +kernel
theorem dX12_stands_59 : decode cX12_stands 59 = .ok (.if_icmp .ne 12, 3) := by decide +kernel
theorem dX12_stands_62 : decode cX12_stands 62 = .ok (.aload_n 0, 1) := by decide +kernel
theorem dX12_stands_63 : decode cX12_stands 63 = .ok (.getfield 41, 3) := by decide +kernel
theorem dX12_stands_66 : decode cX12_stands 66 = .ok (.iload_n 1, 1) := by decide +kernel
theorem dX12_stands_67 : decode cX12_stands 67 = .ok (.baload, 1) := by decide +kernel
theorem dX12_stands_68 : decode cX12_stands 68 = .ok (.ifCond .eq 7, 3) := by decide +kernel
theorem dX12_stands_71 : decode cX12_stands 71 = .ok (.iconst 1, 1) := by decide +kernel
theorem dX12_stands_72 : decode cX12_stands 72 = .ok (.goto 4, 3) := by decide +kernel
theorem dX12_stands_75 : decode cX12_stands 75 = .ok (.iconst 0, 1) := by decide +kernel
theorem dX12_stands_76 : decode cX12_stands 76 = .ok (.ireturn, 1) := by decide +kernel
theorem dX12_opens_0 : decode cX12_opens 0 = .ok (.iload_n 1, 1) := by decide +kernel
theorem dX12_opens_1 : decode cX12_opens 1 = .ok (.istore_n 3, 1) := by decide +kernel
theorem dX12_opens_2 : decode cX12_opens 2 = .ok (.aload_n 0, 1) := by decide +kernel
theorem dX12_opens_3 : decode cX12_opens 3 = .ok (.iload_n 3, 1) := by decide +kernel
theorem dX12_opens_4 : decode cX12_opens 4 = .ok (.invokevirtual 126, 3) := by decide +kernel
theorem dX12_opens_7 : decode cX12_opens 7 = .ok (.ifCond .eq 91, 3) := by decide +kernel
theorem dX12_opens_10 : decode cX12_opens 10 = .ok (.aload_n 0, 1) := by decide +kernel
theorem dX12_opens_11 : decode cX12_opens 11 = .ok (.getfield 26, 3) := by decide +kernel
theorem dX12_opens_14 : decode cX12_opens 14 = .ok (.iload_n 3, 1) := by decide +kernel
theorem dX12_opens_15 : decode cX12_opens 15 = .ok (.iaload, 1) := by decide +kernel
theorem dX12_opens_16 : decode cX12_opens 16 = .ok (.iconst 1, 1) := by decide +kernel
theorem dX12_opens_17 : decode cX12_opens 17 = .ok (.if_icmp .eq 5, 3) := by decide +kernel
theorem dX12_opens_20 : decode cX12_opens 20 = .ok (.iconst 1, 1) := by decide +kernel
theorem dX12_opens_21 : decode cX12_opens 21 = .ok (.ireturn, 1) := by decide +kernel
theorem dX12_opens_22 : decode cX12_opens 22 = .ok (.aload_n 0, 1) := by decide +kernel
theorem dX12_opens_23 : decode cX12_opens 23 = .ok (.getfield 38, 3) := by decide +kernel
theorem dX12_opens_26 : decode cX12_opens 26 = .ok (.iload_n 3, 1) := by decide +kernel
theorem dX12_opens_27 : decode cX12_opens 27 = .ok (.iaload, 1) := by decide +kernel
theorem dX12_opens_28 : decode cX12_opens 28 = .ok (.istore 4, 2) := by decide +kernel
theorem dX12_opens_30 : decode cX12_opens 30 = .ok (.aload_n 0, 1) := by decide +kernel
theorem dX12_opens_31 : decode cX12_opens 31 = .ok (.getfield 29, 3) := by decide +kernel
theorem dX12_opens_34 : decode cX12_opens 34 = .ok (.iload 4, 2) := by decide +kernel
theorem dX12_opens_36 : decode cX12_opens 36 = .ok (.iaload, 1) := by decide +kernel
theorem dX12_opens_37 : decode cX12_opens 37 = .ok (.aload_n 0, 1) := by decide +kernel
theorem dX12_opens_38 : decode cX12_opens 38 = .ok (.getfield 29, 3) := by decide +kernel
theorem dX12_opens_41 : decode cX12_opens 41 = .ok (.iload_n 1, 1) := by decide +kernel
theorem dX12_opens_42 : decode cX12_opens 42 = .ok (.iaload, 1) := by decide +kernel
theorem dX12_opens_43 : decode cX12_opens 43 = .ok (.if_icmp .eq 49, 3) := by decide +kernel
theorem dX12_opens_46 : decode cX12_opens 46 = .ok (.aload_n 0, 1) := by decide +kernel
theorem dX12_opens_47 : decode cX12_opens 47 = .ok (.iload 4, 2) := by decide +kernel
theorem dX12_opens_49 : decode cX12_opens 49 = .ok (.invokevirtual 126, 3) := by decide +kernel
theorem dX12_opens_52 : decode cX12_opens 52 = .ok (.ifCond .eq 38, 3) := by decide +kernel
theorem dX12_opens_55 : decode cX12_opens 55 = .ok (.aload_n 0, 1) := by decide +kernel
theorem dX12_opens_56 : decode cX12_opens 56 = .ok (.getfield 47, 3) := by decide +kernel
theorem dX12_opens_59 : decode cX12_opens 59 = .ok (.aload_n 0, 1) := by decide +kernel
theorem dX12_opens_60 : decode cX12_opens 60 = .ok (.getfield 29, 3) := by decide +kernel
theorem dX12_opens_63 : decode cX12_opens 63 = .ok (.iload 4, 2) := by decide +kernel
theorem dX12_opens_65 : decode cX12_opens 65 = .ok (.iaload, 1) := by decide +kernel
theorem dX12_opens_66 : decode cX12_opens 66 = .ok (.iaload, 1) := by decide +kernel
theorem dX12_opens_67 : decode cX12_opens 67 = .ok (.ifCond .le 23, 3) := by decide +kernel
theorem dX12_opens_70 : decode cX12_opens 70 = .ok (.aload_n 0, 1) := by decide +kernel
theorem dX12_opens_71 : decode cX12_opens 71 = .ok (.getfield 47, 3) := by decide +kernel
theorem dX12_opens_74 : decode cX12_opens 74 = .ok (.aload_n 0, 1) := by decide +kernel
theorem dX12_opens_75 : decode cX12_opens 75 = .ok (.getfield 29, 3) := by decide +kernel
theorem dX12_opens_78 : decode cX12_opens 78 = .ok (.iload 4, 2) := by decide +kernel
theorem dX12_opens_80 : decode cX12_opens 80 = .ok (.iaload, 1) := by decide +kernel
theorem dX12_opens_81 : decode cX12_opens 81 = .ok (.iaload, 1) := by decide +kernel
theorem dX12_opens_82 : decode cX12_opens 82 = .ok (.iload_n 2, 1) := by decide +kernel
theorem dX12_opens_83 : decode cX12_opens 83 = .ok (.if_icmp .ge 7, 3) := by decide +kernel
theorem dX12_opens_86 : decode cX12_opens 86 = .ok (.iconst 1, 1) := by decide +kernel
theorem dX12_opens_87 : decode cX12_opens 87 = .ok (.goto 4, 3) := by decide +kernel
theorem dX12_opens_90 : decode cX12_opens 90 = .ok (.iconst 0, 1) := by decide +kernel
theorem dX12_opens_91 : decode cX12_opens 91 = .ok (.ireturn, 1) := by decide +kernel
theorem dX12_opens_92 : decode cX12_opens 92 = .ok (.iload 4, 2) := by decide +kernel
theorem dX12_opens_94 : decode cX12_opens 94 = .ok (.istore_n 3, 1) := by decide +kernel
theorem dX12_opens_95 : decode cX12_opens 95 = .ok (.goto (-93), 3) := by decide +kernel
theorem dX12_opens_98 : decode cX12_opens 98 = .ok (.iconst 0, 1) := by decide +kernel
theorem dX12_opens_99 : decode cX12_opens 99 = .ok (.ireturn, 1) := by decide +kernel
theorem dX12_fromFor_0 : decode cX12_fromFor 0 = .ok (.iconst 0, 1) := by decide +kernel
theorem dX12_fromFor_1 : decode cX12_fromFor 1 = .ok (.istore_n 3, 1) := by decide +kernel
theorem dX12_fromFor_2 : decode cX12_fromFor 2 = .ok (.iload_n 3, 1) := by decide +kernel
theorem dX12_fromFor_3 : decode cX12_fromFor 3 = .ok (.aload_n 0, 1) := by decide +kernel
theorem dX12_fromFor_4 : decode cX12_fromFor 4 = .ok (.getfield 95, 3) := by decide +kernel
theorem dX12_fromFor_7 : decode cX12_fromFor 7 = .ok (.if_icmp .ge 44, 3) := by decide +kernel
theorem dX12_fromFor_10 : decode cX12_fromFor 10 = .ok (.aload_n 0, 1) := by decide +kernel
theorem dX12_fromFor_11 : decode cX12_fromFor 11 = .ok (.getfield 23, 3) := by decide +kernel
theorem dX12_fromFor_14 : decode cX12_fromFor 14 = .ok (.bipush 8, 2) := by decide +kernel
theorem dX12_fromFor_16 : decode cX12_fromFor 16 = .ok (.iload_n 3, 1) := by decide +kernel
theorem dX12_fromFor_17 : decode cX12_fromFor 17 = .ok (.imul, 1) := by decide +kernel
theorem dX12_fromFor_18 : decode cX12_fromFor 18 = .ok (.iload_n 1, 1) := by decide +kernel
theorem dX12_fromFor_19 : decode cX12_fromFor 19 = .ok (.iadd, 1) := by decide +kernel
theorem dX12_fromFor_20 : decode cX12_fromFor 20 = .ok (.baload, 1) := by decide +kernel
theorem dX12_fromFor_21 : decode cX12_fromFor 21 = .ok (.ifCond .eq 24, 3) := by decide +kernel
theorem dX12_fromFor_24 : decode cX12_fromFor 24 = .ok (.aload_n 0, 1) := by decide +kernel
theorem dX12_fromFor_25 : decode cX12_fromFor 25 = .ok (.getfield 47, 3) := by decide +kernel
theorem dX12_fromFor_28 : decode cX12_fromFor 28 = .ok (.iload_n 3, 1) := by decide +kernel
theorem dX12_fromFor_29 : decode cX12_fromFor 29 = .ok (.iaload, 1) := by decide +kernel
theorem dX12_fromFor_30 : decode cX12_fromFor 30 = .ok (.ifCond .le 15, 3) := by decide +kernel
theorem dX12_fromFor_33 : decode cX12_fromFor 33 = .ok (.aload_n 0, 1) := by decide +kernel
theorem dX12_fromFor_34 : decode cX12_fromFor 34 = .ok (.getfield 47, 3) := by decide +kernel
theorem dX12_fromFor_37 : decode cX12_fromFor 37 = .ok (.iload_n 3, 1) := by decide +kernel
theorem dX12_fromFor_38 : decode cX12_fromFor 38 = .ok (.iaload, 1) := by decide +kernel
theorem dX12_fromFor_39 : decode cX12_fromFor 39 = .ok (.iload_n 2, 1) := by decide +kernel
theorem dX12_fromFor_40 : decode cX12_fromFor 40 = .ok (.if_icmp .ge 5, 3) := by decide +kernel
theorem dX12_fromFor_43 : decode cX12_fromFor 43 = .ok (.iload_n 3, 1) := by decide +kernel
theorem dX12_fromFor_44 : decode cX12_fromFor 44 = .ok (.ireturn, 1) := by decide +kernel
theorem dX12_fromFor_45 : decode cX12_fromFor 45 = .ok (.iinc 3 1, 3) := by decide +kernel
theorem dX12_fromFor_48 : decode cX12_fromFor 48 = .ok (.goto (-46), 3) := by decide +kernel
theorem dX12_fromFor_51 : decode cX12_fromFor 51 = .ok (.bipush (-4), 2) := by decide +kernel
theorem dX12_fromFor_53 : decode cX12_fromFor 53 = .ok (.ireturn, 1) := by decide +kernel
theorem dX12_take_0 : decode cX12_take 0 = .ok (.iconst 0, 1) := by decide +kernel
theorem dX12_take_1 : decode cX12_take 1 = .ok (.istore_n 1, 1) := by decide +kernel
theorem dX12_take_2 : decode cX12_take 2 = .ok (.iload_n 1, 1) := by decide +kernel
theorem dX12_take_3 : decode cX12_take 3 = .ok (.aload_n 0, 1) := by decide +kernel
theorem dX12_take_4 : decode cX12_take 4 = .ok (.getfield 95, 3) := by decide +kernel
theorem dX12_take_7 : decode cX12_take 7 = .ok (.if_icmp .ge 16, 3) := by decide +kernel
theorem dX12_take_10 : decode cX12_take 10 = .ok (.aload_n 0, 1) := by decide +kernel
theorem dX12_take_11 : decode cX12_take 11 = .ok (.getfield 47, 3) := by decide +kernel
theorem dX12_take_14 : decode cX12_take 14 = .ok (.iload_n 1, 1) := by decide +kernel
theorem dX12_take_15 : decode cX12_take 15 = .ok (.iconst 0, 1) := by decide +kernel
theorem dX12_take_16 : decode cX12_take 16 = .ok (.iastore, 1) := by decide +kernel
theorem dX12_take_17 : decode cX12_take 17 = .ok (.iinc 1 1, 3) := by decide +kernel
theorem dX12_take_20 : decode cX12_take 20 = .ok (.goto (-18), 3) := by decide +kernel
theorem dX12_take_23 : decode cX12_take 23 = .ok (.iconst 1, 1) := by decide +kernel
theorem dX12_take_24 : decode cX12_take 24 = .ok (.istore_n 1, 1) := by decide +kernel
theorem dX12_take_25 : decode cX12_take 25 = .ok (.iconst 1, 1) := by decide +kernel
theorem dX12_take_26 : decode cX12_take 26 = .ok (.istore_n 2, 1) := by decide +kernel
theorem dX12_take_27 : decode cX12_take 27 = .ok (.iload_n 1, 1) := by decide +kernel
theorem dX12_take_28 : decode cX12_take 28 = .ok (.ifCond .eq 137, 3) := by decide +kernel
theorem dX12_take_31 : decode cX12_take 31 = .ok (.iconst 0, 1) := by decide +kernel
theorem dX12_take_32 : decode cX12_take 32 = .ok (.istore_n 1, 1) := by decide +kernel
theorem dX12_take_33 : decode cX12_take 33 = .ok (.iconst 0, 1) := by decide +kernel
theorem dX12_take_34 : decode cX12_take 34 = .ok (.istore_n 3, 1) := by decide +kernel
theorem dX12_take_35 : decode cX12_take 35 = .ok (.iload_n 3, 1) := by decide +kernel
theorem dX12_take_36 : decode cX12_take 36 = .ok (.aload_n 0, 1) := by decide +kernel
theorem dX12_take_37 : decode cX12_take 37 = .ok (.getfield 95, 3) := by decide +kernel
theorem dX12_take_40 : decode cX12_take 40 = .ok (.if_icmp .ge 119, 3) := by decide +kernel
theorem dX12_take_43 : decode cX12_take 43 = .ok (.aload_n 0, 1) := by decide +kernel
theorem dX12_take_44 : decode cX12_take 44 = .ok (.getfield 16, 3) := by decide +kernel
theorem dX12_take_47 : decode cX12_take 47 = .ok (.iload_n 3, 1) := by decide +kernel
theorem dX12_take_48 : decode cX12_take 48 = .ok (.baload, 1) := by decide +kernel
theorem dX12_take_49 : decode cX12_take 49 = .ok (.ifCond .eq 7, 3) := by decide +kernel
theorem dX12_take_52 : decode cX12_take 52 = .ok (.iconst (-1), 1) := by decide +kernel
theorem dX12_take_53 : decode cX12_take 53 = .ok (.goto 9, 3) := by decide +kernel
theorem dX12_take_56 : decode cX12_take 56 = .ok (.aload_n 0, 1) := by decide +kernel
theorem dX12_take_57 : decode cX12_take 57 = .ok (.iload_n 3, 1) := by decide +kernel
theorem dX12_take_58 : decode cX12_take 58 = .ok (.iload_n 2, 1) := by decide +kernel
theorem dX12_take_59 : decode cX12_take 59 = .ok (.invokevirtual 129, 3) := by decide +kernel
theorem dX12_take_62 : decode cX12_take 62 = .ok (.istore 4, 2) := by decide +kernel
theorem dX12_take_64 : decode cX12_take 64 = .ok (.aload_n 0, 1) := by decide +kernel
theorem dX12_take_65 : decode cX12_take 65 = .ok (.getfield 47, 3) := by decide +kernel
theorem dX12_take_68 : decode cX12_take 68 = .ok (.iload_n 3, 1) := by decide +kernel
theorem dX12_take_69 : decode cX12_take 69 = .ok (.iaload, 1) := by decide +kernel
theorem dX12_take_70 : decode cX12_take 70 = .ok (.ifCond .ne 83, 3) := by decide +kernel
theorem dX12_take_73 : decode cX12_take 73 = .ok (.iload 4, 2) := by decide +kernel
theorem dX12_take_75 : decode cX12_take 75 = .ok (.bipush (-4), 2) := by decide +kernel
theorem dX12_take_77 : decode cX12_take 77 = .ok (.if_icmp .eq 76, 3) := by decide +kernel
theorem dX12_take_80 : decode cX12_take 80 = .ok (.iconst 0, 1) := by decide +kernel
theorem dX12_take_81 : decode cX12_take 81 = .ok (.istore 5, 2) := by decide +kernel
theorem dX12_take_83 : decode cX12_take 83 = .ok (.iload 5, 2) := by decide +kernel
theorem dX12_take_85 : decode cX12_take 85 = .ok (.aload_n 0, 1) := by decide +kernel
theorem dX12_take_86 : decode cX12_take 86 = .ok (.getfield 110, 3) := by decide +kernel
theorem dX12_take_89 : decode cX12_take 89 = .ok (.if_icmp .ge 64, 3) := by decide +kernel
theorem dX12_take_92 : decode cX12_take 92 = .ok (.aload_n 0, 1) := by decide +kernel
theorem dX12_take_93 : decode cX12_take 93 = .ok (.getfield 47, 3) := by decide +kernel
theorem dX12_take_96 : decode cX12_take 96 = .ok (.iload_n 3, 1) := by decide +kernel
theorem dX12_take_97 : decode cX12_take 97 = .ok (.iaload, 1) := by decide +kernel
theorem dX12_take_98 : decode cX12_take 98 = .ok (.ifCond .ne 55, 3) := by decide +kernel
theorem dX12_take_101 : decode cX12_take 101 = .ok (.aload_n 0, 1) := by decide +kernel
theorem dX12_take_102 : decode cX12_take 102 = .ok (.getfield 29, 3) := by decide +kernel
theorem dX12_take_105 : decode cX12_take 105 = .ok (.iload 5, 2) := by decide +kernel
theorem dX12_take_107 : decode cX12_take 107 = .ok (.iaload, 1) := by decide +kernel
theorem dX12_take_108 : decode cX12_take 108 = .ok (.iload_n 3, 1) := by decide +kernel
theorem dX12_take_109 : decode cX12_take 109 = .ok (.if_icmp .ne 38, 3) := by decide +kernel
theorem dX12_take_112 : decode cX12_take 112 = .ok (.aload_n 0, 1) := by decide +kernel
theorem dX12_take_113 : decode cX12_take 113 = .ok (.iload 5, 2) := by decide +kernel
theorem dX12_take_115 : decode cX12_take 115 = .ok (.iload_n 2, 1) := by decide +kernel
theorem dX12_take_116 : decode cX12_take 116 = .ok (.invokevirtual 133, 3) := by decide +kernel
theorem dX12_take_119 : decode cX12_take 119 = .ok (.ifCond .eq 28, 3) := by decide +kernel
theorem dX12_take_122 : decode cX12_take 122 = .ok (.aload_n 0, 1) := by decide +kernel
theorem dX12_take_123 : decode cX12_take 123 = .ok (.getfield 47, 3) := by decide +kernel
theorem dX12_take_126 : decode cX12_take 126 = .ok (.iload_n 3, 1) := by decide +kernel
theorem dX12_take_127 : decode cX12_take 127 = .ok (.iload_n 2, 1) := by decide +kernel
theorem dX12_take_128 : decode cX12_take 128 = .ok (.iastore, 1) := by decide +kernel
theorem dX12_take_129 : decode cX12_take 129 = .ok (.aload_n 0, 1) := by decide +kernel
theorem dX12_take_130 : decode cX12_take 130 = .ok (.getfield 50, 3) := by decide +kernel
theorem dX12_take_133 : decode cX12_take 133 = .ok (.iload_n 3, 1) := by decide +kernel
theorem dX12_take_134 : decode cX12_take 134 = .ok (.iload 5, 2) := by decide +kernel
theorem dX12_take_136 : decode cX12_take 136 = .ok (.iastore, 1) := by decide +kernel
theorem dX12_take_137 : decode cX12_take 137 = .ok (.aload_n 0, 1) := by decide +kernel
theorem dX12_take_138 : decode cX12_take 138 = .ok (.getfield 53, 3) := by decide +kernel
theorem dX12_take_141 : decode cX12_take 141 = .ok (.iload_n 3, 1) := by decide +kernel
theorem dX12_take_142 : decode cX12_take 142 = .ok (.iload 4, 2) := by decide +kernel
theorem dX12_take_144 : decode cX12_take 144 = .ok (.iastore, 1) := by decide +kernel
theorem dX12_take_145 : decode cX12_take 145 = .ok (.iconst 1, 1) := by decide +kernel
theorem dX12_take_146 : decode cX12_take 146 = .ok (.istore_n 1, 1) := by decide +kernel
theorem dX12_take_147 : decode cX12_take 147 = .ok (.iinc 5 1, 3) := by decide +kernel
theorem dX12_take_150 : decode cX12_take 150 = .ok (.goto (-67), 3) := by decide +kernel
theorem dX12_take_153 : decode cX12_take 153 = .ok (.iinc 3 1, 3) := by decide +kernel
theorem dX12_take_156 : decode cX12_take 156 = .ok (.goto (-121), 3) := by decide +kernel
theorem dX12_take_159 : decode cX12_take 159 = .ok (.iinc 2 1, 3) := by decide +kernel
theorem dX12_take_162 : decode cX12_take 162 = .ok (.goto (-135), 3) := by decide +kernel
theorem dX12_take_165 : decode cX12_take 165 = .ok (.return_, 1) := by decide +kernel
theorem dX12_riskNow_0 : decode cX12_riskNow 0 = .ok (.aload_n 0, 1) := by decide +kernel
theorem dX12_riskNow_1 : decode cX12_riskNow 1 = .ok (.invokevirtual 137, 3) := by decide +kernel
theorem dX12_riskNow_4 : decode cX12_riskNow 4 = .ok (.iconst 0, 1) := by decide +kernel
theorem dX12_riskNow_5 : decode cX12_riskNow 5 = .ok (.istore_n 1, 1) := by decide +kernel
theorem dX12_riskNow_6 : decode cX12_riskNow 6 = .ok (.iconst 0, 1) := by decide +kernel
theorem dX12_riskNow_7 : decode cX12_riskNow 7 = .ok (.istore_n 2, 1) := by decide +kernel
theorem dX12_riskNow_8 : decode cX12_riskNow 8 = .ok (.iload_n 2, 1) := by decide +kernel
theorem dX12_riskNow_9 : decode cX12_riskNow 9 = .ok (.aload_n 0, 1) := by decide +kernel
theorem dX12_riskNow_10 : decode cX12_riskNow 10 = .ok (.getfield 95, 3) := by decide +kernel
theorem dX12_riskNow_13 : decode cX12_riskNow 13 = .ok (.if_icmp .ge 103, 3) := by decide +kernel
theorem dX12_riskNow_16 : decode cX12_riskNow 16 = .ok (.aload_n 0, 1) := by decide +kernel
theorem dX12_riskNow_17 : decode cX12_riskNow 17 = .ok (.getfield 47, 3) := by decide +kernel
theorem dX12_riskNow_20 : decode cX12_riskNow 20 = .ok (.iload_n 2, 1) := by decide +kernel
theorem dX12_riskNow_21 : decode cX12_riskNow 21 = .ok (.iaload, 1) := by decide +kernel
theorem dX12_riskNow_22 : decode cX12_riskNow 22 = .ok (.ifCond .le 88, 3) := by decide +kernel
theorem dX12_riskNow_25 : decode cX12_riskNow 25 = .ok (.iconst 0, 1) := by decide +kernel
theorem dX12_riskNow_26 : decode cX12_riskNow 26 = .ok (.istore_n 3, 1) := by decide +kernel
theorem dX12_riskNow_27 : decode cX12_riskNow 27 = .ok (.iconst 0, 1) := by decide +kernel
theorem dX12_riskNow_28 : decode cX12_riskNow 28 = .ok (.istore 4, 2) := by decide +kernel
theorem dX12_riskNow_30 : decode cX12_riskNow 30 = .ok (.iload 4, 2) := by decide +kernel
theorem dX12_riskNow_32 : decode cX12_riskNow 32 = .ok (.aload_n 0, 1) := by decide +kernel
theorem dX12_riskNow_33 : decode cX12_riskNow 33 = .ok (.getfield 110, 3) := by decide +kernel
theorem dX12_riskNow_36 : decode cX12_riskNow 36 = .ok (.if_icmp .ge 50, 3) := by decide +kernel
theorem dX12_riskNow_39 : decode cX12_riskNow 39 = .ok (.iload_n 3, 1) := by decide +kernel
theorem dX12_riskNow_40 : decode cX12_riskNow 40 = .ok (.ifCond .ne 34, 3) := by decide +kernel
theorem dX12_riskNow_43 : decode cX12_riskNow 43 = .ok (.aload_n 0, 1) := by decide +kernel
theorem dX12_riskNow_44 : decode cX12_riskNow 44 = .ok (.getfield 29, 3) := by decide +kernel
theorem dX12_riskNow_47 : decode cX12_riskNow 47 = .ok (.iload 4, 2) := by decide +kernel
theorem dX12_riskNow_49 : decode cX12_riskNow 49 = .ok (.iaload, 1) := by decide +kernel
theorem dX12_riskNow_50 : decode cX12_riskNow 50 = .ok (.iload_n 2, 1) := by decide +kernel
theorem dX12_riskNow_51 : decode cX12_riskNow 51 = .ok (.if_icmp .ne 27, 3) := by decide +kernel
theorem dX12_riskNow_54 : decode cX12_riskNow 54 = .ok (.aload_n 0, 1) := by decide +kernel
theorem dX12_riskNow_55 : decode cX12_riskNow 55 = .ok (.getfield 26, 3) := by decide +kernel
theorem dX12_riskNow_58 : decode cX12_riskNow 58 = .ok (.iload 4, 2) := by decide +kernel
theorem dX12_riskNow_60 : decode cX12_riskNow 60 = .ok (.iaload, 1) := by decide +kernel
theorem dX12_riskNow_61 : decode cX12_riskNow 61 = .ok (.iconst 3, 1) := by decide +kernel
theorem dX12_riskNow_62 : decode cX12_riskNow 62 = .ok (.if_icmp .ne 16, 3) := by decide +kernel
theorem dX12_riskNow_65 : decode cX12_riskNow 65 = .ok (.aload_n 0, 1) := by decide +kernel
theorem dX12_riskNow_66 : decode cX12_riskNow 66 = .ok (.iload 4, 2) := by decide +kernel
theorem dX12_riskNow_68 : decode cX12_riskNow 68 = .ok (.invokevirtual 126, 3) := by decide +kernel
theorem dX12_riskNow_71 : decode cX12_riskNow 71 = .ok (.ifCond .eq 7, 3) := by decide +kernel
theorem dX12_riskNow_74 : decode cX12_riskNow 74 = .ok (.iconst 1, 1) := by decide +kernel
theorem dX12_riskNow_75 : decode cX12_riskNow 75 = .ok (.goto 4, 3) := by decide +kernel
theorem dX12_riskNow_78 : decode cX12_riskNow 78 = .ok (.iconst 0, 1) := by decide +kernel
theorem dX12_riskNow_79 : decode cX12_riskNow 79 = .ok (.istore_n 3, 1) := by decide +kernel
theorem dX12_riskNow_80 : decode cX12_riskNow 80 = .ok (.iinc 4 1, 3) := by decide +kernel
theorem dX12_riskNow_83 : decode cX12_riskNow 83 = .ok (.goto (-53), 3) := by decide +kernel
theorem dX12_riskNow_86 : decode cX12_riskNow 86 = .ok (.iload_n 1, 1) := by decide +kernel
theorem dX12_riskNow_87 : decode cX12_riskNow 87 = .ok (.iload_n 3, 1) := by decide +kernel
theorem dX12_riskNow_88 : decode cX12_riskNow 88 = .ok (.ifCond .eq 14, 3) := by decide +kernel
theorem dX12_riskNow_91 : decode cX12_riskNow 91 = .ok (.iconst 2, 1) := by decide +kernel
theorem dX12_riskNow_92 : decode cX12_riskNow 92 = .ok (.aload_n 0, 1) := by decide +kernel
theorem dX12_riskNow_93 : decode cX12_riskNow 93 = .ok (.getfield 13, 3) := by decide +kernel
theorem dX12_riskNow_96 : decode cX12_riskNow 96 = .ok (.iload_n 2, 1) := by decide +kernel
theorem dX12_riskNow_97 : decode cX12_riskNow 97 = .ok (.iaload, 1) := by decide +kernel
theorem dX12_riskNow_98 : decode cX12_riskNow 98 = .ok (.imul, 1) := by decide +kernel
theorem dX12_riskNow_99 : decode cX12_riskNow 99 = .ok (.goto 9, 3) := by decide +kernel
theorem dX12_riskNow_102 : decode cX12_riskNow 102 = .ok (.aload_n 0, 1) := by decide +kernel
theorem dX12_riskNow_103 : decode cX12_riskNow 103 = .ok (.getfield 13, 3) := by decide +kernel
theorem dX12_riskNow_106 : decode cX12_riskNow 106 = .ok (.iload_n 2, 1) := by decide +kernel
theorem dX12_riskNow_107 : decode cX12_riskNow 107 = .ok (.iaload, 1) := by decide +kernel
theorem dX12_riskNow_108 : decode cX12_riskNow 108 = .ok (.iadd, 1) := by decide +kernel
theorem dX12_riskNow_109 : decode cX12_riskNow 109 = .ok (.istore_n 1, 1) := by decide +kernel
theorem dX12_riskNow_110 : decode cX12_riskNow 110 = .ok (.iinc 2 1, 3) := by decide +kernel
theorem dX12_riskNow_113 : decode cX12_riskNow 113 = .ok (.goto (-105), 3) := by decide +kernel
theorem dX12_riskNow_116 : decode cX12_riskNow 116 = .ok (.iload_n 1, 1) := by decide +kernel
theorem dX12_riskNow_117 : decode cX12_riskNow 117 = .ok (.ireturn, 1) := by decide +kernel
theorem dX12_riskOf_0 : decode cX12_riskOf 0 = .ok (.aload_n 0, 1) := by decide +kernel
theorem dX12_riskOf_1 : decode cX12_riskOf 1 = .ok (.iload_n 1, 1) := by decide +kernel
theorem dX12_riskOf_2 : decode cX12_riskOf 2 = .ok (.invokevirtual 140, 3) := by decide +kernel
theorem dX12_riskOf_5 : decode cX12_riskOf 5 = .ok (.aload_n 0, 1) := by decide +kernel
theorem dX12_riskOf_6 : decode cX12_riskOf 6 = .ok (.invokevirtual 144, 3) := by decide +kernel
theorem dX12_riskOf_9 : decode cX12_riskOf 9 = .ok (.ireturn, 1) := by decide +kernel
theorem dX12_told_0 : decode cX12_told 0 = .ok (.aload_n 0, 1) := by decide +kernel
theorem dX12_told_1 : decode cX12_told 1 = .ok (.iload_n 1, 1) := by decide +kernel
theorem dX12_told_2 : decode cX12_told 2 = .ok (.invokevirtual 120, 3) := by decide +kernel
theorem dX12_told_5 : decode cX12_told 5 = .ok (.ifCond .ne 5, 3) := by decide +kernel
theorem dX12_told_8 : decode cX12_told 8 = .ok (.iconst (-1), 1) := by decide +kernel
theorem dX12_told_9 : decode cX12_told 9 = .ok (.ireturn, 1) := by decide +kernel
theorem dX12_told_10 : decode cX12_told 10 = .ok (.aload_n 0, 1) := by decide +kernel
theorem dX12_told_11 : decode cX12_told 11 = .ok (.iconst 0, 1) := by decide +kernel
theorem dX12_told_12 : decode cX12_told 12 = .ok (.invokevirtual 140, 3) := by decide +kernel
theorem dX12_told_15 : decode cX12_told 15 = .ok (.iload_n 2, 1) := by decide +kernel
theorem dX12_told_16 : decode cX12_told 16 = .ok (.tableswitch 78 0 4 #[36, 43, 50, 57, 64], 36) := by decide +kernel
theorem dX12_told_52 : decode cX12_told 52 = .ok (.aload_n 0, 1) := by decide +kernel
theorem dX12_told_53 : decode cX12_told 53 = .ok (.getfield 26, 3) := by decide +kernel
theorem dX12_told_56 : decode cX12_told 56 = .ok (.iload_n 1, 1) := by decide +kernel
theorem dX12_told_57 : decode cX12_told 57 = .ok (.iaload, 1) := by decide +kernel
theorem dX12_told_58 : decode cX12_told 58 = .ok (.ireturn, 1) := by decide +kernel
theorem dX12_told_59 : decode cX12_told 59 = .ok (.aload_n 0, 1) := by decide +kernel
theorem dX12_told_60 : decode cX12_told 60 = .ok (.getfield 29, 3) := by decide +kernel
theorem dX12_told_63 : decode cX12_told 63 = .ok (.iload_n 1, 1) := by decide +kernel
theorem dX12_told_64 : decode cX12_told 64 = .ok (.iaload, 1) := by decide +kernel
theorem dX12_told_65 : decode cX12_told 65 = .ok (.ireturn, 1) := by decide +kernel
theorem dX12_told_66 : decode cX12_told 66 = .ok (.aload_n 0, 1) := by decide +kernel
theorem dX12_told_67 : decode cX12_told 67 = .ok (.getfield 32, 3) := by decide +kernel
theorem dX12_told_70 : decode cX12_told 70 = .ok (.iload_n 1, 1) := by decide +kernel
theorem dX12_told_71 : decode cX12_told 71 = .ok (.iaload, 1) := by decide +kernel
theorem dX12_told_72 : decode cX12_told 72 = .ok (.ireturn, 1) := by decide +kernel
theorem dX12_told_73 : decode cX12_told 73 = .ok (.aload_n 0, 1) := by decide +kernel
theorem dX12_told_74 : decode cX12_told 74 = .ok (.getfield 35, 3) := by decide +kernel
theorem dX12_told_77 : decode cX12_told 77 = .ok (.iload_n 1, 1) := by decide +kernel
theorem dX12_told_78 : decode cX12_told 78 = .ok (.iaload, 1) := by decide +kernel
theorem dX12_told_79 : decode cX12_told 79 = .ok (.ireturn, 1) := by decide +kernel
theorem dX12_told_80 : decode cX12_told 80 = .ok (.aload_n 0, 1) := by decide +kernel
theorem dX12_told_81 : decode cX12_told 81 = .ok (.iload_n 1, 1) := by decide +kernel
theorem dX12_told_82 : decode cX12_told 82 = .ok (.invokevirtual 126, 3) := by decide +kernel
theorem dX12_told_85 : decode cX12_told 85 = .ok (.ifCond .eq 7, 3) := by decide +kernel
theorem dX12_told_88 : decode cX12_told 88 = .ok (.iconst 1, 1) := by decide +kernel
theorem dX12_told_89 : decode cX12_told 89 = .ok (.goto 4, 3) := by decide +kernel
theorem dX12_told_92 : decode cX12_told 92 = .ok (.iconst 0, 1) := by decide +kernel
theorem dX12_told_93 : decode cX12_told 93 = .ok (.ireturn, 1) := by decide +kernel
theorem dX12_told_94 : decode cX12_told 94 = .ok (.iconst (-1), 1) := by decide +kernel
theorem dX12_told_95 : decode cX12_told 95 = .ok (.ireturn, 1) := by decide +kernel
theorem dX12_risk_0 : decode cX12_risk 0 = .ok (.aload_n 0, 1) := by decide +kernel
theorem dX12_risk_1 : decode cX12_risk 1 = .ok (.iconst 0, 1) := by decide +kernel
theorem dX12_risk_2 : decode cX12_risk 2 = .ok (.invokevirtual 148, 3) := by decide +kernel
theorem dX12_risk_5 : decode cX12_risk 5 = .ok (.ireturn, 1) := by decide +kernel
theorem dX12_taken_0 : decode cX12_taken 0 = .ok (.aload_n 0, 1) := by decide +kernel
theorem dX12_taken_1 : decode cX12_taken 1 = .ok (.iconst 0, 1) := by decide +kernel
theorem dX12_taken_2 : decode cX12_taken 2 = .ok (.invokevirtual 148, 3) := by decide +kernel
theorem dX12_taken_5 : decode cX12_taken 5 = .ok (.istore_n 1, 1) := by decide +kernel
theorem dX12_taken_6 : decode cX12_taken 6 = .ok (.iconst 0, 1) := by decide +kernel
theorem dX12_taken_7 : decode cX12_taken 7 = .ok (.istore_n 2, 1) := by decide +kernel
theorem dX12_taken_8 : decode cX12_taken 8 = .ok (.iconst 0, 1) := by decide +kernel
theorem dX12_taken_9 : decode cX12_taken 9 = .ok (.istore_n 3, 1) := by decide +kernel
theorem dX12_taken_10 : decode cX12_taken 10 = .ok (.iload_n 3, 1) := by decide +kernel
theorem dX12_taken_11 : decode cX12_taken 11 = .ok (.aload_n 0, 1) := by decide +kernel
theorem dX12_taken_12 : decode cX12_taken 12 = .ok (.getfield 95, 3) := by decide +kernel
theorem dX12_taken_15 : decode cX12_taken 15 = .ok (.if_icmp .ge 28, 3) := by decide +kernel
theorem dX12_taken_18 : decode cX12_taken 18 = .ok (.iload_n 2, 1) := by decide +kernel
theorem dX12_taken_19 : decode cX12_taken 19 = .ok (.aload_n 0, 1) := by decide +kernel
theorem dX12_taken_20 : decode cX12_taken 20 = .ok (.getfield 47, 3) := by decide +kernel
theorem dX12_taken_23 : decode cX12_taken 23 = .ok (.iload_n 3, 1) := by decide +kernel
theorem dX12_taken_24 : decode cX12_taken 24 = .ok (.iaload, 1) := by decide +kernel
theorem dX12_taken_25 : decode cX12_taken 25 = .ok (.ifCond .le 9, 3) := by decide +kernel
theorem dX12_taken_28 : decode cX12_taken 28 = .ok (.iconst 1, 1) := by decide +kernel
theorem dX12_taken_29 : decode cX12_taken 29 = .ok (.iload_n 3, 1) := by decide +kernel
theorem dX12_taken_30 : decode cX12_taken 30 = .ok (.ishl, 1) := by decide +kernel
theorem dX12_taken_31 : decode cX12_taken 31 = .ok (.goto 4, 3) := by decide +kernel
theorem dX12_taken_34 : decode cX12_taken 34 = .ok (.iconst 0, 1) := by decide +kernel
theorem dX12_taken_35 : decode cX12_taken 35 = .ok (.ior, 1) := by decide +kernel
theorem dX12_taken_36 : decode cX12_taken 36 = .ok (.istore_n 2, 1) := by decide +kernel
theorem dX12_taken_37 : decode cX12_taken 37 = .ok (.iinc 3 1, 3) := by decide +kernel
theorem dX12_taken_40 : decode cX12_taken 40 = .ok (.goto (-30), 3) := by decide +kernel
theorem dX12_taken_43 : decode cX12_taken 43 = .ok (.iload_n 2, 1) := by decide +kernel
theorem dX12_taken_44 : decode cX12_taken 44 = .ok (.ireturn, 1) := by decide +kernel
theorem dX12_way_0 : decode cX12_way 0 = .ok (.aload_n 0, 1) := by decide +kernel
theorem dX12_way_1 : decode cX12_way 1 = .ok (.iload_n 1, 1) := by decide +kernel
theorem dX12_way_2 : decode cX12_way 2 = .ok (.invokevirtual 107, 3) := by decide +kernel
theorem dX12_way_5 : decode cX12_way 5 = .ok (.ifCond .eq 12, 3) := by decide +kernel
theorem dX12_way_8 : decode cX12_way 8 = .ok (.iload_n 2, 1) := by decide +kernel
theorem dX12_way_9 : decode cX12_way 9 = .ok (.iconst 0, 1) := by decide +kernel
theorem dX12_way_10 : decode cX12_way 10 = .ok (.iconst 2, 1) := by decide +kernel
theorem dX12_way_11 : decode cX12_way 11 = .ok (.invokestatic 99, 3) := by decide +kernel
theorem dX12_way_14 : decode cX12_way 14 = .ok (.ifCond .ne 5, 3) := by decide +kernel
theorem dX12_way_17 : decode cX12_way 17 = .ok (.iconst (-1), 1) := by decide +kernel
theorem dX12_way_18 : decode cX12_way 18 = .ok (.ireturn, 1) := by decide +kernel
theorem dX12_way_19 : decode cX12_way 19 = .ok (.aload_n 0, 1) := by decide +kernel
theorem dX12_way_20 : decode cX12_way 20 = .ok (.iconst 0, 1) := by decide +kernel
theorem dX12_way_21 : decode cX12_way 21 = .ok (.invokevirtual 148, 3) := by decide +kernel
theorem dX12_way_24 : decode cX12_way 24 = .ok (.istore_n 3, 1) := by decide +kernel
theorem dX12_way_25 : decode cX12_way 25 = .ok (.aload_n 0, 1) := by decide +kernel
theorem dX12_way_26 : decode cX12_way 26 = .ok (.getfield 47, 3) := by decide +kernel
theorem dX12_way_29 : decode cX12_way 29 = .ok (.iload_n 1, 1) := by decide +kernel
theorem dX12_way_30 : decode cX12_way 30 = .ok (.iaload, 1) := by decide +kernel
theorem dX12_way_31 : decode cX12_way 31 = .ok (.ifCond .ne 6, 3) := by decide +kernel
theorem dX12_way_34 : decode cX12_way 34 = .ok (.bipush (-4), 2) := by decide +kernel
theorem dX12_way_36 : decode cX12_way 36 = .ok (.ireturn, 1) := by decide +kernel
theorem dX12_way_37 : decode cX12_way 37 = .ok (.iload_n 2, 1) := by decide +kernel
theorem dX12_way_38 : decode cX12_way 38 = .ok (.ifCond .ne 12, 3) := by decide +kernel
theorem dX12_way_41 : decode cX12_way 41 = .ok (.aload_n 0, 1) := by decide +kernel
theorem dX12_way_42 : decode cX12_way 42 = .ok (.getfield 47, 3) := by decide +kernel
theorem dX12_way_45 : decode cX12_way 45 = .ok (.iload_n 1, 1) := by decide +kernel
theorem dX12_way_46 : decode cX12_way 46 = .ok (.iaload, 1) := by decide +kernel
theorem dX12_way_47 : decode cX12_way 47 = .ok (.goto 23, 3) := by decide +kernel
theorem dX12_way_50 : decode cX12_way 50 = .ok (.iload_n 2, 1) := by decide +kernel
theorem dX12_way_51 : decode cX12_way 51 = .ok (.iconst 1, 1) := by decide +kernel
theorem dX12_way_52 : decode cX12_way 52 = .ok (.if_icmp .ne 12, 3) := by decide +kernel
theorem dX12_way_55 : decode cX12_way 55 = .ok (.aload_n 0, 1) := by decide +kernel
theorem dX12_way_56 : decode cX12_way 56 = .ok (.getfield 50, 3) := by decide +kernel
theorem dX12_way_59 : decode cX12_way 59 = .ok (.iload_n 1, 1) := by decide +kernel
theorem dX12_way_60 : decode cX12_way 60 = .ok (.iaload, 1) := by decide +kernel
theorem dX12_way_61 : decode cX12_way 61 = .ok (.goto 9, 3) := by decide +kernel
theorem dX12_way_64 : decode cX12_way 64 = .ok (.aload_n 0, 1) := by decide +kernel
theorem dX12_way_65 : decode cX12_way 65 = .ok (.getfield 53, 3) := by decide +kernel
theorem dX12_way_68 : decode cX12_way 68 = .ok (.iload_n 1, 1) := by decide +kernel
theorem dX12_way_69 : decode cX12_way 69 = .ok (.iaload, 1) := by decide +kernel
theorem dX12_way_70 : decode cX12_way 70 = .ok (.ireturn, 1) := by decide +kernel
theorem dX12_bestGuard_0 : decode cX12_bestGuard 0 = .ok (.bipush (-4), 2) := by decide +kernel
theorem dX12_bestGuard_2 : decode cX12_bestGuard 2 = .ok (.istore_n 1, 1) := by decide +kernel
theorem dX12_bestGuard_3 : decode cX12_bestGuard 3 = .ok (.aload_n 0, 1) := by decide +kernel
theorem dX12_bestGuard_4 : decode cX12_bestGuard 4 = .ok (.iconst 0, 1) := by decide +kernel
theorem dX12_bestGuard_5 : decode cX12_bestGuard 5 = .ok (.invokevirtual 148, 3) := by decide +kernel
theorem dX12_bestGuard_8 : decode cX12_bestGuard 8 = .ok (.istore_n 2, 1) := by decide +kernel
theorem dX12_bestGuard_9 : decode cX12_bestGuard 9 = .ok (.iconst 0, 1) := by decide +kernel
theorem dX12_bestGuard_10 : decode cX12_bestGuard 10 = .ok (.istore_n 3, 1) := by decide +kernel
theorem dX12_bestGuard_11 : decode cX12_bestGuard 11 = .ok (.iload_n 3, 1) := by decide +kernel
theorem dX12_bestGuard_12 : decode cX12_bestGuard 12 = .ok (.aload_n 0, 1) := by decide +kernel
theorem dX12_bestGuard_13 : decode cX12_bestGuard 13 = .ok (.getfield 95, 3) := by decide +kernel
theorem dX12_bestGuard_16 : decode cX12_bestGuard 16 = .ok (.if_icmp .ge 50, 3) := by decide +kernel
theorem dX12_bestGuard_19 : decode cX12_bestGuard 19 = .ok (.aload_n 0, 1) := by decide +kernel
theorem dX12_bestGuard_20 : decode cX12_bestGuard 20 = .ok (.getfield 20, 3) := by decide +kernel
theorem dX12_bestGuard_23 : decode cX12_bestGuard 23 = .ok (.iload_n 3, 1) := by decide +kernel
theorem dX12_bestGuard_24 : decode cX12_bestGuard 24 = .ok (.baload, 1) := by decide +kernel
theorem dX12_bestGuard_25 : decode cX12_bestGuard 25 = .ok (.ifCond .ne 35, 3) := by decide +kernel
theorem dX12_bestGuard_28 : decode cX12_bestGuard 28 = .ok (.aload_n 0, 1) := by decide +kernel
theorem dX12_bestGuard_29 : decode cX12_bestGuard 29 = .ok (.getfield 20, 3) := by decide +kernel
theorem dX12_bestGuard_32 : decode cX12_bestGuard 32 = .ok (.iload_n 3, 1) := by decide +kernel
theorem dX12_bestGuard_33 : decode cX12_bestGuard 33 = .ok (.iconst 1, 1) := by decide +kernel
theorem dX12_bestGuard_34 : decode cX12_bestGuard 34 = .ok (.bastore, 1) := by decide +kernel
theorem dX12_bestGuard_35 : decode cX12_bestGuard 35 = .ok (.aload_n 0, 1) := by decide +kernel
theorem dX12_bestGuard_36 : decode cX12_bestGuard 36 = .ok (.iconst 0, 1) := by decide +kernel
theorem dX12_bestGuard_37 : decode cX12_bestGuard 37 = .ok (.invokevirtual 148, 3) := by decide +kernel
theorem dX12_bestGuard_40 : decode cX12_bestGuard 40 = .ok (.istore 4, 2) := by decide +kernel
theorem dX12_bestGuard_42 : decode cX12_bestGuard 42 = .ok (.aload_n 0, 1) := by decide +kernel
theorem dX12_bestGuard_43 : decode cX12_bestGuard 43 = .ok (.getfield 20, 3) := by decide +kernel
theorem dX12_bestGuard_46 : decode cX12_bestGuard 46 = .ok (.iload_n 3, 1) := by decide +kernel
theorem dX12_bestGuard_47 : decode cX12_bestGuard 47 = .ok (.iconst 0, 1) := by decide +kernel
theorem dX12_bestGuard_48 : decode cX12_bestGuard 48 = .ok (.bastore, 1) := by decide +kernel
theorem dX12_bestGuard_49 : decode cX12_bestGuard 49 = .ok (.iload 4, 2) := by decide +kernel
theorem dX12_bestGuard_51 : decode cX12_bestGuard 51 = .ok (.iload_n 2, 1) := by decide +kernel
theorem dX12_bestGuard_52 : decode cX12_bestGuard 52 = .ok (.if_icmp .ge 8, 3) := by decide +kernel
theorem dX12_bestGuard_55 : decode cX12_bestGuard 55 = .ok (.iload 4, 2) := by decide +kernel
theorem dX12_bestGuard_57 : decode cX12_bestGuard 57 = .ok (.istore_n 2, 1) := by decide +kernel
theorem dX12_bestGuard_58 : decode cX12_bestGuard 58 = .ok (.iload_n 3, 1) := by decide +kernel
theorem dX12_bestGuard_59 : decode cX12_bestGuard 59 = .ok (.istore_n 1, 1) := by decide +kernel
theorem dX12_bestGuard_60 : decode cX12_bestGuard 60 = .ok (.iinc 3 1, 3) := by decide +kernel
theorem dX12_bestGuard_63 : decode cX12_bestGuard 63 = .ok (.goto (-52), 3) := by decide +kernel
theorem dX12_bestGuard_66 : decode cX12_bestGuard 66 = .ok (.iload_n 1, 1) := by decide +kernel
theorem dX12_bestGuard_67 : decode cX12_bestGuard 67 = .ok (.ireturn, 1) := by decide +kernel
theorem dX12_isMend_0 : decode cX12_isMend 0 = .ok (.iload_n 1, 1) := by decide +kernel
theorem dX12_isMend_1 : decode cX12_isMend 1 = .ok (.iconst 0, 1) := by decide +kernel
theorem dX12_isMend_2 : decode cX12_isMend 2 = .ok (.aload_n 0, 1) := by decide +kernel
theorem dX12_isMend_3 : decode cX12_isMend 3 = .ok (.getfield 123, 3) := by decide +kernel
theorem dX12_isMend_6 : decode cX12_isMend 6 = .ok (.iconst 1, 1) := by decide +kernel
theorem dX12_isMend_7 : decode cX12_isMend 7 = .ok (.isub, 1) := by decide +kernel
theorem dX12_isMend_8 : decode cX12_isMend 8 = .ok (.invokestatic 99, 3) := by decide +kernel
theorem dX12_isMend_11 : decode cX12_isMend 11 = .ok (.ireturn, 1) := by decide +kernel
theorem dX12_mend_0 : decode cX12_mend 0 = .ok (.aload_n 0, 1) := by decide +kernel
theorem dX12_mend_1 : decode cX12_mend 1 = .ok (.iload_n 1, 1) := by decide +kernel
theorem dX12_mend_2 : decode cX12_mend 2 = .ok (.invokevirtual 107, 3) := by decide +kernel
theorem dX12_mend_5 : decode cX12_mend 5 = .ok (.ifCond .eq 52, 3) := by decide +kernel
theorem dX12_mend_8 : decode cX12_mend 8 = .ok (.iload_n 2, 1) := by decide +kernel
theorem dX12_mend_9 : decode cX12_mend 9 = .ok (.invokestatic 103, 3) := by decide +kernel
theorem dX12_mend_12 : decode cX12_mend 12 = .ok (.ifCond .eq 45, 3) := by decide +kernel
theorem dX12_mend_15 : decode cX12_mend 15 = .ok (.iload_n 3, 1) := by decide +kernel
theorem dX12_mend_16 : decode cX12_mend 16 = .ok (.iconst 1, 1) := by decide +kernel
theorem dX12_mend_17 : decode cX12_mend 17 = .ok (.bipush 9, 2) := by decide +kernel
theorem dX12_mend_19 : decode cX12_mend 19 = .ok (.invokestatic 99, 3) := by decide +kernel
theorem dX12_mend_22 : decode cX12_mend 22 = .ok (.ifCond .eq 35, 3) := by decide +kernel
theorem dX12_mend_25 : decode cX12_mend 25 = .ok (.iload 4, 2) := by decide +kernel
theorem dX12_mend_27 : decode cX12_mend 27 = .ok (.iconst (-1), 1) := by decide +kernel
theorem dX12_mend_28 : decode cX12_mend 28 = .ok (.aload_n 0, 1) := by decide +kernel
theorem dX12_mend_29 : decode cX12_mend 29 = .ok (.getfield 123, 3) := by decide +kernel
theorem dX12_mend_32 : decode cX12_mend 32 = .ok (.iconst 1, 1) := by decide +kernel
theorem dX12_mend_33 : decode cX12_mend 33 = .ok (.isub, 1) := by decide +kernel
theorem dX12_mend_34 : decode cX12_mend 34 = .ok (.invokestatic 99, 3) := by decide +kernel
theorem dX12_mend_37 : decode cX12_mend 37 = .ok (.ifCond .eq 20, 3) := by decide +kernel
theorem dX12_mend_40 : decode cX12_mend 40 = .ok (.iload 5, 2) := by decide +kernel
theorem dX12_mend_42 : decode cX12_mend 42 = .ok (.iconst 0, 1) := by decide +kernel
theorem dX12_mend_43 : decode cX12_mend 43 = .ok (.iload 6, 2) := by decide +kernel
theorem dX12_mend_45 : decode cX12_mend 45 = .ok (.invokestatic 99, 3) := by decide +kernel
theorem dX12_mend_48 : decode cX12_mend 48 = .ok (.ifCond .eq 9, 3) := by decide +kernel
theorem dX12_mend_51 : decode cX12_mend 51 = .ok (.iload 6, 2) := by decide +kernel
theorem dX12_mend_53 : decode cX12_mend 53 = .ok (.iconst 5, 1) := by decide +kernel
theorem dX12_mend_54 : decode cX12_mend 54 = .ok (.if_icmp .le 5, 3) := by decide +kernel
theorem dX12_mend_57 : decode cX12_mend 57 = .ok (.iconst (-1), 1) := by decide +kernel
theorem dX12_mend_58 : decode cX12_mend 58 = .ok (.ireturn, 1) := by decide +kernel
theorem dX12_mend_59 : decode cX12_mend 59 = .ok (.aload_n 0, 1) := by decide +kernel
theorem dX12_mend_60 : decode cX12_mend 60 = .ok (.getfield 123, 3) := by decide +kernel
theorem dX12_mend_63 : decode cX12_mend 63 = .ok (.bipush 8, 2) := by decide +kernel
theorem dX12_mend_65 : decode cX12_mend 65 = .ok (.if_icmp .ne 6, 3) := by decide +kernel
theorem dX12_mend_68 : decode cX12_mend 68 = .ok (.bipush (-3), 2) := by decide +kernel
theorem dX12_mend_70 : decode cX12_mend 70 = .ok (.ireturn, 1) := by decide +kernel
theorem dX12_mend_71 : decode cX12_mend 71 = .ok (.aload_n 0, 1) := by decide +kernel
theorem dX12_mend_72 : decode cX12_mend 72 = .ok (.getfield 56, 3) := by decide +kernel
theorem dX12_mend_75 : decode cX12_mend 75 = .ok (.aload_n 0, 1) := by decide +kernel
theorem dX12_mend_76 : decode cX12_mend 76 = .ok (.getfield 123, 3) := by decide +kernel
theorem dX12_mend_79 : decode cX12_mend 79 = .ok (.iload_n 1, 1) := by decide +kernel
theorem dX12_mend_80 : decode cX12_mend 80 = .ok (.iastore, 1) := by decide +kernel
theorem dX12_mend_81 : decode cX12_mend 81 = .ok (.aload_n 0, 1) := by decide +kernel
theorem dX12_mend_82 : decode cX12_mend 82 = .ok (.getfield 59, 3) := by decide +kernel
theorem dX12_mend_85 : decode cX12_mend 85 = .ok (.aload_n 0, 1) := by decide +kernel
theorem dX12_mend_86 : decode cX12_mend 86 = .ok (.getfield 123, 3) := by decide +kernel
theorem dX12_mend_89 : decode cX12_mend 89 = .ok (.iload_n 2, 1) := by decide +kernel
theorem dX12_mend_90 : decode cX12_mend 90 = .ok (.iastore, 1) := by decide +kernel
theorem dX12_mend_91 : decode cX12_mend 91 = .ok (.aload_n 0, 1) := by decide +kernel
theorem dX12_mend_92 : decode cX12_mend 92 = .ok (.getfield 62, 3) := by decide +kernel
theorem dX12_mend_95 : decode cX12_mend 95 = .ok (.aload_n 0, 1) := by decide +kernel
theorem dX12_mend_96 : decode cX12_mend 96 = .ok (.getfield 123, 3) := by decide +kernel
theorem dX12_mend_99 : decode cX12_mend 99 = .ok (.iload_n 3, 1) := by decide +kernel
theorem dX12_mend_100 : decode cX12_mend 100 = .ok (.iastore, 1) := by decide +kernel
theorem dX12_mend_101 : decode cX12_mend 101 = .ok (.aload_n 0, 1) := by decide +kernel
theorem dX12_mend_102 : decode cX12_mend 102 = .ok (.getfield 65, 3) := by decide +kernel
theorem dX12_mend_105 : decode cX12_mend 105 = .ok (.aload_n 0, 1) := by decide +kernel
theorem dX12_mend_106 : decode cX12_mend 106 = .ok (.getfield 123, 3) := by decide +kernel
theorem dX12_mend_109 : decode cX12_mend 109 = .ok (.iload 4, 2) := by decide +kernel
theorem dX12_mend_111 : decode cX12_mend 111 = .ok (.iastore, 1) := by decide +kernel
theorem dX12_mend_112 : decode cX12_mend 112 = .ok (.aload_n 0, 1) := by decide +kernel
theorem dX12_mend_113 : decode cX12_mend 113 = .ok (.getfield 68, 3) := by decide +kernel
theorem dX12_mend_116 : decode cX12_mend 116 = .ok (.aload_n 0, 1) := by decide +kernel
theorem dX12_mend_117 : decode cX12_mend 117 = .ok (.getfield 123, 3) := by decide +kernel
theorem dX12_mend_120 : decode cX12_mend 120 = .ok (.iload 5, 2) := by decide +kernel
theorem dX12_mend_122 : decode cX12_mend 122 = .ok (.iastore, 1) := by decide +kernel

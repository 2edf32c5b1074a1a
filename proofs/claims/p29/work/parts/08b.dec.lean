/-! decode rows -/
theorem dX3_init_0 : decode cX3_init 0 = .ok (.aload_n 0, 1) := by decide +kernel
theorem dX3_init_1 : decode cX3_init 1 = .ok (.invokespecial 3, 3) := by decide +kernel
theorem dX3_init_4 : decode cX3_init 4 = .ok (.aload_n 0, 1) := by decide +kernel
theorem dX3_init_5 : decode cX3_init 5 = .ok (.bipush 6, 2) := by decide +kernel
theorem dX3_init_7 : decode cX3_init 7 = .ok (.newarray .int, 2) := by decide +kernel
theorem dX3_init_9 : decode cX3_init 9 = .ok (.putfield 11, 3) := by decide +kernel
theorem dX3_init_12 : decode cX3_init 12 = .ok (.aload_n 0, 1) := by decide +kernel
theorem dX3_init_13 : decode cX3_init 13 = .ok (.bipush 6, 2) := by decide +kernel
theorem dX3_init_15 : decode cX3_init 15 = .ok (.newarray .int, 2) := by decide +kernel
theorem dX3_init_17 : decode cX3_init 17 = .ok (.putfield 15, 3) := by decide +kernel
theorem dX3_init_20 : decode cX3_init 20 = .ok (.aload_n 0, 1) := by decide +kernel
theorem dX3_init_21 : decode cX3_init 21 = .ok (.bipush 6, 2) := by decide +kernel
theorem dX3_init_23 : decode cX3_init 23 = .ok (.newarray .int, 2) := by decide +kernel
theorem dX3_init_25 : decode cX3_init 25 = .ok (.putfield 18, 3) := by decide +kernel
theorem dX3_init_28 : decode cX3_init 28 = .ok (.aload_n 0, 1) := by decide +kernel
theorem dX3_init_29 : decode cX3_init 29 = .ok (.bipush 6, 2) := by decide +kernel
theorem dX3_init_31 : decode cX3_init 31 = .ok (.newarray .boolean, 2) := by decide +kernel
theorem dX3_init_33 : decode cX3_init 33 = .ok (.putfield 21, 3) := by decide +kernel
theorem dX3_init_36 : decode cX3_init 36 = .ok (.aload_n 0, 1) := by decide +kernel
theorem dX3_init_37 : decode cX3_init 37 = .ok (.bipush 6, 2) := by decide +kernel
theorem dX3_init_39 : decode cX3_init 39 = .ok (.newarray .int, 2) := by decide +kernel
theorem dX3_init_41 : decode cX3_init 41 = .ok (.putfield 25, 3) := by decide +kernel
theorem dX3_init_44 : decode cX3_init 44 = .ok (.aload_n 0, 1) := by decide +kernel
theorem dX3_init_45 : decode cX3_init 45 = .ok (.bipush 6, 2) := by decide +kernel
theorem dX3_init_47 : decode cX3_init 47 = .ok (.newarray .int, 2) := by decide +kernel
theorem dX3_init_49 : decode cX3_init 49 = .ok (.putfield 28, 3) := by decide +kernel
theorem dX3_init_52 : decode cX3_init 52 = .ok (.aload_n 0, 1) := by decide +kernel
theorem dX3_init_53 : decode cX3_init 53 = .ok (.bipush 6, 2) := by decide +kernel
theorem dX3_init_55 : decode cX3_init 55 = .ok (.newarray .int, 2) := by decide +kernel
theorem dX3_init_57 : decode cX3_init 57 = .ok (.putfield 31, 3) := by decide +kernel
theorem dX3_init_60 : decode cX3_init 60 = .ok (.aload_n 0, 1) := by decide +kernel
theorem dX3_init_61 : decode cX3_init 61 = .ok (.bipush 6, 2) := by decide +kernel
theorem dX3_init_63 : decode cX3_init 63 = .ok (.newarray .int, 2) := by decide +kernel
theorem dX3_init_65 : decode cX3_init 65 = .ok (.putfield 34, 3) := by decide +kernel
theorem dX3_init_68 : decode cX3_init 68 = .ok (.aload_n 0, 1) := by decide +kernel
theorem dX3_init_69 : decode cX3_init 69 = .ok (.iconst (-1), 1) := by decide +kernel
theorem dX3_init_70 : decode cX3_init 70 = .ok (.putfield 37, 3) := by decide +kernel
theorem dX3_init_73 : decode cX3_init 73 = .ok (.return_, 1) := by decide +kernel
theorem dX3_copyFrom_0 : decode cX3_copyFrom 0 = .ok (.aload_n 1, 1) := by decide +kernel
theorem dX3_copyFrom_1 : decode cX3_copyFrom 1 = .ok (.getfield 11, 3) := by decide +kernel
theorem dX3_copyFrom_4 : decode cX3_copyFrom 4 = .ok (.iconst 0, 1) := by decide +kernel
theorem dX3_copyFrom_5 : decode cX3_copyFrom 5 = .ok (.aload_n 0, 1) := by decide +kernel
theorem dX3_copyFrom_6 : decode cX3_copyFrom 6 = .ok (.getfield 11, 3) := by decide +kernel
theorem dX3_copyFrom_9 : decode cX3_copyFrom 9 = .ok (.iconst 0, 1) := by decide +kernel
theorem dX3_copyFrom_10 : decode cX3_copyFrom 10 = .ok (.bipush 6, 2) := by decide +kernel
theorem dX3_copyFrom_12 : decode cX3_copyFrom 12 = .ok (.invokestatic 41, 3) := by decide +kernel
theorem dX3_copyFrom_15 : decode cX3_copyFrom 15 = .ok (.aload_n 1, 1) := by decide +kernel
theorem dX3_copyFrom_16 : decode cX3_copyFrom 16 = .ok (.getfield 15, 3) := by decide +kernel
theorem dX3_copyFrom_19 : decode cX3_copyFrom 19 = .ok (.iconst 0, 1) := by decide +kernel
theorem dX3_copyFrom_20 : decode cX3_copyFrom 20 = .ok (.aload_n 0, 1) := by decide +kernel
theorem dX3_copyFrom_21 : decode cX3_copyFrom 21 = .ok (.getfield 15, 3) := by decide +kernel
theorem dX3_copyFrom_24 : decode cX3_copyFrom 24 = .ok (.iconst 0, 1) := by decide +kernel
theorem dX3_copyFrom_25 : decode cX3_copyFrom 25 = .ok (.bipush 6, 2) := by decide +kernel
theorem dX3_copyFrom_27 : decode cX3_copyFrom 27 = .ok (.invokestatic 41, 3) := by decide +kernel
theorem dX3_copyFrom_30 : decode cX3_copyFrom 30 = .ok (.aload_n 1, 1) := by decide +kernel
theorem dX3_copyFrom_31 : decode cX3_copyFrom 31 = .ok (.getfield 18, 3) := by decide +kernel
theorem dX3_copyFrom_34 : decode cX3_copyFrom 34 = .ok (.iconst 0, 1) := by decide +kernel
theorem dX3_copyFrom_35 : decode cX3_copyFrom 35 = .ok (.aload_n 0, 1) := by decide +kernel
theorem dX3_copyFrom_36 : decode cX3_copyFrom 36 = .ok (.getfield 18, 3) := by decide +kernel
theorem dX3_copyFrom_39 : decode cX3_copyFrom 39 = .ok (.iconst 0, 1) := by decide +kernel
theorem dX3_copyFrom_40 : decode cX3_copyFrom 40 = .ok (.bipush 6, 2) := by decide +kernel
theorem dX3_copyFrom_42 : decode cX3_copyFrom 42 = .ok (.invokestatic 41, 3) := by decide +kernel
theorem dX3_copyFrom_45 : decode cX3_copyFrom 45 = .ok (.aload_n 1, 1) := by decide +kernel
theorem dX3_copyFrom_46 : decode cX3_copyFrom 46 = .ok (.getfield 21, 3) := by decide +kernel
theorem dX3_copyFrom_49 : decode cX3_copyFrom 49 = .ok (.iconst 0, 1) := by decide +kernel
theorem dX3_copyFrom_50 : decode cX3_copyFrom 50 = .ok (.aload_n 0, 1) := by decide +kernel
theorem dX3_copyFrom_51 : decode cX3_copyFrom 51 = .ok (.getfield 21, 3) := by decide +kernel
theorem dX3_copyFrom_54 : decode cX3_copyFrom 54 = .ok (.iconst 0, 1) := by decide +kernel
theorem dX3_copyFrom_55 : decode cX3_copyFrom 55 = .ok (.bipush 6, 2) := by decide +kernel
theorem dX3_copyFrom_57 : decode cX3_copyFrom 57 = .ok (.invokestatic 41, 3) := by decide +kernel
theorem dX3_copyFrom_60 : decode cX3_copyFrom 60 = .ok (.aload_n 1, 1) := by decide +kernel
theorem dX3_copyFrom_61 : decode cX3_copyFrom 61 = .ok (.getfield 25, 3) := by decide +kernel
theorem dX3_copyFrom_64 : decode cX3_copyFrom 64 = .ok (.iconst 0, 1) := by decide +kernel
theorem dX3_copyFrom_65 : decode cX3_copyFrom 65 = .ok (.aload_n 0, 1) := by decide +kernel
theorem dX3_copyFrom_66 : decode cX3_copyFrom 66 = .ok (.getfield 25, 3) := by decide +kernel
theorem dX3_copyFrom_69 : decode cX3_copyFrom 69 = .ok (.iconst 0, 1) := by decide +kernel
theorem dX3_copyFrom_70 : decode cX3_copyFrom 70 = .ok (.bipush 6, 2) := by decide +kernel
theorem dX3_copyFrom_72 : decode cX3_copyFrom 72 = .ok (.invokestatic 41, 3) := by decide +kernel
theorem dX3_copyFrom_75 : decode cX3_copyFrom 75 = .ok (.aload_n 1, 1) := by decide +kernel
theorem dX3_copyFrom_76 : decode cX3_copyFrom 76 = .ok (.getfield 28, 3) := by decide +kernel
theorem dX3_copyFrom_79 : decode cX3_copyFrom 79 = .ok (.iconst 0, 1) := by decide +kernel
theorem dX3_copyFrom_80 : decode cX3_copyFrom 80 = .ok (.aload_n 0, 1) := by decide +kernel
theorem dX3_copyFrom_81 : decode cX3_copyFrom 81 = .ok (.getfield 28, 3) := by decide +kernel
theorem dX3_copyFrom_84 : decode cX3_copyFrom 84 = .ok (.iconst 0, 1) := by decide +kernel
theorem dX3_copyFrom_85 : decode cX3_copyFrom 85 = .ok (.bipush 6, 2) := by decide +kernel
theorem dX3_copyFrom_87 : decode cX3_copyFrom 87 = .ok (.invokestatic 41, 3) := by decide +kernel
theorem dX3_copyFrom_90 : decode cX3_copyFrom 90 = .ok (.aload_n 1, 1) := by decide +kernel
theorem dX3_copyFrom_91 : decode cX3_copyFrom 91 = .ok (.getfield 31, 3) := by decide +kernel
theorem dX3_copyFrom_94 : decode cX3_copyFrom 94 = .ok (.iconst 0, 1) := by decide +kernel
theorem dX3_copyFrom_95 : decode cX3_copyFrom 95 = .ok (.aload_n 0, 1) := by decide +kernel
theorem dX3_copyFrom_96 : decode cX3_copyFrom 96 = .ok (.getfield 31, 3) := by decide +kernel
theorem dX3_copyFrom_99 : decode cX3_copyFrom 99 = .ok (.iconst 0, 1) := by decide +kernel
theorem dX3_copyFrom_100 : decode cX3_copyFrom 100 = .ok (.bipush 6, 2) := by decide +kernel
theorem dX3_copyFrom_102 : decode cX3_copyFrom 102 = .ok (.invokestatic 41, 3) := by decide +kernel
theorem dX3_copyFrom_105 : decode cX3_copyFrom 105 = .ok (.aload_n 1, 1) := by decide +kernel
theorem dX3_copyFrom_106 : decode cX3_copyFrom 106 = .ok (.getfield 34, 3) := by decide +kernel
theorem dX3_copyFrom_109 : decode cX3_copyFrom 109 = .ok (.iconst 0, 1) := by decide +kernel
theorem dX3_copyFrom_110 : decode cX3_copyFrom 110 = .ok (.aload_n 0, 1) := by decide +kernel
theorem dX3_copyFrom_111 : decode cX3_copyFrom 111 = .ok (.getfield 34, 3) := by decide +kernel
theorem dX3_copyFrom_114 : decode cX3_copyFrom 114 = .ok (.iconst 0, 1) := by decide +kernel
theorem dX3_copyFrom_115 : decode cX3_copyFrom 115 = .ok (.bipush 6, 2) := by decide +kernel
theorem dX3_copyFrom_117 : decode cX3_copyFrom 117 = .ok (.invokestatic 41, 3) := by decide +kernel
theorem dX3_copyFrom_120 : decode cX3_copyFrom 120 = .ok (.aload_n 0, 1) := by decide +kernel
theorem dX3_copyFrom_121 : decode cX3_copyFrom 121 = .ok (.aload_n 1, 1) := by decide +kernel
theorem dX3_copyFrom_122 : decode cX3_copyFrom 122 = .ok (.getfield 47, 3) := by decide +kernel
theorem dX3_copyFrom_125 : decode cX3_copyFrom 125 = .ok (.putfield 47, 3) := by decide +kernel
theorem dX3_copyFrom_128 : decode cX3_copyFrom 128 = .ok (.aload_n 0, 1) := by decide +kernel
theorem dX3_copyFrom_129 : decode cX3_copyFrom 129 = .ok (.aload_n 1, 1) := by decide +kernel
theorem dX3_copyFrom_130 : decode cX3_copyFrom 130 = .ok (.getfield 37, 3) := by decide +kernel
theorem dX3_copyFrom_133 : decode cX3_copyFrom 133 = .ok (.putfield 37, 3) := by decide +kernel
theorem dX3_copyFrom_136 : decode cX3_copyFrom 136 = .ok (.return_, 1) := by decide +kernel
theorem dX3_add_0 : decode cX3_add 0 = .ok (.aload_n 0, 1) := by decide +kernel
theorem dX3_add_1 : decode cX3_add 1 = .ok (.getfield 47, 3) := by decide +kernel
theorem dX3_add_4 : decode cX3_add 4 = .ok (.bipush 6, 2) := by decide +kernel
theorem dX3_add_6 : decode cX3_add 6 = .ok (.if_icmp .lt 5, 3) := by decide +kernel
theorem dX3_add_9 : decode cX3_add 9 = .ok (.iconst (-1), 1) := by decide +kernel
theorem dX3_add_10 : decode cX3_add 10 = .ok (.ireturn, 1) := by decide +kernel
theorem dX3_add_11 : decode cX3_add 11 = .ok (.aload_n 0, 1) := by decide +kernel
theorem dX3_add_12 : decode cX3_add 12 = .ok (.getfield 11, 3) := by decide +kernel
theorem dX3_add_15 : decode cX3_add 15 = .ok (.aload_n 0, 1) := by decide +kernel
theorem dX3_add_16 : decode cX3_add 16 = .ok (.getfield 47, 3) := by decide +kernel
theorem dX3_add_19 : decode cX3_add 19 = .ok (.iload_n 1, 1) := by decide +kernel
theorem dX3_add_20 : decode cX3_add 20 = .ok (.iastore, 1) := by decide +kernel
theorem dX3_add_21 : decode cX3_add 21 = .ok (.aload_n 0, 1) := by decide +kernel
theorem dX3_add_22 : decode cX3_add 22 = .ok (.getfield 15, 3) := by decide +kernel
theorem dX3_add_25 : decode cX3_add 25 = .ok (.aload_n 0, 1) := by decide +kernel
theorem dX3_add_26 : decode cX3_add 26 = .ok (.getfield 47, 3) := by decide +kernel
theorem dX3_add_29 : decode cX3_add 29 = .ok (.iload_n 2, 1) := by decide +kernel
theorem dX3_add_30 : decode cX3_add 30 = .ok (.iastore, 1) := by decide +kernel
theorem dX3_add_31 : decode cX3_add 31 = .ok (.aload_n 0, 1) := by decide +kernel
theorem dX3_add_32 : decode cX3_add 32 = .ok (.getfield 18, 3) := by decide +kernel
theorem dX3_add_35 : decode cX3_add 35 = .ok (.aload_n 0, 1) := by decide +kernel
theorem dX3_add_36 : decode cX3_add 36 = .ok (.getfield 47, 3) := by decide +kernel
theorem dX3_add_39 : decode cX3_add 39 = .ok (.iload_n 3, 1) := by decide +kernel
theorem dX3_add_40 : decode cX3_add 40 = .ok (.iastore, 1) := by decide +kernel
theorem dX3_add_41 : decode cX3_add 41 = .ok (.aload_n 0, 1) := by decide +kernel
theorem dX3_add_42 : decode cX3_add 42 = .ok (.getfield 21, 3) := by decide +kernel
theorem dX3_add_45 : decode cX3_add 45 = .ok (.aload_n 0, 1) := by decide +kernel
theorem dX3_add_46 : decode cX3_add 46 = .ok (.getfield 47, 3) := by decide +kernel
theorem dX3_add_49 : decode cX3_add 49 = .ok (.iconst 1, 1) := by decide +kernel
theorem dX3_add_50 : decode cX3_add 50 = .ok (.bastore, 1) := by decide +kernel
theorem dX3_add_51 : decode cX3_add 51 = .ok (.aload_n 0, 1) := by decide +kernel
theorem dX3_add_52 : decode cX3_add 52 = .ok (.dup, 1) := by decide +kernel
theorem dX3_add_53 : decode cX3_add 53 = .ok (.getfield 47, 3) := by decide +kernel
theorem dX3_add_56 : decode cX3_add 56 = .ok (.iconst 1, 1) := by decide +kernel
theorem dX3_add_57 : decode cX3_add 57 = .ok (.iadd, 1) := by decide +kernel
theorem dX3_add_58 : decode cX3_add 58 = .ok (.putfield 47, 3) := by decide +kernel
theorem dX3_add_61 : decode cX3_add 61 = .ok (.aload_n 0, 1) := by decide +kernel
theorem dX3_add_62 : decode cX3_add 62 = .ok (.getfield 47, 3) := by decide +kernel
theorem dX3_add_65 : decode cX3_add 65 = .ok (.iconst 1, 1) := by decide +kernel
theorem dX3_add_66 : decode cX3_add 66 = .ok (.isub, 1) := by decide +kernel
theorem dX3_add_67 : decode cX3_add 67 = .ok (.ireturn, 1) := by decide +kernel
theorem dX3_has_0 : decode cX3_has 0 = .ok (.iload_n 1, 1) := by decide +kernel
theorem dX3_has_1 : decode cX3_has 1 = .ok (.ifCond .lt 15, 3) := by decide +kernel
theorem dX3_has_4 : decode cX3_has 4 = .ok (.iload_n 1, 1) := by decide +kernel
theorem dX3_has_5 : decode cX3_has 5 = .ok (.aload_n 0, 1) := by decide +kernel
theorem dX3_has_6 : decode cX3_has 6 = .ok (.getfield 47, 3) := by decide +kernel
theorem dX3_has_9 : decode cX3_has 9 = .ok (.if_icmp .ge 7, 3) := by decide +kernel
theorem dX3_has_12 : decode cX3_has 12 = .ok (.iconst 1, 1) := by decide +kernel
theorem dX3_has_13 : decode cX3_has 13 = .ok (.goto 4, 3) := by decide +kernel
theorem dX3_has_16 : decode cX3_has 16 = .ok (.iconst 0, 1) := by decide +kernel
theorem dX3_has_17 : decode cX3_has 17 = .ok (.ireturn, 1) := by decide +kernel
theorem dX3_runs_0 : decode cX3_runs 0 = .ok (.aload_n 0, 1) := by decide +kernel
theorem dX3_runs_1 : decode cX3_runs 1 = .ok (.iload_n 1, 1) := by decide +kernel
theorem dX3_runs_2 : decode cX3_runs 2 = .ok (.invokevirtual 50, 3) := by decide +kernel
theorem dX3_runs_5 : decode cX3_runs 5 = .ok (.ifCond .eq 16, 3) := by decide +kernel
theorem dX3_runs_8 : decode cX3_runs 8 = .ok (.aload_n 0, 1) := by decide +kernel
theorem dX3_runs_9 : decode cX3_runs 9 = .ok (.getfield 25, 3) := by decide +kernel
theorem dX3_runs_12 : decode cX3_runs 12 = .ok (.iload_n 1, 1) := by decide +kernel
theorem dX3_runs_13 : decode cX3_runs 13 = .ok (.iaload, 1) := by decide +kernel
theorem dX3_runs_14 : decode cX3_runs 14 = .ok (.ifCond .le 7, 3) := by decide +kernel
theorem dX3_runs_17 : decode cX3_runs 17 = .ok (.iconst 1, 1) := by decide +kernel
theorem dX3_runs_18 : decode cX3_runs 18 = .ok (.goto 4, 3) := by decide +kernel
theorem dX3_runs_21 : decode cX3_runs 21 = .ok (.iconst 0, 1) := by decide +kernel
theorem dX3_runs_22 : decode cX3_runs 22 = .ok (.ireturn, 1) := by decide +kernel
theorem dX3_isReady_0 : decode cX3_isReady 0 = .ok (.aload_n 0, 1) := by decide +kernel
theorem dX3_isReady_1 : decode cX3_isReady 1 = .ok (.getfield 21, 3) := by decide +kernel
theorem dX3_isReady_4 : decode cX3_isReady 4 = .ok (.iload_n 1, 1) := by decide +kernel
theorem dX3_isReady_5 : decode cX3_isReady 5 = .ok (.baload, 1) := by decide +kernel
theorem dX3_isReady_6 : decode cX3_isReady 6 = .ok (.ifCond .eq 16, 3) := by decide +kernel
theorem dX3_isReady_9 : decode cX3_isReady 9 = .ok (.aload_n 0, 1) := by decide +kernel
theorem dX3_isReady_10 : decode cX3_isReady 10 = .ok (.getfield 25, 3) := by decide +kernel
theorem dX3_isReady_13 : decode cX3_isReady 13 = .ok (.iload_n 1, 1) := by decide +kernel
theorem dX3_isReady_14 : decode cX3_isReady 14 = .ok (.iaload, 1) := by decide +kernel
theorem dX3_isReady_15 : decode cX3_isReady 15 = .ok (.ifCond .ne 7, 3) := by decide +kernel
theorem dX3_isReady_18 : decode cX3_isReady 18 = .ok (.iconst 1, 1) := by decide +kernel
theorem dX3_isReady_19 : decode cX3_isReady 19 = .ok (.goto 4, 3) := by decide +kernel
theorem dX3_isReady_22 : decode cX3_isReady 22 = .ok (.iconst 0, 1) := by decide +kernel
theorem dX3_isReady_23 : decode cX3_isReady 23 = .ok (.ireturn, 1) := by decide +kernel
theorem dX3_hasVariable_0 : decode cX3_hasVariable 0 = .ok (.aload_n 0, 1) := by decide +kernel
theorem dX3_hasVariable_1 : decode cX3_hasVariable 1 = .ok (.aload_n 0, 1) := by decide +kernel
theorem dX3_hasVariable_2 : decode cX3_hasVariable 2 = .ok (.getfield 37, 3) := by decide +kernel
theorem dX3_hasVariable_5 : decode cX3_hasVariable 5 = .ok (.invokevirtual 50, 3) := by decide +kernel
theorem dX3_hasVariable_8 : decode cX3_hasVariable 8 = .ok (.ireturn, 1) := by decide +kernel
theorem dX3_variableAt_0 : decode cX3_variableAt 0 = .ok (.aload_n 0, 1) := by decide +kernel
theorem dX3_variableAt_1 : decode cX3_variableAt 1 = .ok (.aload_n 0, 1) := by decide +kernel
theorem dX3_variableAt_2 : decode cX3_variableAt 2 = .ok (.getfield 37, 3) := by decide +kernel
theorem dX3_variableAt_5 : decode cX3_variableAt 5 = .ok (.invokevirtual 50, 3) := by decide +kernel
theorem dX3_variableAt_8 : decode cX3_variableAt 8 = .ok (.ifCond .eq 20, 3) := by decide +kernel
theorem dX3_variableAt_11 : decode cX3_variableAt 11 = .ok (.aload_n 0, 1) := by decide +kernel
theorem dX3_variableAt_12 : decode cX3_variableAt 12 = .ok (.getfield 25, 3) := by decide +kernel
theorem dX3_variableAt_15 : decode cX3_variableAt 15 = .ok (.aload_n 0, 1) := by decide +kernel
theorem dX3_variableAt_16 : decode cX3_variableAt 16 = .ok (.getfield 37, 3) := by decide +kernel
theorem dX3_variableAt_19 : decode cX3_variableAt 19 = .ok (.iaload, 1) := by decide +kernel
theorem dX3_variableAt_20 : decode cX3_variableAt 20 = .ok (.iload_n 1, 1) := by decide +kernel
theorem dX3_variableAt_21 : decode cX3_variableAt 21 = .ok (.if_icmp .ne 7, 3) := by decide +kernel
theorem dX3_variableAt_24 : decode cX3_variableAt 24 = .ok (.iconst 1, 1) := by decide +kernel
theorem dX3_variableAt_25 : decode cX3_variableAt 25 = .ok (.goto 4, 3) := by decide +kernel
theorem dX3_variableAt_28 : decode cX3_variableAt 28 = .ok (.iconst 0, 1) := by decide +kernel
theorem dX3_variableAt_29 : decode cX3_variableAt 29 = .ok (.ireturn, 1) := by decide +kernel
theorem dX3_running_0 : decode cX3_running 0 = .ok (.iconst 0, 1) := by decide +kernel
theorem dX3_running_1 : decode cX3_running 1 = .ok (.istore_n 1, 1) := by decide +kernel
theorem dX3_running_2 : decode cX3_running 2 = .ok (.iconst 0, 1) := by decide +kernel
theorem dX3_running_3 : decode cX3_running 3 = .ok (.istore_n 2, 1) := by decide +kernel
theorem dX3_running_4 : decode cX3_running 4 = .ok (.iload_n 2, 1) := by decide +kernel
theorem dX3_running_5 : decode cX3_running 5 = .ok (.aload_n 0, 1) := by decide +kernel
theorem dX3_running_6 : decode cX3_running 6 = .ok (.getfield 47, 3) := by decide +kernel
theorem dX3_running_9 : decode cX3_running 9 = .ok (.if_icmp .ge 26, 3) := by decide +kernel
theorem dX3_running_12 : decode cX3_running 12 = .ok (.iload_n 1, 1) := by decide +kernel
theorem dX3_running_13 : decode cX3_running 13 = .ok (.aload_n 0, 1) := by decide +kernel
theorem dX3_running_14 : decode cX3_running 14 = .ok (.getfield 25, 3) := by decide +kernel
theorem dX3_running_17 : decode cX3_running 17 = .ok (.iload_n 2, 1) := by decide +kernel
theorem dX3_running_18 : decode cX3_running 18 = .ok (.iaload, 1) := by decide +kernel
theorem dX3_running_19 : decode cX3_running 19 = .ok (.ifCond .le 7, 3) := by decide +kernel
theorem dX3_running_22 : decode cX3_running 22 = .ok (.iconst 1, 1) := by decide +kernel
theorem dX3_running_23 : decode cX3_running 23 = .ok (.goto 4, 3) := by decide +kernel
theorem dX3_running_26 : decode cX3_running 26 = .ok (.iconst 0, 1) := by decide +kernel
theorem dX3_running_27 : decode cX3_running 27 = .ok (.iadd, 1) := by decide +kernel
theorem dX3_running_28 : decode cX3_running 28 = .ok (.istore_n 1, 1) := by decide +kernel
theorem dX3_running_29 : decode cX3_running 29 = .ok (.iinc 2 1, 3) := by decide +kernel
theorem dX3_running_32 : decode cX3_running 32 = .ok (.goto (-28), 3) := by decide +kernel
theorem dX3_running_35 : decode cX3_running 35 = .ok (.iload_n 1, 1) := by decide +kernel
theorem dX3_running_36 : decode cX3_running 36 = .ok (.ireturn, 1) := by decide +kernel
theorem dX3_readyOnes_0 : decode cX3_readyOnes 0 = .ok (.iconst 0, 1) := by decide +kernel
theorem dX3_readyOnes_1 : decode cX3_readyOnes 1 = .ok (.istore_n 1, 1) := by decide +kernel
theorem dX3_readyOnes_2 : decode cX3_readyOnes 2 = .ok (.iconst 0, 1) := by decide +kernel
theorem dX3_readyOnes_3 : decode cX3_readyOnes 3 = .ok (.istore_n 2, 1) := by decide +kernel
theorem dX3_readyOnes_4 : decode cX3_readyOnes 4 = .ok (.iload_n 2, 1) := by decide +kernel
theorem dX3_readyOnes_5 : decode cX3_readyOnes 5 = .ok (.aload_n 0, 1) := by decide +kernel
theorem dX3_readyOnes_6 : decode cX3_readyOnes 6 = .ok (.getfield 47, 3) := by decide +kernel
theorem dX3_readyOnes_9 : decode cX3_readyOnes 9 = .ok (.if_icmp .ge 25, 3) := by decide +kernel
theorem dX3_readyOnes_12 : decode cX3_readyOnes 12 = .ok (.iload_n 1, 1) := by decide +kernel
theorem dX3_readyOnes_13 : decode cX3_readyOnes 13 = .ok (.aload_n 0, 1) := by decide +kernel
theorem dX3_readyOnes_14 : decode cX3_readyOnes 14 = .ok (.iload_n 2, 1) := by decide +kernel
theorem dX3_readyOnes_15 : decode cX3_readyOnes 15 = .ok (.invokevirtual 54, 3) := by decide +kernel
theorem dX3_readyOnes_18 : decode cX3_readyOnes 18 = .ok (.ifCond .eq 7, 3) := by decide +kernel
theorem dX3_readyOnes_21 : decode cX3_readyOnes 21 = .ok (.iconst 1, 1) := by decide +kernel
theorem dX3_readyOnes_22 : decode cX3_readyOnes 22 = .ok (.goto 4, 3) := by decide +kernel
theorem dX3_readyOnes_25 : decode cX3_readyOnes 25 = .ok (.iconst 0, 1) := by decide +kernel
theorem dX3_readyOnes_26 : decode cX3_readyOnes 26 = .ok (.iadd, 1) := by decide +kernel
theorem dX3_readyOnes_27 : decode cX3_readyOnes 27 = .ok (.istore_n 1, 1) := by decide +kernel
theorem dX3_readyOnes_28 : decode cX3_readyOnes 28 = .ok (.iinc 2 1, 3) := by decide +kernel
theorem dX3_readyOnes_31 : decode cX3_readyOnes 31 = .ok (.goto (-27), 3) := by decide +kernel
theorem dX3_readyOnes_34 : decode cX3_readyOnes 34 = .ok (.iload_n 1, 1) := by decide +kernel
theorem dX3_readyOnes_35 : decode cX3_readyOnes 35 = .ok (.ireturn, 1) := by decide +kernel
theorem dX3_differenceOfMinutes_0 : decode cX3_differenceOfMinutes 0 = .ok (.aload_n 0, 1) := by decide +kernel
theorem dX3_differenceOfMinutes_1 : decode cX3_differenceOfMinutes 1 = .ok (.getfield 28, 3) := by decide +kernel
theorem dX3_differenceOfMinutes_4 : decode cX3_differenceOfMinutes 4 = .ok (.iconst 0, 1) := by decide +kernel
theorem dX3_differenceOfMinutes_5 : decode cX3_differenceOfMinutes 5 = .ok (.iaload, 1) := by decide +kernel
theorem dX3_differenceOfMinutes_6 : decode cX3_differenceOfMinutes 6 = .ok (.istore_n 1, 1) := by decide +kernel
theorem dX3_differenceOfMinutes_7 : decode cX3_differenceOfMinutes 7 = .ok (.aload_n 0, 1) := by decide +kernel
theorem dX3_differenceOfMinutes_8 : decode cX3_differenceOfMinutes 8 = .ok (.getfield 28, 3) := by decide +kernel
theorem dX3_differenceOfMinutes_11 : decode cX3_differenceOfMinutes 11 = .ok (.iconst 0, 1) := by decide +kernel
theorem dX3_differenceOfMinutes_12 : decode cX3_differenceOfMinutes 12 = .ok (.iaload, 1) := by decide +kernel
theorem dX3_differenceOfMinutes_13 : decode cX3_differenceOfMinutes 13 = .ok (.istore_n 2, 1) := by decide +kernel
theorem dX3_differenceOfMinutes_14 : decode cX3_differenceOfMinutes 14 = .ok (.iconst 1, 1) := by decide +kernel
theorem dX3_differenceOfMinutes_15 : decode cX3_differenceOfMinutes 15 = .ok (.istore_n 3, 1) := by decide +kernel
theorem dX3_differenceOfMinutes_16 : decode cX3_differenceOfMinutes 16 = .ok (.iload_n 3, 1) := by decide +kernel
theorem dX3_differenceOfMinutes_17 : decode cX3_differenceOfMinutes 17 = .ok (.aload_n 0, 1) := by decide +kernel
theorem dX3_differenceOfMinutes_18 : decode cX3_differenceOfMinutes 18 = .ok (.getfield 47, 3) := by decide +kernel
theorem dX3_differenceOfMinutes_21 : decode cX3_differenceOfMinutes 21 = .ok (.if_icmp .ge 31, 3) := by decide +kernel
theorem dX3_differenceOfMinutes_24 : decode cX3_differenceOfMinutes 24 = .ok (.iload_n 1, 1) := by decide +kernel
theorem dX3_differenceOfMinutes_25 : decode cX3_differenceOfMinutes 25 = .ok (.aload_n 0, 1) := by decide +kernel
theorem dX3_differenceOfMinutes_26 : decode cX3_differenceOfMinutes 26 = .ok (.getfield 28, 3) := by decide +kernel
theorem dX3_differenceOfMinutes_29 : decode cX3_differenceOfMinutes 29 = .ok (.iload_n 3, 1) := by decide +kernel
theorem dX3_differenceOfMinutes_30 : decode cX3_differenceOfMinutes 30 = .ok (.iaload, 1) := by decide +kernel
theorem dX3_differenceOfMinutes_31 : decode cX3_differenceOfMinutes 31 = .ok (.invokestatic 57, 3) := by decide +kernel
theorem dX3_differenceOfMinutes_34 : decode cX3_differenceOfMinutes 34 = .ok (.istore_n 1, 1) := by decide +kernel
theorem dX3_differenceOfMinutes_35 : decode cX3_differenceOfMinutes 35 = .ok (.iload_n 2, 1) := by decide +kernel
theorem dX3_differenceOfMinutes_36 : decode cX3_differenceOfMinutes 36 = .ok (.aload_n 0, 1) := by decide +kernel
theorem dX3_differenceOfMinutes_37 : decode cX3_differenceOfMinutes 37 = .ok (.getfield 28, 3) := by decide +kernel
theorem dX3_differenceOfMinutes_40 : decode cX3_differenceOfMinutes 40 = .ok (.iload_n 3, 1) := by decide +kernel
theorem dX3_differenceOfMinutes_41 : decode cX3_differenceOfMinutes 41 = .ok (.iaload, 1) := by decide +kernel
theorem dX3_differenceOfMinutes_42 : decode cX3_differenceOfMinutes 42 = .ok (.invokestatic 63, 3) := by decide +kernel
theorem dX3_differenceOfMinutes_45 : decode cX3_differenceOfMinutes 45 = .ok (.istore_n 2, 1) := by decide +kernel
theorem dX3_differenceOfMinutes_46 : decode cX3_differenceOfMinutes 46 = .ok (.iinc 3 1, 3) := by decide +kernel
theorem dX3_differenceOfMinutes_49 : decode cX3_differenceOfMinutes 49 = .ok (.goto (-33), 3) := by decide +kernel
theorem dX3_differenceOfMinutes_52 : decode cX3_differenceOfMinutes 52 = .ok (.iload_n 2, 1) := by decide +kernel
theorem dX3_differenceOfMinutes_53 : decode cX3_differenceOfMinutes 53 = .ok (.iload_n 1, 1) := by decide +kernel
theorem dX3_differenceOfMinutes_54 : decode cX3_differenceOfMinutes 54 = .ok (.isub, 1) := by decide +kernel
theorem dX3_differenceOfMinutes_55 : decode cX3_differenceOfMinutes 55 = .ok (.ireturn, 1) := by decide +kernel
theorem dX3_flowOf_0 : decode cX3_flowOf 0 = .ok (.aload_n 0, 1) := by decide +kernel
theorem dX3_flowOf_1 : decode cX3_flowOf 1 = .ok (.getfield 15, 3) := by decide +kernel
theorem dX3_flowOf_4 : decode cX3_flowOf 4 = .ok (.iload_n 1, 1) := by decide +kernel
theorem dX3_flowOf_5 : decode cX3_flowOf 5 = .ok (.iaload, 1) := by decide +kernel
theorem dX3_flowOf_6 : decode cX3_flowOf 6 = .ok (.iload_n 2, 1) := by decide +kernel
theorem dX3_flowOf_7 : decode cX3_flowOf 7 = .ok (.imul, 1) := by decide +kernel
theorem dX3_flowOf_8 : decode cX3_flowOf 8 = .ok (.iload_n 2, 1) := by decide +kernel
theorem dX3_flowOf_9 : decode cX3_flowOf 9 = .ok (.imul, 1) := by decide +kernel
theorem dX3_flowOf_10 : decode cX3_flowOf 10 = .ok (.ldc 66, 2) := by decide +kernel
theorem dX3_flowOf_12 : decode cX3_flowOf 12 = .ok (.idiv, 1) := by decide +kernel
theorem dX3_flowOf_13 : decode cX3_flowOf 13 = .ok (.istore 4, 2) := by decide +kernel
theorem dX3_flowOf_15 : decode cX3_flowOf 15 = .ok (.aload_n 0, 1) := by decide +kernel
theorem dX3_flowOf_16 : decode cX3_flowOf 16 = .ok (.getfield 18, 3) := by decide +kernel
theorem dX3_flowOf_19 : decode cX3_flowOf 19 = .ok (.iload_n 1, 1) := by decide +kernel
theorem dX3_flowOf_20 : decode cX3_flowOf 20 = .ok (.iaload, 1) := by decide +kernel
theorem dX3_flowOf_21 : decode cX3_flowOf 21 = .ok (.istore 5, 2) := by decide +kernel
theorem dX3_flowOf_23 : decode cX3_flowOf 23 = .ok (.iload 4, 2) := by decide +kernel
theorem dX3_flowOf_25 : decode cX3_flowOf 25 = .ok (.iload_n 3, 1) := by decide +kernel
theorem dX3_flowOf_26 : decode cX3_flowOf 26 = .ok (.if_icmp .le 8, 3) := by decide +kernel
theorem dX3_flowOf_29 : decode cX3_flowOf 29 = .ok (.iload 5, 2) := by decide +kernel
theorem dX3_flowOf_31 : decode cX3_flowOf 31 = .ok (.ifCond .gt 5, 3) := by decide +kernel
theorem dX3_flowOf_34 : decode cX3_flowOf 34 = .ok (.iconst 0, 1) := by decide +kernel
theorem dX3_flowOf_35 : decode cX3_flowOf 35 = .ok (.ireturn, 1) := by decide +kernel
theorem dX3_flowOf_36 : decode cX3_flowOf 36 = .ok (.iload 4, 2) := by decide +kernel
theorem dX3_flowOf_38 : decode cX3_flowOf 38 = .ok (.iload_n 3, 1) := by decide +kernel
theorem dX3_flowOf_39 : decode cX3_flowOf 39 = .ok (.isub, 1) := by decide +kernel
theorem dX3_flowOf_40 : decode cX3_flowOf 40 = .ok (.sipush 1000, 3) := by decide +kernel
theorem dX3_flowOf_43 : decode cX3_flowOf 43 = .ok (.imul, 1) := by decide +kernel
theorem dX3_flowOf_44 : decode cX3_flowOf 44 = .ok (.iload 5, 2) := by decide +kernel
theorem dX3_flowOf_46 : decode cX3_flowOf 46 = .ok (.idiv, 1) := by decide +kernel
theorem dX3_flowOf_47 : decode cX3_flowOf 47 = .ok (.invokestatic 67, 3) := by decide +kernel
theorem dX3_flowOf_50 : decode cX3_flowOf 50 = .ok (.ireturn, 1) := by decide +kernel
theorem dX3_flow_0 : decode cX3_flow 0 = .ok (.iconst 0, 1) := by decide +kernel
theorem dX3_flow_1 : decode cX3_flow 1 = .ok (.istore_n 2, 1) := by decide +kernel
theorem dX3_flow_2 : decode cX3_flow 2 = .ok (.iconst 0, 1) := by decide +kernel
theorem dX3_flow_3 : decode cX3_flow 3 = .ok (.istore_n 3, 1) := by decide +kernel
theorem dX3_flow_4 : decode cX3_flow 4 = .ok (.iload_n 3, 1) := by decide +kernel
theorem dX3_flow_5 : decode cX3_flow 5 = .ok (.aload_n 0, 1) := by decide +kernel
theorem dX3_flow_6 : decode cX3_flow 6 = .ok (.getfield 47, 3) := by decide +kernel
theorem dX3_flow_9 : decode cX3_flow 9 = .ok (.if_icmp .ge 24, 3) := by decide +kernel
theorem dX3_flow_12 : decode cX3_flow 12 = .ok (.iload_n 2, 1) := by decide +kernel
theorem dX3_flow_13 : decode cX3_flow 13 = .ok (.aload_n 0, 1) := by decide +kernel
theorem dX3_flow_14 : decode cX3_flow 14 = .ok (.iload_n 3, 1) := by decide +kernel
theorem dX3_flow_15 : decode cX3_flow 15 = .ok (.aload_n 0, 1) := by decide +kernel
theorem dX3_flow_16 : decode cX3_flow 16 = .ok (.getfield 25, 3) := by decide +kernel
theorem dX3_flow_19 : decode cX3_flow 19 = .ok (.iload_n 3, 1) := by decide +kernel
theorem dX3_flow_20 : decode cX3_flow 20 = .ok (.iaload, 1) := by decide +kernel
theorem dX3_flow_21 : decode cX3_flow 21 = .ok (.iload_n 1, 1) := by decide +kernel
theorem dX3_flow_22 : decode cX3_flow 22 = .ok (.invokevirtual 71, 3) := by decide +kernel
theorem dX3_flow_25 : decode cX3_flow 25 = .ok (.iadd, 1) := by decide +kernel
theorem dX3_flow_26 : decode cX3_flow 26 = .ok (.istore_n 2, 1) := by decide +kernel
theorem dX3_flow_27 : decode cX3_flow 27 = .ok (.iinc 3 1, 3) := by decide +kernel
theorem dX3_flow_30 : decode cX3_flow 30 = .ok (.goto (-26), 3) := by decide +kernel
theorem dX3_flow_33 : decode cX3_flow 33 = .ok (.iload_n 2, 1) := by decide +kernel
theorem dX3_flow_34 : decode cX3_flow 34 = .ok (.ireturn, 1) := by decide +kernel
theorem dX3_root_0 : decode cX3_root 0 = .ok (.iconst 0, 1) := by decide +kernel
theorem dX3_root_1 : decode cX3_root 1 = .ok (.istore_n 1, 1) := by decide +kernel
theorem dX3_root_2 : decode cX3_root 2 = .ok (.sipush 1024, 3) := by decide +kernel
theorem dX3_root_5 : decode cX3_root 5 = .ok (.istore_n 2, 1) := by decide +kernel
theorem dX3_root_6 : decode cX3_root 6 = .ok (.iload_n 2, 1) := by decide +kernel
theorem dX3_root_7 : decode cX3_root 7 = .ok (.ifCond .le 23, 3) := by decide +kernel
theorem dX3_root_10 : decode cX3_root 10 = .ok (.iload_n 1, 1) := by decide +kernel
theorem dX3_root_11 : decode cX3_root 11 = .ok (.iload_n 2, 1) := by decide +kernel
theorem dX3_root_12 : decode cX3_root 12 = .ok (.iadd, 1) := by decide +kernel
theorem dX3_root_13 : decode cX3_root 13 = .ok (.istore_n 3, 1) := by decide +kernel
theorem dX3_root_14 : decode cX3_root 14 = .ok (.iload_n 3, 1) := by decide +kernel
theorem dX3_root_15 : decode cX3_root 15 = .ok (.iload_n 3, 1) := by decide +kernel
theorem dX3_root_16 : decode cX3_root 16 = .ok (.imul, 1) := by decide +kernel
theorem dX3_root_17 : decode cX3_root 17 = .ok (.iload_n 0, 1) := by decide +kernel
theorem dX3_root_18 : decode cX3_root 18 = .ok (.if_icmp .gt 5, 3) := by decide +kernel
theorem dX3_root_21 : decode cX3_root 21 = .ok (.iload_n 3, 1) := by decide +kernel
theorem dX3_root_22 : decode cX3_root 22 = .ok (.istore_n 1, 1) := by decide +kernel
theorem dX3_root_23 : decode cX3_root 23 = .ok (.iload_n 2, 1) := by decide +kernel
theorem dX3_root_24 : decode cX3_root 24 = .ok (.iconst 2, 1) := by decide +kernel
theorem dX3_root_25 : decode cX3_root 25 = .ok (.idiv, 1) := by decide +kernel
theorem dX3_root_26 : decode cX3_root 26 = .ok (.istore_n 2, 1) := by decide +kernel
theorem dX3_root_27 : decode cX3_root 27 = .ok (.goto (-21), 3) := by decide +kernel
theorem dX3_root_30 : decode cX3_root 30 = .ok (.iload_n 1, 1) := by decide +kernel
theorem dX3_root_31 : decode cX3_root 31 = .ok (.ireturn, 1) := by decide +kernel
theorem dX3_countMinute_0 : decode cX3_countMinute 0 = .ok (.iconst 0, 1) := by decide +kernel
theorem dX3_countMinute_1 : decode cX3_countMinute 1 = .ok (.istore_n 1, 1) := by decide +kernel
theorem dX3_countMinute_2 : decode cX3_countMinute 2 = .ok (.iload_n 1, 1) := by decide +kernel
theorem dX3_countMinute_3 : decode cX3_countMinute 3 = .ok (.aload_n 0, 1) := by decide +kernel
theorem dX3_countMinute_4 : decode cX3_countMinute 4 = .ok (.getfield 47, 3) := by decide +kernel
theorem dX3_countMinute_7 : decode cX3_countMinute 7 = .ok (.if_icmp .ge 38, 3) := by decide +kernel
theorem dX3_countMinute_10 : decode cX3_countMinute 10 = .ok (.aload_n 0, 1) := by decide +kernel
theorem dX3_countMinute_11 : decode cX3_countMinute 11 = .ok (.getfield 25, 3) := by decide +kernel
theorem dX3_countMinute_14 : decode cX3_countMinute 14 = .ok (.iload_n 1, 1) := by decide +kernel
theorem dX3_countMinute_15 : decode cX3_countMinute 15 = .ok (.iaload, 1) := by decide +kernel
theorem dX3_countMinute_16 : decode cX3_countMinute 16 = .ok (.ifCond .le 23, 3) := by decide +kernel
theorem dX3_countMinute_19 : decode cX3_countMinute 19 = .ok (.aload_n 0, 1) := by decide +kernel
theorem dX3_countMinute_20 : decode cX3_countMinute 20 = .ok (.getfield 28, 3) := by decide +kernel
theorem dX3_countMinute_23 : decode cX3_countMinute 23 = .ok (.iload_n 1, 1) := by decide +kernel
theorem dX3_countMinute_24 : decode cX3_countMinute 24 = .ok (.dup2, 1) := by decide +kernel
theorem dX3_countMinute_25 : decode cX3_countMinute 25 = .ok (.iaload, 1) := by decide +kernel
theorem dX3_countMinute_26 : decode cX3_countMinute 26 = .ok (.iconst 1, 1) := by decide +kernel
theorem dX3_countMinute_27 : decode cX3_countMinute 27 = .ok (.iadd, 1) := by decide +kernel
theorem dX3_countMinute_28 : decode cX3_countMinute 28 = .ok (.iastore, 1) := by decide +kernel
theorem dX3_countMinute_29 : decode cX3_countMinute 29 = .ok (.aload_n 0, 1) := by decide +kernel
theorem dX3_countMinute_30 : decode cX3_countMinute 30 = .ok (.getfield 31, 3) := by decide +kernel
theorem dX3_countMinute_33 : decode cX3_countMinute 33 = .ok (.iload_n 1, 1) := by decide +kernel
theorem dX3_countMinute_34 : decode cX3_countMinute 34 = .ok (.dup2, 1) := by decide +kernel
theorem dX3_countMinute_35 : decode cX3_countMinute 35 = .ok (.iaload, 1) := by decide +kernel
theorem dX3_countMinute_36 : decode cX3_countMinute 36 = .ok (.iconst 1, 1) := by decide +kernel
theorem dX3_countMinute_37 : decode cX3_countMinute 37 = .ok (.iadd, 1) := by decide +kernel
theorem dX3_countMinute_38 : decode cX3_countMinute 38 = .ok (.iastore, 1) := by decide +kernel
theorem dX3_countMinute_39 : decode cX3_countMinute 39 = .ok (.iinc 1 1, 3) := by decide +kernel
theorem dX3_countMinute_42 : decode cX3_countMinute 42 = .ok (.goto (-40), 3) := by decide +kernel
theorem dX3_countMinute_45 : decode cX3_countMinute 45 = .ok (.return_, 1) := by decide +kernel
theorem dX3_readyInOrder_0 : decode cX3_readyInOrder 0 = .ok (.aload_n 0, 1) := by decide +kernel
theorem dX3_readyInOrder_1 : decode cX3_readyInOrder 1 = .ok (.invokevirtual 75, 3) := by decide +kernel
theorem dX3_readyInOrder_4 : decode cX3_readyInOrder 4 = .ok (.ifCond .ne 7, 3) := by decide +kernel
theorem dX3_readyInOrder_7 : decode cX3_readyInOrder 7 = .ok (.iconst 1, 1) := by decide +kernel
theorem dX3_readyInOrder_8 : decode cX3_readyInOrder 8 = .ok (.goto 4, 3) := by decide +kernel
theorem dX3_readyInOrder_11 : decode cX3_readyInOrder 11 = .ok (.iconst 0, 1) := by decide +kernel
theorem dX3_readyInOrder_12 : decode cX3_readyInOrder 12 = .ok (.istore_n 2, 1) := by decide +kernel
theorem dX3_readyInOrder_13 : decode cX3_readyInOrder 13 = .ok (.iconst 0, 1) := by decide +kernel
theorem dX3_readyInOrder_14 : decode cX3_readyInOrder 14 = .ok (.istore_n 3, 1) := by decide +kernel
theorem dX3_readyInOrder_15 : decode cX3_readyInOrder 15 = .ok (.iload_n 3, 1) := by decide +kernel
theorem dX3_readyInOrder_16 : decode cX3_readyInOrder 16 = .ok (.aload_n 0, 1) := by decide +kernel
theorem dX3_readyInOrder_17 : decode cX3_readyInOrder 17 = .ok (.getfield 47, 3) := by decide +kernel
theorem dX3_readyInOrder_20 : decode cX3_readyInOrder 20 = .ok (.if_icmp .ge 29, 3) := by decide +kernel
theorem dX3_readyInOrder_23 : decode cX3_readyInOrder 23 = .ok (.aload_n 0, 1) := by decide +kernel
theorem dX3_readyInOrder_24 : decode cX3_readyInOrder 24 = .ok (.iload_n 3, 1) := by decide +kernel
theorem dX3_readyInOrder_25 : decode cX3_readyInOrder 25 = .ok (.invokevirtual 54, 3) := by decide +kernel
theorem dX3_readyInOrder_28 : decode cX3_readyInOrder 28 = .ok (.ifCond .eq 15, 3) := by decide +kernel
theorem dX3_readyInOrder_31 : decode cX3_readyInOrder 31 = .ok (.aload_n 0, 1) := by decide +kernel
theorem dX3_readyInOrder_32 : decode cX3_readyInOrder 32 = .ok (.iload_n 3, 1) := by decide +kernel
theorem dX3_readyInOrder_33 : decode cX3_readyInOrder 33 = .ok (.iload_n 2, 1) := by decide +kernel
theorem dX3_readyInOrder_34 : decode cX3_readyInOrder 34 = .ok (.invokevirtual 79, 3) := by decide +kernel
theorem dX3_readyInOrder_37 : decode cX3_readyInOrder 37 = .ok (.iload_n 1, 1) := by decide +kernel
theorem dX3_readyInOrder_38 : decode cX3_readyInOrder 38 = .ok (.if_icmp .ne 5, 3) := by decide +kernel
theorem dX3_readyInOrder_41 : decode cX3_readyInOrder 41 = .ok (.iload_n 3, 1) := by decide +kernel
theorem dX3_readyInOrder_42 : decode cX3_readyInOrder 42 = .ok (.ireturn, 1) := by decide +kernel
theorem dX3_readyInOrder_43 : decode cX3_readyInOrder 43 = .ok (.iinc 3 1, 3) := by decide +kernel
theorem dX3_readyInOrder_46 : decode cX3_readyInOrder 46 = .ok (.goto (-31), 3) := by decide +kernel
theorem dX3_readyInOrder_49 : decode cX3_readyInOrder 49 = .ok (.iconst (-1), 1) := by decide +kernel
theorem dX3_readyInOrder_50 : decode cX3_readyInOrder 50 = .ok (.ireturn, 1) := by decide +kernel
theorem dX3_readyAhead_0 : decode cX3_readyAhead 0 = .ok (.iconst 0, 1) := by decide +kernel
theorem dX3_readyAhead_1 : decode cX3_readyAhead 1 = .ok (.istore_n 3, 1) := by decide +kernel
theorem dX3_readyAhead_2 : decode cX3_readyAhead 2 = .ok (.iconst 0, 1) := by decide +kernel
theorem dX3_readyAhead_3 : decode cX3_readyAhead 3 = .ok (.istore 4, 2) := by decide +kernel
theorem dX3_readyAhead_5 : decode cX3_readyAhead 5 = .ok (.iload 4, 2) := by decide +kernel
theorem dX3_readyAhead_7 : decode cX3_readyAhead 7 = .ok (.aload_n 0, 1) := by decide +kernel
theorem dX3_readyAhead_8 : decode cX3_readyAhead 8 = .ok (.getfield 47, 3) := by decide +kernel
theorem dX3_readyAhead_11 : decode cX3_readyAhead 11 = .ok (.if_icmp .ge 37, 3) := by decide +kernel
theorem dX3_readyAhead_14 : decode cX3_readyAhead 14 = .ok (.iload_n 3, 1) := by decide +kernel
theorem dX3_readyAhead_15 : decode cX3_readyAhead 15 = .ok (.aload_n 0, 1) := by decide +kernel
theorem dX3_readyAhead_16 : decode cX3_readyAhead 16 = .ok (.iload 4, 2) := by decide +kernel
theorem dX3_readyAhead_18 : decode cX3_readyAhead 18 = .ok (.invokevirtual 54, 3) := by decide +kernel
theorem dX3_readyAhead_21 : decode cX3_readyAhead 21 = .ok (.ifCond .eq 18, 3) := by decide +kernel
theorem dX3_readyAhead_24 : decode cX3_readyAhead 24 = .ok (.aload_n 0, 1) := by decide +kernel
theorem dX3_readyAhead_25 : decode cX3_readyAhead 25 = .ok (.iload 4, 2) := by decide +kernel
theorem dX3_readyAhead_27 : decode cX3_readyAhead 27 = .ok (.iload_n 1, 1) := by decide +kernel
theorem dX3_readyAhead_28 : decode cX3_readyAhead 28 = .ok (.iload_n 2, 1) := by decide +kernel
theorem dX3_readyAhead_29 : decode cX3_readyAhead 29 = .ok (.invokevirtual 83, 3) := by decide +kernel
theorem dX3_readyAhead_32 : decode cX3_readyAhead 32 = .ok (.ifCond .eq 7, 3) := by decide +kernel
theorem dX3_readyAhead_35 : decode cX3_readyAhead 35 = .ok (.iconst 1, 1) := by decide +kernel
theorem dX3_readyAhead_36 : decode cX3_readyAhead 36 = .ok (.goto 4, 3) := by decide +kernel
theorem dX3_readyAhead_39 : decode cX3_readyAhead 39 = .ok (.iconst 0, 1) := by decide +kernel
theorem dX3_readyAhead_40 : decode cX3_readyAhead 40 = .ok (.iadd, 1) := by decide +kernel
theorem dX3_readyAhead_41 : decode cX3_readyAhead 41 = .ok (.istore_n 3, 1) := by decide +kernel
theorem dX3_readyAhead_42 : decode cX3_readyAhead 42 = .ok (.iinc 4 1, 3) := by decide +kernel
theorem dX3_readyAhead_45 : decode cX3_readyAhead 45 = .ok (.goto (-40), 3) := by decide +kernel
theorem dX3_readyAhead_48 : decode cX3_readyAhead 48 = .ok (.iload_n 3, 1) := by decide +kernel
theorem dX3_readyAhead_49 : decode cX3_readyAhead 49 = .ok (.ireturn, 1) := by decide +kernel
theorem dX3_isAhead_0 : decode cX3_isAhead 0 = .ok (.aload_n 0, 1) := by decide +kernel
theorem dX3_isAhead_1 : decode cX3_isAhead 1 = .ok (.getfield 11, 3) := by decide +kernel
theorem dX3_isAhead_4 : decode cX3_isAhead 4 = .ok (.iload_n 1, 1) := by decide +kernel
theorem dX3_isAhead_5 : decode cX3_isAhead 5 = .ok (.iaload, 1) := by decide +kernel
theorem dX3_isAhead_6 : decode cX3_isAhead 6 = .ok (.iconst 2, 1) := by decide +kernel
theorem dX3_isAhead_7 : decode cX3_isAhead 7 = .ok (.if_icmp .ne 7, 3) := by decide +kernel
theorem dX3_isAhead_10 : decode cX3_isAhead 10 = .ok (.iconst 1, 1) := by decide +kernel
theorem dX3_isAhead_11 : decode cX3_isAhead 11 = .ok (.goto 4, 3) := by decide +kernel
theorem dX3_isAhead_14 : decode cX3_isAhead 14 = .ok (.iconst 0, 1) := by decide +kernel
theorem dX3_isAhead_15 : decode cX3_isAhead 15 = .ok (.istore 4, 2) := by decide +kernel
theorem dX3_isAhead_17 : decode cX3_isAhead 17 = .ok (.iload 4, 2) := by decide +kernel
theorem dX3_isAhead_19 : decode cX3_isAhead 19 = .ok (.aload_n 0, 1) := by decide +kernel
theorem dX3_isAhead_20 : decode cX3_isAhead 20 = .ok (.getfield 11, 3) := by decide +kernel
theorem dX3_isAhead_23 : decode cX3_isAhead 23 = .ok (.iload_n 2, 1) := by decide +kernel
theorem dX3_isAhead_24 : decode cX3_isAhead 24 = .ok (.iaload, 1) := by decide +kernel
theorem dX3_isAhead_25 : decode cX3_isAhead 25 = .ok (.iconst 2, 1) := by decide +kernel
theorem dX3_isAhead_26 : decode cX3_isAhead 26 = .ok (.if_icmp .ne 7, 3) := by decide +kernel
theorem dX3_isAhead_29 : decode cX3_isAhead 29 = .ok (.iconst 1, 1) := by decide +kernel
theorem dX3_isAhead_30 : decode cX3_isAhead 30 = .ok (.goto 4, 3) := by decide +kernel
theorem dX3_isAhead_33 : decode cX3_isAhead 33 = .ok (.iconst 0, 1) := by decide +kernel
theorem dX3_isAhead_34 : decode cX3_isAhead 34 = .ok (.if_icmp .eq 15, 3) := by decide +kernel
theorem dX3_isAhead_37 : decode cX3_isAhead 37 = .ok (.iload 4, 2) := by decide +kernel
theorem dX3_isAhead_39 : decode cX3_isAhead 39 = .ok (.iload_n 3, 1) := by decide +kernel
theorem dX3_isAhead_40 : decode cX3_isAhead 40 = .ok (.if_icmp .ne 7, 3) := by decide +kernel
theorem dX3_isAhead_43 : decode cX3_isAhead 43 = .ok (.iconst 1, 1) := by decide +kernel
theorem dX3_isAhead_44 : decode cX3_isAhead 44 = .ok (.goto 4, 3) := by decide +kernel
theorem dX3_isAhead_47 : decode cX3_isAhead 47 = .ok (.iconst 0, 1) := by decide +kernel
theorem dX3_isAhead_48 : decode cX3_isAhead 48 = .ok (.ireturn, 1) := by decide +kernel
theorem dX3_isAhead_49 : decode cX3_isAhead 49 = .ok (.aload_n 0, 1) := by decide +kernel
theorem dX3_isAhead_50 : decode cX3_isAhead 50 = .ok (.getfield 28, 3) := by decide +kernel
theorem dX3_isAhead_53 : decode cX3_isAhead 53 = .ok (.iload_n 1, 1) := by decide +kernel
theorem dX3_isAhead_54 : decode cX3_isAhead 54 = .ok (.iaload, 1) := by decide +kernel
theorem dX3_isAhead_55 : decode cX3_isAhead 55 = .ok (.aload_n 0, 1) := by decide +kernel
theorem dX3_isAhead_56 : decode cX3_isAhead 56 = .ok (.getfield 28, 3) := by decide +kernel
theorem dX3_isAhead_59 : decode cX3_isAhead 59 = .ok (.iload_n 2, 1) := by decide +kernel
theorem dX3_isAhead_60 : decode cX3_isAhead 60 = .ok (.iaload, 1) := by decide +kernel
theorem dX3_isAhead_61 : decode cX3_isAhead 61 = .ok (.if_icmp .eq 24, 3) := by decide +kernel
theorem dX3_isAhead_64 : decode cX3_isAhead 64 = .ok (.aload_n 0, 1) := by decide +kernel
theorem dX3_isAhead_65 : decode cX3_isAhead 65 = .ok (.getfield 28, 3) := by decide +kernel
theorem dX3_isAhead_68 : decode cX3_isAhead 68 = .ok (.iload_n 1, 1) := by decide +kernel
theorem dX3_isAhead_69 : decode cX3_isAhead 69 = .ok (.iaload, 1) := by decide +kernel
theorem dX3_isAhead_70 : decode cX3_isAhead 70 = .ok (.aload_n 0, 1) := by decide +kernel
theorem dX3_isAhead_71 : decode cX3_isAhead 71 = .ok (.getfield 28, 3) := by decide +kernel
theorem dX3_isAhead_74 : decode cX3_isAhead 74 = .ok (.iload_n 2, 1) := by decide +kernel
theorem dX3_isAhead_75 : decode cX3_isAhead 75 = .ok (.iaload, 1) := by decide +kernel
theorem dX3_isAhead_76 : decode cX3_isAhead 76 = .ok (.if_icmp .ge 7, 3) := by decide +kernel
theorem dX3_isAhead_79 : decode cX3_isAhead 79 = .ok (.iconst 1, 1) := by decide +kernel
theorem dX3_isAhead_80 : decode cX3_isAhead 80 = .ok (.goto 4, 3) := by decide +kernel
theorem dX3_isAhead_83 : decode cX3_isAhead 83 = .ok (.iconst 0, 1) := by decide +kernel
theorem dX3_isAhead_84 : decode cX3_isAhead 84 = .ok (.ireturn, 1) := by decide +kernel
theorem dX3_isAhead_85 : decode cX3_isAhead 85 = .ok (.iload_n 1, 1) := by decide +kernel
theorem dX3_isAhead_86 : decode cX3_isAhead 86 = .ok (.iload_n 2, 1) := by decide +kernel
theorem dX3_isAhead_87 : decode cX3_isAhead 87 = .ok (.if_icmp .ge 7, 3) := by decide +kernel
theorem dX3_isAhead_90 : decode cX3_isAhead 90 = .ok (.iconst 1, 1) := by decide +kernel
theorem dX3_isAhead_91 : decode cX3_isAhead 91 = .ok (.goto 4, 3) := by decide +kernel
theorem dX3_isAhead_94 : decode cX3_isAhead 94 = .ok (.iconst 0, 1) := by decide +kernel
theorem dX3_isAhead_95 : decode cX3_isAhead 95 = .ok (.ireturn, 1) := by decide +kernel
theorem dX3_start_0 : decode cX3_start 0 = .ok (.aload_n 0, 1) := by decide +kernel
theorem dX3_start_1 : decode cX3_start 1 = .ok (.iload_n 1, 1) := by decide +kernel
theorem dX3_start_2 : decode cX3_start 2 = .ok (.invokevirtual 50, 3) := by decide +kernel
theorem dX3_start_5 : decode cX3_start 5 = .ok (.ifCond .ne 4, 3) := by decide +kernel
theorem dX3_start_8 : decode cX3_start 8 = .ok (.return_, 1) := by decide +kernel
theorem dX3_start_9 : decode cX3_start 9 = .ok (.aload_n 0, 1) := by decide +kernel
theorem dX3_start_10 : decode cX3_start 10 = .ok (.getfield 34, 3) := by decide +kernel
theorem dX3_start_13 : decode cX3_start 13 = .ok (.iload_n 1, 1) := by decide +kernel
theorem dX3_start_14 : decode cX3_start 14 = .ok (.dup2, 1) := by decide +kernel
theorem dX3_start_15 : decode cX3_start 15 = .ok (.iaload, 1) := by decide +kernel
theorem dX3_start_16 : decode cX3_start 16 = .ok (.iconst 1, 1) := by decide +kernel
theorem dX3_start_17 : decode cX3_start 17 = .ok (.iadd, 1) := by decide +kernel
theorem dX3_start_18 : decode cX3_start 18 = .ok (.iastore, 1) := by decide +kernel
theorem dX3_start_19 : decode cX3_start 19 = .ok (.aload_n 0, 1) := by decide +kernel
theorem dX3_start_20 : decode cX3_start 20 = .ok (.getfield 25, 3) := by decide +kernel
theorem dX3_start_23 : decode cX3_start 23 = .ok (.iload_n 1, 1) := by decide +kernel
theorem dX3_start_24 : decode cX3_start 24 = .ok (.sipush 1000, 3) := by decide +kernel
theorem dX3_start_27 : decode cX3_start 27 = .ok (.iastore, 1) := by decide +kernel
theorem dX3_start_28 : decode cX3_start 28 = .ok (.aload_n 0, 1) := by decide +kernel
theorem dX3_start_29 : decode cX3_start 29 = .ok (.getfield 11, 3) := by decide +kernel
theorem dX3_start_32 : decode cX3_start 32 = .ok (.iload_n 1, 1) := by decide +kernel
theorem dX3_start_33 : decode cX3_start 33 = .ok (.iaload, 1) := by decide +kernel
theorem dX3_start_34 : decode cX3_start 34 = .ok (.ifCond .ne 4, 3) := by decide +kernel
theorem dX3_start_37 : decode cX3_start 37 = .ok (.return_, 1) := by decide +kernel
theorem dX3_start_38 : decode cX3_start 38 = .ok (.aload_n 0, 1) := by decide +kernel
theorem dX3_start_39 : decode cX3_start 39 = .ok (.aload_n 0, 1) := by decide +kernel
theorem dX3_start_40 : decode cX3_start 40 = .ok (.getfield 37, 3) := by decide +kernel
theorem dX3_start_43 : decode cX3_start 43 = .ok (.invokevirtual 50, 3) := by decide +kernel
theorem dX3_start_46 : decode cX3_start 46 = .ok (.ifCond .eq 15, 3) := by decide +kernel
theorem dX3_start_49 : decode cX3_start 49 = .ok (.aload_n 0, 1) := by decide +kernel
theorem dX3_start_50 : decode cX3_start 50 = .ok (.getfield 25, 3) := by decide +kernel
theorem dX3_start_53 : decode cX3_start 53 = .ok (.aload_n 0, 1) := by decide +kernel
theorem dX3_start_54 : decode cX3_start 54 = .ok (.getfield 37, 3) := by decide +kernel
theorem dX3_start_57 : decode cX3_start 57 = .ok (.sipush 1000, 3) := by decide +kernel
theorem dX3_start_60 : decode cX3_start 60 = .ok (.iastore, 1) := by decide +kernel
theorem dX3_start_61 : decode cX3_start 61 = .ok (.aload_n 0, 1) := by decide +kernel
theorem dX3_start_62 : decode cX3_start 62 = .ok (.iload_n 1, 1) := by decide +kernel
theorem dX3_start_63 : decode cX3_start 63 = .ok (.putfield 37, 3) := by decide +kernel
theorem dX3_start_66 : decode cX3_start 66 = .ok (.aload_n 0, 1) := by decide +kernel
theorem dX3_start_67 : decode cX3_start 67 = .ok (.getfield 25, 3) := by decide +kernel
theorem dX3_start_70 : decode cX3_start 70 = .ok (.iload_n 1, 1) := by decide +kernel
theorem dX3_start_71 : decode cX3_start 71 = .ok (.iload_n 2, 1) := by decide +kernel
theorem dX3_start_72 : decode cX3_start 72 = .ok (.iastore, 1) := by decide +kernel
theorem dX3_start_73 : decode cX3_start 73 = .ok (.return_, 1) := by decide +kernel
theorem dX3_stop_0 : decode cX3_stop 0 = .ok (.aload_n 0, 1) := by decide +kernel
theorem dX3_stop_1 : decode cX3_stop 1 = .ok (.iload_n 1, 1) := by decide +kernel
theorem dX3_stop_2 : decode cX3_stop 2 = .ok (.invokevirtual 50, 3) := by decide +kernel
theorem dX3_stop_5 : decode cX3_stop 5 = .ok (.ifCond .ne 4, 3) := by decide +kernel
theorem dX3_stop_8 : decode cX3_stop 8 = .ok (.return_, 1) := by decide +kernel
theorem dX3_stop_9 : decode cX3_stop 9 = .ok (.aload_n 0, 1) := by decide +kernel
theorem dX3_stop_10 : decode cX3_stop 10 = .ok (.getfield 25, 3) := by decide +kernel
theorem dX3_stop_13 : decode cX3_stop 13 = .ok (.iload_n 1, 1) := by decide +kernel
theorem dX3_stop_14 : decode cX3_stop 14 = .ok (.iconst 0, 1) := by decide +kernel
theorem dX3_stop_15 : decode cX3_stop 15 = .ok (.iastore, 1) := by decide +kernel
theorem dX3_stop_16 : decode cX3_stop 16 = .ok (.aload_n 0, 1) := by decide +kernel
theorem dX3_stop_17 : decode cX3_stop 17 = .ok (.getfield 31, 3) := by decide +kernel
theorem dX3_stop_20 : decode cX3_stop 20 = .ok (.iload_n 1, 1) := by decide +kernel
theorem dX3_stop_21 : decode cX3_stop 21 = .ok (.iconst 0, 1) := by decide +kernel
theorem dX3_stop_22 : decode cX3_stop 22 = .ok (.iastore, 1) := by decide +kernel
theorem dX3_stop_23 : decode cX3_stop 23 = .ok (.iload_n 1, 1) := by decide +kernel
theorem dX3_stop_24 : decode cX3_stop 24 = .ok (.aload_n 0, 1) := by decide +kernel
theorem dX3_stop_25 : decode cX3_stop 25 = .ok (.getfield 37, 3) := by decide +kernel
theorem dX3_stop_28 : decode cX3_stop 28 = .ok (.if_icmp .ne 11, 3) := by decide +kernel
theorem dX3_stop_31 : decode cX3_stop 31 = .ok (.aload_n 0, 1) := by decide +kernel
theorem dX3_stop_32 : decode cX3_stop 32 = .ok (.aload_n 0, 1) := by decide +kernel
theorem dX3_stop_33 : decode cX3_stop 33 = .ok (.invokevirtual 87, 3) := by decide +kernel
theorem dX3_stop_36 : decode cX3_stop 36 = .ok (.putfield 37, 3) := by decide +kernel
theorem dX3_stop_39 : decode cX3_stop 39 = .ok (.return_, 1) := by decide +kernel
theorem dX3_nextVariable_0 : decode cX3_nextVariable 0 = .ok (.iconst (-1), 1) := by decide +kernel
theorem dX3_nextVariable_1 : decode cX3_nextVariable 1 = .ok (.istore_n 1, 1) := by decide +kernel
theorem dX3_nextVariable_2 : decode cX3_nextVariable 2 = .ok (.iconst 0, 1) := by decide +kernel
theorem dX3_nextVariable_3 : decode cX3_nextVariable 3 = .ok (.istore_n 2, 1) := by decide +kernel
theorem dX3_nextVariable_4 : decode cX3_nextVariable 4 = .ok (.iload_n 2, 1) := by decide +kernel
theorem dX3_nextVariable_5 : decode cX3_nextVariable 5 = .ok (.aload_n 0, 1) := by decide +kernel
theorem dX3_nextVariable_6 : decode cX3_nextVariable 6 = .ok (.getfield 47, 3) := by decide +kernel
theorem dX3_nextVariable_9 : decode cX3_nextVariable 9 = .ok (.if_icmp .ge 49, 3) := by decide +kernel
theorem dX3_nextVariable_12 : decode cX3_nextVariable 12 = .ok (.aload_n 0, 1) := by decide +kernel
theorem dX3_nextVariable_13 : decode cX3_nextVariable 13 = .ok (.getfield 25, 3) := by decide +kernel
theorem dX3_nextVariable_16 : decode cX3_nextVariable 16 = .ok (.iload_n 2, 1) := by decide +kernel
theorem dX3_nextVariable_17 : decode cX3_nextVariable 17 = .ok (.iaload, 1) := by decide +kernel
theorem dX3_nextVariable_18 : decode cX3_nextVariable 18 = .ok (.ifCond .le 34, 3) := by decide +kernel
theorem dX3_nextVariable_21 : decode cX3_nextVariable 21 = .ok (.aload_n 0, 1) := by decide +kernel
theorem dX3_nextVariable_22 : decode cX3_nextVariable 22 = .ok (.getfield 11, 3) := by decide +kernel
theorem dX3_nextVariable_25 : decode cX3_nextVariable 25 = .ok (.iload_n 2, 1) := by decide +kernel
theorem dX3_nextVariable_26 : decode cX3_nextVariable 26 = .ok (.iaload, 1) := by decide +kernel
theorem dX3_nextVariable_27 : decode cX3_nextVariable 27 = .ok (.ifCond .eq 25, 3) := by decide +kernel
theorem dX3_nextVariable_30 : decode cX3_nextVariable 30 = .ok (.iload_n 1, 1) := by decide +kernel
theorem dX3_nextVariable_31 : decode cX3_nextVariable 31 = .ok (.iconst (-1), 1) := by decide +kernel
theorem dX3_nextVariable_32 : decode cX3_nextVariable 32 = .ok (.if_icmp .eq 18, 3) := by decide +kernel
theorem dX3_nextVariable_35 : decode cX3_nextVariable 35 = .ok (.aload_n 0, 1) := by decide +kernel
theorem dX3_nextVariable_36 : decode cX3_nextVariable 36 = .ok (.getfield 28, 3) := by decide +kernel
theorem dX3_nextVariable_39 : decode cX3_nextVariable 39 = .ok (.iload_n 2, 1) := by decide +kernel
theorem dX3_nextVariable_40 : decode cX3_nextVariable 40 = .ok (.iaload, 1) := by decide +kernel
theorem dX3_nextVariable_41 : decode cX3_nextVariable 41 = .ok (.aload_n 0, 1) := by decide +kernel
theorem dX3_nextVariable_42 : decode cX3_nextVariable 42 = .ok (.getfield 28, 3) := by decide +kernel
theorem dX3_nextVariable_45 : decode cX3_nextVariable 45 = .ok (.iload_n 1, 1) := by decide +kernel
theorem dX3_nextVariable_46 : decode cX3_nextVariable 46 = .ok (.iaload, 1) := by decide +kernel
theorem dX3_nextVariable_47 : decode cX3_nextVariable 47 = .ok (.if_icmp .ge 5, 3) := by decide +kernel
theorem dX3_nextVariable_50 : decode cX3_nextVariable 50 = .ok (.iload_n 2, 1) := by decide +kernel
theorem dX3_nextVariable_51 : decode cX3_nextVariable 51 = .ok (.istore_n 1, 1) := by decide +kernel
theorem dX3_nextVariable_52 : decode cX3_nextVariable 52 = .ok (.iinc 2 1, 3) := by decide +kernel
theorem dX3_nextVariable_55 : decode cX3_nextVariable 55 = .ok (.goto (-51), 3) := by decide +kernel
theorem dX3_nextVariable_58 : decode cX3_nextVariable 58 = .ok (.iload_n 1, 1) := by decide +kernel
theorem dX3_nextVariable_59 : decode cX3_nextVariable 59 = .ok (.ireturn, 1) := by decide +kernel
theorem dX3_nextToStop_0 : decode cX3_nextToStop 0 = .ok (.iconst (-1), 1) := by decide +kernel
theorem dX3_nextToStop_1 : decode cX3_nextToStop 1 = .ok (.istore_n 1, 1) := by decide +kernel
theorem dX3_nextToStop_2 : decode cX3_nextToStop 2 = .ok (.iconst 0, 1) := by decide +kernel
theorem dX3_nextToStop_3 : decode cX3_nextToStop 3 = .ok (.istore_n 2, 1) := by decide +kernel
theorem dX3_nextToStop_4 : decode cX3_nextToStop 4 = .ok (.iload_n 2, 1) := by decide +kernel
theorem dX3_nextToStop_5 : decode cX3_nextToStop 5 = .ok (.aload_n 0, 1) := by decide +kernel
theorem dX3_nextToStop_6 : decode cX3_nextToStop 6 = .ok (.getfield 47, 3) := by decide +kernel
theorem dX3_nextToStop_9 : decode cX3_nextToStop 9 = .ok (.if_icmp .ge 48, 3) := by decide +kernel
theorem dX3_nextToStop_12 : decode cX3_nextToStop 12 = .ok (.aload_n 0, 1) := by decide +kernel
theorem dX3_nextToStop_13 : decode cX3_nextToStop 13 = .ok (.getfield 25, 3) := by decide +kernel
theorem dX3_nextToStop_16 : decode cX3_nextToStop 16 = .ok (.iload_n 2, 1) := by decide +kernel
theorem dX3_nextToStop_17 : decode cX3_nextToStop 17 = .ok (.iaload, 1) := by decide +kernel
theorem dX3_nextToStop_18 : decode cX3_nextToStop 18 = .ok (.ifCond .le 33, 3) := by decide +kernel
theorem dX3_nextToStop_21 : decode cX3_nextToStop 21 = .ok (.iload_n 2, 1) := by decide +kernel
theorem dX3_nextToStop_22 : decode cX3_nextToStop 22 = .ok (.aload_n 0, 1) := by decide +kernel
theorem dX3_nextToStop_23 : decode cX3_nextToStop 23 = .ok (.getfield 37, 3) := by decide +kernel
theorem dX3_nextToStop_26 : decode cX3_nextToStop 26 = .ok (.if_icmp .eq 25, 3) := by decide +kernel
theorem dX3_nextToStop_29 : decode cX3_nextToStop 29 = .ok (.iload_n 1, 1) := by decide +kernel
theorem dX3_nextToStop_30 : decode cX3_nextToStop 30 = .ok (.iconst (-1), 1) := by decide +kernel
theorem dX3_nextToStop_31 : decode cX3_nextToStop 31 = .ok (.if_icmp .eq 18, 3) := by decide +kernel
theorem dX3_nextToStop_34 : decode cX3_nextToStop 34 = .ok (.aload_n 0, 1) := by decide +kernel
theorem dX3_nextToStop_35 : decode cX3_nextToStop 35 = .ok (.getfield 28, 3) := by decide +kernel
theorem dX3_nextToStop_38 : decode cX3_nextToStop 38 = .ok (.iload_n 2, 1) := by decide +kernel
theorem dX3_nextToStop_39 : decode cX3_nextToStop 39 = .ok (.iaload, 1) := by decide +kernel
theorem dX3_nextToStop_40 : decode cX3_nextToStop 40 = .ok (.aload_n 0, 1) := by decide +kernel
theorem dX3_nextToStop_41 : decode cX3_nextToStop 41 = .ok (.getfield 28, 3) := by decide +kernel
theorem dX3_nextToStop_44 : decode cX3_nextToStop 44 = .ok (.iload_n 1, 1) := by decide +kernel
theorem dX3_nextToStop_45 : decode cX3_nextToStop 45 = .ok (.iaload, 1) := by decide +kernel
theorem dX3_nextToStop_46 : decode cX3_nextToStop 46 = .ok (.if_icmp .le 5, 3) := by decide +kernel
theorem dX3_nextToStop_49 : decode cX3_nextToStop 49 = .ok (.iload_n 2, 1) := by decide +kernel
theorem dX3_nextToStop_50 : decode cX3_nextToStop 50 = .ok (.istore_n 1, 1) := by decide +kernel
theorem dX3_nextToStop_51 : decode cX3_nextToStop 51 = .ok (.iinc 2 1, 3) := by decide +kernel
theorem dX3_nextToStop_54 : decode cX3_nextToStop 54 = .ok (.goto (-50), 3) := by decide +kernel
theorem dX3_nextToStop_57 : decode cX3_nextToStop 57 = .ok (.iload_n 1, 1) := by decide +kernel
theorem dX3_nextToStop_58 : decode cX3_nextToStop 58 = .ok (.ireturn, 1) := by decide +kernel
theorem dX3_nextInRotation_0 : decode cX3_nextInRotation 0 = .ok (.aload_n 0, 1) := by decide +kernel
theorem dX3_nextInRotation_1 : decode cX3_nextInRotation 1 = .ok (.aload_n 0, 1) := by decide +kernel
theorem dX3_nextInRotation_2 : decode cX3_nextInRotation 2 = .ok (.getfield 37, 3) := by decide +kernel
theorem dX3_nextInRotation_5 : decode cX3_nextInRotation 5 = .ok (.invokevirtual 50, 3) := by decide +kernel
theorem dX3_nextInRotation_8 : decode cX3_nextInRotation 8 = .ok (.ifCond .ne 5, 3) := by decide +kernel
theorem dX3_nextInRotation_11 : decode cX3_nextInRotation 11 = .ok (.iconst (-1), 1) := by decide +kernel
theorem dX3_nextInRotation_12 : decode cX3_nextInRotation 12 = .ok (.ireturn, 1) := by decide +kernel
theorem dX3_nextInRotation_13 : decode cX3_nextInRotation 13 = .ok (.iconst (-1), 1) := by decide +kernel
theorem dX3_nextInRotation_14 : decode cX3_nextInRotation 14 = .ok (.istore_n 1, 1) := by decide +kernel
theorem dX3_nextInRotation_15 : decode cX3_nextInRotation 15 = .ok (.aload_n 0, 1) := by decide +kernel
theorem dX3_nextInRotation_16 : decode cX3_nextInRotation 16 = .ok (.getfield 28, 3) := by decide +kernel
theorem dX3_nextInRotation_19 : decode cX3_nextInRotation 19 = .ok (.aload_n 0, 1) := by decide +kernel
theorem dX3_nextInRotation_20 : decode cX3_nextInRotation 20 = .ok (.getfield 37, 3) := by decide +kernel
theorem dX3_nextInRotation_23 : decode cX3_nextInRotation 23 = .ok (.iaload, 1) := by decide +kernel
theorem dX3_nextInRotation_24 : decode cX3_nextInRotation 24 = .ok (.istore_n 2, 1) := by decide +kernel
theorem dX3_nextInRotation_25 : decode cX3_nextInRotation 25 = .ok (.iconst 0, 1) := by decide +kernel
theorem dX3_nextInRotation_26 : decode cX3_nextInRotation 26 = .ok (.istore_n 3, 1) := by decide +kernel
theorem dX3_nextInRotation_27 : decode cX3_nextInRotation 27 = .ok (.iload_n 3, 1) := by decide +kernel
theorem dX3_nextInRotation_28 : decode cX3_nextInRotation 28 = .ok (.aload_n 0, 1) := by decide +kernel
theorem dX3_nextInRotation_29 : decode cX3_nextInRotation 29 = .ok (.getfield 47, 3) := by decide +kernel
theorem dX3_nextInRotation_32 : decode cX3_nextInRotation 32 = .ok (.if_icmp .ge 45, 3) := by decide +kernel
theorem dX3_nextInRotation_35 : decode cX3_nextInRotation 35 = .ok (.aload_n 0, 1) := by decide +kernel
theorem dX3_nextInRotation_36 : decode cX3_nextInRotation 36 = .ok (.iload_n 3, 1) := by decide +kernel
theorem dX3_nextInRotation_37 : decode cX3_nextInRotation 37 = .ok (.invokevirtual 54, 3) := by decide +kernel
theorem dX3_nextInRotation_40 : decode cX3_nextInRotation 40 = .ok (.ifCond .eq 31, 3) := by decide +kernel
theorem dX3_nextInRotation_43 : decode cX3_nextInRotation 43 = .ok (.aload_n 0, 1) := by decide +kernel
theorem dX3_nextInRotation_44 : decode cX3_nextInRotation 44 = .ok (.getfield 11, 3) := by decide +kernel
theorem dX3_nextInRotation_47 : decode cX3_nextInRotation 47 = .ok (.iload_n 3, 1) := by decide +kernel
theorem dX3_nextInRotation_48 : decode cX3_nextInRotation 48 = .ok (.iaload, 1) := by decide +kernel
theorem dX3_nextInRotation_49 : decode cX3_nextInRotation 49 = .ok (.ifCond .eq 22, 3) := by decide +kernel
theorem dX3_nextInRotation_52 : decode cX3_nextInRotation 52 = .ok (.aload_n 0, 1) := by decide +kernel
theorem dX3_nextInRotation_53 : decode cX3_nextInRotation 53 = .ok (.getfield 28, 3) := by decide +kernel
theorem dX3_nextInRotation_56 : decode cX3_nextInRotation 56 = .ok (.iload_n 3, 1) := by decide +kernel
theorem dX3_nextInRotation_57 : decode cX3_nextInRotation 57 = .ok (.iaload, 1) := by decide +kernel
theorem dX3_nextInRotation_58 : decode cX3_nextInRotation 58 = .ok (.iload_n 2, 1) := by decide +kernel
theorem dX3_nextInRotation_59 : decode cX3_nextInRotation 59 = .ok (.if_icmp .ge 12, 3) := by decide +kernel
theorem dX3_nextInRotation_62 : decode cX3_nextInRotation 62 = .ok (.iload_n 3, 1) := by decide +kernel
theorem dX3_nextInRotation_63 : decode cX3_nextInRotation 63 = .ok (.istore_n 1, 1) := by decide +kernel
theorem dX3_nextInRotation_64 : decode cX3_nextInRotation 64 = .ok (.aload_n 0, 1) := by decide +kernel
theorem dX3_nextInRotation_65 : decode cX3_nextInRotation 65 = .ok (.getfield 28, 3) := by decide +kernel
theorem dX3_nextInRotation_68 : decode cX3_nextInRotation 68 = .ok (.iload_n 3, 1) := by decide +kernel
theorem dX3_nextInRotation_69 : decode cX3_nextInRotation 69 = .ok (.iaload, 1) := by decide +kernel
theorem dX3_nextInRotation_70 : decode cX3_nextInRotation 70 = .ok (.istore_n 2, 1) := by decide +kernel
theorem dX3_nextInRotation_71 : decode cX3_nextInRotation 71 = .ok (.iinc 3 1, 3) := by decide +kernel
theorem dX3_nextInRotation_74 : decode cX3_nextInRotation 74 = .ok (.goto (-47), 3) := by decide +kernel
theorem dX3_nextInRotation_77 : decode cX3_nextInRotation 77 = .ok (.iload_n 1, 1) := by decide +kernel
theorem dX3_nextInRotation_78 : decode cX3_nextInRotation 78 = .ok (.ireturn, 1) := by decide +kernel

/-! decode rows -/
theorem dX4_init_0 : decode cX4_init 0 = .ok (.aload_n 0, 1) := by decide +kernel
theorem dX4_init_1 : decode cX4_init 1 = .ok (.invokespecial 3, 3) := by decide +kernel
theorem dX4_init_4 : decode cX4_init 4 = .ok (.aload_n 0, 1) := by decide +kernel
theorem dX4_init_5 : decode cX4_init 5 = .ok (.getstatic 9, 3) := by decide +kernel
theorem dX4_init_8 : decode cX4_init 8 = .ok (.invokevirtual 13, 3) := by decide +kernel
theorem dX4_init_11 : decode cX4_init 11 = .ok (.checkcast 14, 3) := by decide +kernel
theorem dX4_init_14 : decode cX4_init 14 = .ok (.putfield 18, 3) := by decide +kernel
theorem dX4_init_17 : decode cX4_init 17 = .ok (.aload_n 0, 1) := by decide +kernel
theorem dX4_init_18 : decode cX4_init 18 = .ok (.new 23, 3) := by decide +kernel
theorem dX4_init_21 : decode cX4_init 21 = .ok (.dup, 1) := by decide +kernel
theorem dX4_init_22 : decode cX4_init 22 = .ok (.invokespecial 25, 3) := by decide +kernel
theorem dX4_init_25 : decode cX4_init 25 = .ok (.putfield 26, 3) := by decide +kernel
theorem dX4_init_28 : decode cX4_init 28 = .ok (.aload_n 0, 1) := by decide +kernel
theorem dX4_init_29 : decode cX4_init 29 = .ok (.new 30, 3) := by decide +kernel
theorem dX4_init_32 : decode cX4_init 32 = .ok (.dup, 1) := by decide +kernel
theorem dX4_init_33 : decode cX4_init 33 = .ok (.invokespecial 32, 3) := by decide +kernel
theorem dX4_init_36 : decode cX4_init 36 = .ok (.putfield 33, 3) := by decide +kernel
theorem dX4_init_39 : decode cX4_init 39 = .ok (.aload_n 0, 1) := by decide +kernel
theorem dX4_init_40 : decode cX4_init 40 = .ok (.new 37, 3) := by decide +kernel
theorem dX4_init_43 : decode cX4_init 43 = .ok (.dup, 1) := by decide +kernel
theorem dX4_init_44 : decode cX4_init 44 = .ok (.invokespecial 39, 3) := by decide +kernel
theorem dX4_init_47 : decode cX4_init 47 = .ok (.putfield 40, 3) := by decide +kernel
theorem dX4_init_50 : decode cX4_init 50 = .ok (.aload_n 0, 1) := by decide +kernel
theorem dX4_init_51 : decode cX4_init 51 = .ok (.new 44, 3) := by decide +kernel
theorem dX4_init_54 : decode cX4_init 54 = .ok (.dup, 1) := by decide +kernel
theorem dX4_init_55 : decode cX4_init 55 = .ok (.invokespecial 46, 3) := by decide +kernel
theorem dX4_init_58 : decode cX4_init 58 = .ok (.putfield 47, 3) := by decide +kernel
theorem dX4_init_61 : decode cX4_init 61 = .ok (.aload_n 0, 1) := by decide +kernel
theorem dX4_init_62 : decode cX4_init 62 = .ok (.sipush 10000, 3) := by decide +kernel
theorem dX4_init_65 : decode cX4_init 65 = .ok (.putfield 51, 3) := by decide +kernel
theorem dX4_init_68 : decode cX4_init 68 = .ok (.return_, 1) := by decide +kernel
theorem dX4_copyFrom_0 : decode cX4_copyFrom 0 = .ok (.aload_n 1, 1) := by decide +kernel
theorem dX4_copyFrom_1 : decode cX4_copyFrom 1 = .ok (.ifnonnull 4, 3) := by decide +kernel
theorem dX4_copyFrom_4 : decode cX4_copyFrom 4 = .ok (.return_, 1) := by decide +kernel
theorem dX4_copyFrom_5 : decode cX4_copyFrom 5 = .ok (.aload_n 1, 1) := by decide +kernel
theorem dX4_copyFrom_6 : decode cX4_copyFrom 6 = .ok (.getfield 18, 3) := by decide +kernel
theorem dX4_copyFrom_9 : decode cX4_copyFrom 9 = .ok (.iconst 0, 1) := by decide +kernel
theorem dX4_copyFrom_10 : decode cX4_copyFrom 10 = .ok (.aload_n 0, 1) := by decide +kernel
theorem dX4_copyFrom_11 : decode cX4_copyFrom 11 = .ok (.getfield 18, 3) := by decide +kernel
theorem dX4_copyFrom_14 : decode cX4_copyFrom 14 = .ok (.iconst 0, 1) := by decide +kernel
theorem dX4_copyFrom_15 : decode cX4_copyFrom 15 = .ok (.bipush 19, 2) := by decide +kernel
theorem dX4_copyFrom_17 : decode cX4_copyFrom 17 = .ok (.invokestatic 55, 3) := by decide +kernel
theorem dX4_copyFrom_20 : decode cX4_copyFrom 20 = .ok (.aload_n 0, 1) := by decide +kernel
theorem dX4_copyFrom_21 : decode cX4_copyFrom 21 = .ok (.getfield 26, 3) := by decide +kernel
theorem dX4_copyFrom_24 : decode cX4_copyFrom 24 = .ok (.aload_n 1, 1) := by decide +kernel
theorem dX4_copyFrom_25 : decode cX4_copyFrom 25 = .ok (.getfield 26, 3) := by decide +kernel
theorem dX4_copyFrom_28 : decode cX4_copyFrom 28 = .ok (.invokevirtual 61, 3) := by decide +kernel
theorem dX4_copyFrom_31 : decode cX4_copyFrom 31 = .ok (.aload_n 0, 1) := by decide +kernel
theorem dX4_copyFrom_32 : decode cX4_copyFrom 32 = .ok (.getfield 33, 3) := by decide +kernel
theorem dX4_copyFrom_35 : decode cX4_copyFrom 35 = .ok (.aload_n 1, 1) := by decide +kernel
theorem dX4_copyFrom_36 : decode cX4_copyFrom 36 = .ok (.getfield 33, 3) := by decide +kernel
theorem dX4_copyFrom_39 : decode cX4_copyFrom 39 = .ok (.invokevirtual 65, 3) := by decide +kernel
theorem dX4_copyFrom_42 : decode cX4_copyFrom 42 = .ok (.aload_n 0, 1) := by decide +kernel
theorem dX4_copyFrom_43 : decode cX4_copyFrom 43 = .ok (.getfield 40, 3) := by decide +kernel
theorem dX4_copyFrom_46 : decode cX4_copyFrom 46 = .ok (.aload_n 1, 1) := by decide +kernel
theorem dX4_copyFrom_47 : decode cX4_copyFrom 47 = .ok (.getfield 40, 3) := by decide +kernel
theorem dX4_copyFrom_50 : decode cX4_copyFrom 50 = .ok (.invokevirtual 68, 3) := by decide +kernel
theorem dX4_copyFrom_53 : decode cX4_copyFrom 53 = .ok (.aload_n 0, 1) := by decide +kernel
theorem dX4_copyFrom_54 : decode cX4_copyFrom 54 = .ok (.getfield 47, 3) := by decide +kernel
theorem dX4_copyFrom_57 : decode cX4_copyFrom 57 = .ok (.aload_n 1, 1) := by decide +kernel
theorem dX4_copyFrom_58 : decode cX4_copyFrom 58 = .ok (.getfield 47, 3) := by decide +kernel
theorem dX4_copyFrom_61 : decode cX4_copyFrom 61 = .ok (.invokevirtual 71, 3) := by decide +kernel
theorem dX4_copyFrom_64 : decode cX4_copyFrom 64 = .ok (.aload_n 0, 1) := by decide +kernel
theorem dX4_copyFrom_65 : decode cX4_copyFrom 65 = .ok (.aload_n 1, 1) := by decide +kernel
theorem dX4_copyFrom_66 : decode cX4_copyFrom 66 = .ok (.getfield 74, 3) := by decide +kernel
theorem dX4_copyFrom_69 : decode cX4_copyFrom 69 = .ok (.putfield 74, 3) := by decide +kernel
theorem dX4_copyFrom_72 : decode cX4_copyFrom 72 = .ok (.aload_n 0, 1) := by decide +kernel
theorem dX4_copyFrom_73 : decode cX4_copyFrom 73 = .ok (.aload_n 1, 1) := by decide +kernel
theorem dX4_copyFrom_74 : decode cX4_copyFrom 74 = .ok (.getfield 77, 3) := by decide +kernel
theorem dX4_copyFrom_77 : decode cX4_copyFrom 77 = .ok (.putfield 77, 3) := by decide +kernel
theorem dX4_copyFrom_80 : decode cX4_copyFrom 80 = .ok (.aload_n 0, 1) := by decide +kernel
theorem dX4_copyFrom_81 : decode cX4_copyFrom 81 = .ok (.aload_n 1, 1) := by decide +kernel
theorem dX4_copyFrom_82 : decode cX4_copyFrom 82 = .ok (.getfield 51, 3) := by decide +kernel
theorem dX4_copyFrom_85 : decode cX4_copyFrom 85 = .ok (.putfield 51, 3) := by decide +kernel
theorem dX4_copyFrom_88 : decode cX4_copyFrom 88 = .ok (.aload_n 0, 1) := by decide +kernel
theorem dX4_copyFrom_89 : decode cX4_copyFrom 89 = .ok (.aload_n 1, 1) := by decide +kernel
theorem dX4_copyFrom_90 : decode cX4_copyFrom 90 = .ok (.getfield 80, 3) := by decide +kernel
theorem dX4_copyFrom_93 : decode cX4_copyFrom 93 = .ok (.putfield 80, 3) := by decide +kernel
theorem dX4_copyFrom_96 : decode cX4_copyFrom 96 = .ok (.aload_n 0, 1) := by decide +kernel
theorem dX4_copyFrom_97 : decode cX4_copyFrom 97 = .ok (.aload_n 1, 1) := by decide +kernel
theorem dX4_copyFrom_98 : decode cX4_copyFrom 98 = .ok (.getfield 83, 3) := by decide +kernel
theorem dX4_copyFrom_101 : decode cX4_copyFrom 101 = .ok (.putfield 83, 3) := by decide +kernel
theorem dX4_copyFrom_104 : decode cX4_copyFrom 104 = .ok (.aload_n 0, 1) := by decide +kernel
theorem dX4_copyFrom_105 : decode cX4_copyFrom 105 = .ok (.aload_n 1, 1) := by decide +kernel
theorem dX4_copyFrom_106 : decode cX4_copyFrom 106 = .ok (.getfield 86, 3) := by decide +kernel
theorem dX4_copyFrom_109 : decode cX4_copyFrom 109 = .ok (.putfield 86, 3) := by decide +kernel
theorem dX4_copyFrom_112 : decode cX4_copyFrom 112 = .ok (.aload_n 0, 1) := by decide +kernel
theorem dX4_copyFrom_113 : decode cX4_copyFrom 113 = .ok (.aload_n 1, 1) := by decide +kernel
theorem dX4_copyFrom_114 : decode cX4_copyFrom 114 = .ok (.getfield 89, 3) := by decide +kernel
theorem dX4_copyFrom_117 : decode cX4_copyFrom 117 = .ok (.putfield 89, 3) := by decide +kernel
theorem dX4_copyFrom_120 : decode cX4_copyFrom 120 = .ok (.aload_n 0, 1) := by decide +kernel
theorem dX4_copyFrom_121 : decode cX4_copyFrom 121 = .ok (.aload_n 1, 1) := by decide +kernel
theorem dX4_copyFrom_122 : decode cX4_copyFrom 122 = .ok (.getfield 93, 3) := by decide +kernel
theorem dX4_copyFrom_125 : decode cX4_copyFrom 125 = .ok (.putfield 93, 3) := by decide +kernel
theorem dX4_copyFrom_128 : decode cX4_copyFrom 128 = .ok (.aload_n 0, 1) := by decide +kernel
theorem dX4_copyFrom_129 : decode cX4_copyFrom 129 = .ok (.aload_n 1, 1) := by decide +kernel
theorem dX4_copyFrom_130 : decode cX4_copyFrom 130 = .ok (.getfield 96, 3) := by decide +kernel
theorem dX4_copyFrom_133 : decode cX4_copyFrom 133 = .ok (.putfield 96, 3) := by decide +kernel
theorem dX4_copyFrom_136 : decode cX4_copyFrom 136 = .ok (.aload_n 0, 1) := by decide +kernel
theorem dX4_copyFrom_137 : decode cX4_copyFrom 137 = .ok (.aload_n 1, 1) := by decide +kernel
theorem dX4_copyFrom_138 : decode cX4_copyFrom 138 = .ok (.getfield 99, 3) := by decide +kernel
theorem dX4_copyFrom_141 : decode cX4_copyFrom 141 = .ok (.putfield 99, 3) := by decide +kernel
theorem dX4_copyFrom_144 : decode cX4_copyFrom 144 = .ok (.aload_n 0, 1) := by decide +kernel
theorem dX4_copyFrom_145 : decode cX4_copyFrom 145 = .ok (.aload_n 1, 1) := by decide +kernel
theorem dX4_copyFrom_146 : decode cX4_copyFrom 146 = .ok (.getfield 102, 3) := by decide +kernel
theorem dX4_copyFrom_149 : decode cX4_copyFrom 149 = .ok (.putfield 102, 3) := by decide +kernel
theorem dX4_copyFrom_152 : decode cX4_copyFrom 152 = .ok (.aload_n 0, 1) := by decide +kernel
theorem dX4_copyFrom_153 : decode cX4_copyFrom 153 = .ok (.aload_n 1, 1) := by decide +kernel
theorem dX4_copyFrom_154 : decode cX4_copyFrom 154 = .ok (.getfield 105, 3) := by decide +kernel
theorem dX4_copyFrom_157 : decode cX4_copyFrom 157 = .ok (.putfield 105, 3) := by decide +kernel
theorem dX4_copyFrom_160 : decode cX4_copyFrom 160 = .ok (.return_, 1) := by decide +kernel
theorem dX4_demand_0 : decode cX4_demand 0 = .ok (.aload_n 0, 1) := by decide +kernel
theorem dX4_demand_1 : decode cX4_demand 1 = .ok (.getfield 33, 3) := by decide +kernel
theorem dX4_demand_4 : decode cX4_demand 4 = .ok (.aload_n 0, 1) := by decide +kernel
theorem dX4_demand_5 : decode cX4_demand 5 = .ok (.getfield 77, 3) := by decide +kernel
theorem dX4_demand_8 : decode cX4_demand 8 = .ok (.invokevirtual 108, 3) := by decide +kernel
theorem dX4_demand_11 : decode cX4_demand 11 = .ok (.aload_n 0, 1) := by decide +kernel
theorem dX4_demand_12 : decode cX4_demand 12 = .ok (.getfield 80, 3) := by decide +kernel
theorem dX4_demand_15 : decode cX4_demand 15 = .ok (.aload_n 0, 1) := by decide +kernel
theorem dX4_demand_16 : decode cX4_demand 16 = .ok (.getfield 77, 3) := by decide +kernel
theorem dX4_demand_19 : decode cX4_demand 19 = .ok (.imul, 1) := by decide +kernel
theorem dX4_demand_20 : decode cX4_demand 20 = .ok (.sipush 1000, 3) := by decide +kernel
theorem dX4_demand_23 : decode cX4_demand 23 = .ok (.idiv, 1) := by decide +kernel
theorem dX4_demand_24 : decode cX4_demand 24 = .ok (.iadd, 1) := by decide +kernel
theorem dX4_demand_25 : decode cX4_demand 25 = .ok (.ireturn, 1) := by decide +kernel
theorem dX4_runMinute_0 : decode cX4_runMinute 0 = .ok (.aload_n 0, 1) := by decide +kernel
theorem dX4_runMinute_1 : decode cX4_runMinute 1 = .ok (.dup, 1) := by decide +kernel
theorem dX4_runMinute_2 : decode cX4_runMinute 2 = .ok (.getfield 74, 3) := by decide +kernel
theorem dX4_runMinute_5 : decode cX4_runMinute 5 = .ok (.iconst 1, 1) := by decide +kernel
theorem dX4_runMinute_6 : decode cX4_runMinute 6 = .ok (.iadd, 1) := by decide +kernel
theorem dX4_runMinute_7 : decode cX4_runMinute 7 = .ok (.putfield 74, 3) := by decide +kernel
theorem dX4_runMinute_10 : decode cX4_runMinute 10 = .ok (.aload_n 0, 1) := by decide +kernel
theorem dX4_runMinute_11 : decode cX4_runMinute 11 = .ok (.getfield 33, 3) := by decide +kernel
theorem dX4_runMinute_14 : decode cX4_runMinute 14 = .ok (.aload_n 0, 1) := by decide +kernel
theorem dX4_runMinute_15 : decode cX4_runMinute 15 = .ok (.getfield 74, 3) := by decide +kernel
theorem dX4_runMinute_18 : decode cX4_runMinute 18 = .ok (.sipush 1440, 3) := by decide +kernel
theorem dX4_runMinute_21 : decode cX4_runMinute 21 = .ok (.irem, 1) := by decide +kernel
theorem dX4_runMinute_22 : decode cX4_runMinute 22 = .ok (.invokevirtual 112, 3) := by decide +kernel
theorem dX4_runMinute_25 : decode cX4_runMinute 25 = .ok (.aload_n 0, 1) := by decide +kernel
theorem dX4_runMinute_26 : decode cX4_runMinute 26 = .ok (.invokevirtual 116, 3) := by decide +kernel
theorem dX4_runMinute_29 : decode cX4_runMinute 29 = .ok (.aload_n 0, 1) := by decide +kernel
theorem dX4_runMinute_30 : decode cX4_runMinute 30 = .ok (.invokevirtual 119, 3) := by decide +kernel
theorem dX4_runMinute_33 : decode cX4_runMinute 33 = .ok (.aload_n 0, 1) := by decide +kernel
theorem dX4_runMinute_34 : decode cX4_runMinute 34 = .ok (.invokevirtual 122, 3) := by decide +kernel
theorem dX4_runMinute_37 : decode cX4_runMinute 37 = .ok (.aload_n 0, 1) := by decide +kernel
theorem dX4_runMinute_38 : decode cX4_runMinute 38 = .ok (.getfield 89, 3) := by decide +kernel
theorem dX4_runMinute_41 : decode cX4_runMinute 41 = .ok (.ifCond .eq 8, 3) := by decide +kernel
theorem dX4_runMinute_44 : decode cX4_runMinute 44 = .ok (.aload_n 0, 1) := by decide +kernel
theorem dX4_runMinute_45 : decode cX4_runMinute 45 = .ok (.invokevirtual 125, 3) := by decide +kernel
theorem dX4_runMinute_48 : decode cX4_runMinute 48 = .ok (.return_, 1) := by decide +kernel
theorem dX4_runMinute_49 : decode cX4_runMinute 49 = .ok (.aload_n 0, 1) := by decide +kernel
theorem dX4_runMinute_50 : decode cX4_runMinute 50 = .ok (.invokevirtual 128, 3) := by decide +kernel
theorem dX4_runMinute_53 : decode cX4_runMinute 53 = .ok (.aload_n 0, 1) := by decide +kernel
theorem dX4_runMinute_54 : decode cX4_runMinute 54 = .ok (.invokevirtual 131, 3) := by decide +kernel
theorem dX4_runMinute_57 : decode cX4_runMinute 57 = .ok (.aload_n 0, 1) := by decide +kernel
theorem dX4_runMinute_58 : decode cX4_runMinute 58 = .ok (.invokevirtual 134, 3) := by decide +kernel
theorem dX4_runMinute_61 : decode cX4_runMinute 61 = .ok (.aload_n 0, 1) := by decide +kernel
theorem dX4_runMinute_62 : decode cX4_runMinute 62 = .ok (.invokevirtual 137, 3) := by decide +kernel
theorem dX4_runMinute_65 : decode cX4_runMinute 65 = .ok (.aload_n 0, 1) := by decide +kernel
theorem dX4_runMinute_66 : decode cX4_runMinute 66 = .ok (.invokevirtual 140, 3) := by decide +kernel
theorem dX4_runMinute_69 : decode cX4_runMinute 69 = .ok (.return_, 1) := by decide +kernel
theorem dX4_moveWater_0 : decode cX4_moveWater 0 = .ok (.aload_n 0, 1) := by decide +kernel
theorem dX4_moveWater_1 : decode cX4_moveWater 1 = .ok (.invokevirtual 143, 3) := by decide +kernel
theorem dX4_moveWater_4 : decode cX4_moveWater 4 = .ok (.istore_n 1, 1) := by decide +kernel
theorem dX4_moveWater_5 : decode cX4_moveWater 5 = .ok (.aload_n 0, 1) := by decide +kernel
theorem dX4_moveWater_6 : decode cX4_moveWater 6 = .ok (.aload_n 0, 1) := by decide +kernel
theorem dX4_moveWater_7 : decode cX4_moveWater 7 = .ok (.getfield 51, 3) := by decide +kernel
theorem dX4_moveWater_10 : decode cX4_moveWater 10 = .ok (.aload_n 0, 1) := by decide +kernel
theorem dX4_moveWater_11 : decode cX4_moveWater 11 = .ok (.getfield 26, 3) := by decide +kernel
theorem dX4_moveWater_14 : decode cX4_moveWater 14 = .ok (.aload_n 0, 1) := by decide +kernel
theorem dX4_moveWater_15 : decode cX4_moveWater 15 = .ok (.getfield 77, 3) := by decide +kernel
theorem dX4_moveWater_18 : decode cX4_moveWater 18 = .ok (.invokevirtual 147, 3) := by decide +kernel
theorem dX4_moveWater_21 : decode cX4_moveWater 21 = .ok (.invokestatic 150, 3) := by decide +kernel
theorem dX4_moveWater_24 : decode cX4_moveWater 24 = .ok (.putfield 83, 3) := by decide +kernel
theorem dX4_moveWater_27 : decode cX4_moveWater 27 = .ok (.aload_n 0, 1) := by decide +kernel
theorem dX4_moveWater_28 : decode cX4_moveWater 28 = .ok (.dup, 1) := by decide +kernel
theorem dX4_moveWater_29 : decode cX4_moveWater 29 = .ok (.getfield 86, 3) := by decide +kernel
theorem dX4_moveWater_32 : decode cX4_moveWater 32 = .ok (.aload_n 0, 1) := by decide +kernel
theorem dX4_moveWater_33 : decode cX4_moveWater 33 = .ok (.getfield 83, 3) := by decide +kernel
theorem dX4_moveWater_36 : decode cX4_moveWater 36 = .ok (.iadd, 1) := by decide +kernel
theorem dX4_moveWater_37 : decode cX4_moveWater 37 = .ok (.putfield 86, 3) := by decide +kernel
theorem dX4_moveWater_40 : decode cX4_moveWater 40 = .ok (.aload_n 0, 1) := by decide +kernel
theorem dX4_moveWater_41 : decode cX4_moveWater 41 = .ok (.sipush 20000, 3) := by decide +kernel
theorem dX4_moveWater_44 : decode cX4_moveWater 44 = .ok (.aload_n 0, 1) := by decide +kernel
theorem dX4_moveWater_45 : decode cX4_moveWater 45 = .ok (.getfield 51, 3) := by decide +kernel
theorem dX4_moveWater_48 : decode cX4_moveWater 48 = .ok (.aload_n 0, 1) := by decide +kernel
theorem dX4_moveWater_49 : decode cX4_moveWater 49 = .ok (.getfield 83, 3) := by decide +kernel
theorem dX4_moveWater_52 : decode cX4_moveWater 52 = .ok (.isub, 1) := by decide +kernel
theorem dX4_moveWater_53 : decode cX4_moveWater 53 = .ok (.aload_n 0, 1) := by decide +kernel
theorem dX4_moveWater_54 : decode cX4_moveWater 54 = .ok (.getfield 18, 3) := by decide +kernel
theorem dX4_moveWater_57 : decode cX4_moveWater 57 = .ok (.bipush 14, 2) := by decide +kernel
theorem dX4_moveWater_59 : decode cX4_moveWater 59 = .ok (.iaload, 1) := by decide +kernel
theorem dX4_moveWater_60 : decode cX4_moveWater 60 = .ok (.iadd, 1) := by decide +kernel
theorem dX4_moveWater_61 : decode cX4_moveWater 61 = .ok (.invokestatic 150, 3) := by decide +kernel
theorem dX4_moveWater_64 : decode cX4_moveWater 64 = .ok (.putfield 51, 3) := by decide +kernel
theorem dX4_moveWater_67 : decode cX4_moveWater 67 = .ok (.aload_n 0, 1) := by decide +kernel
theorem dX4_moveWater_68 : decode cX4_moveWater 68 = .ok (.getfield 26, 3) := by decide +kernel
theorem dX4_moveWater_71 : decode cX4_moveWater 71 = .ok (.invokevirtual 156, 3) := by decide +kernel
theorem dX4_moveWater_74 : decode cX4_moveWater 74 = .ok (.aload_n 0, 1) := by decide +kernel
theorem dX4_moveWater_75 : decode cX4_moveWater 75 = .ok (.getfield 18, 3) := by decide +kernel
theorem dX4_moveWater_78 : decode cX4_moveWater 78 = .ok (.bipush 10, 2) := by decide +kernel
theorem dX4_moveWater_80 : decode cX4_moveWater 80 = .ok (.iaload, 1) := by decide +kernel
theorem dX4_moveWater_81 : decode cX4_moveWater 81 = .ok (.istore_n 2, 1) := by decide +kernel
theorem dX4_moveWater_82 : decode cX4_moveWater 82 = .ok (.iload_n 2, 1) := by decide +kernel
theorem dX4_moveWater_83 : decode cX4_moveWater 83 = .ok (.ifCond .le 27, 3) := by decide +kernel
theorem dX4_moveWater_86 : decode cX4_moveWater 86 = .ok (.aload_n 0, 1) := by decide +kernel
theorem dX4_moveWater_87 : decode cX4_moveWater 87 = .ok (.aload_n 0, 1) := by decide +kernel
theorem dX4_moveWater_88 : decode cX4_moveWater 88 = .ok (.getfield 77, 3) := by decide +kernel
theorem dX4_moveWater_91 : decode cX4_moveWater 91 = .ok (.aload_n 0, 1) := by decide +kernel
theorem dX4_moveWater_92 : decode cX4_moveWater 92 = .ok (.getfield 83, 3) := by decide +kernel
theorem dX4_moveWater_95 : decode cX4_moveWater 95 = .ok (.iload_n 1, 1) := by decide +kernel
theorem dX4_moveWater_96 : decode cX4_moveWater 96 = .ok (.isub, 1) := by decide +kernel
theorem dX4_moveWater_97 : decode cX4_moveWater 97 = .ok (.iload_n 2, 1) := by decide +kernel
theorem dX4_moveWater_98 : decode cX4_moveWater 98 = .ok (.idiv, 1) := by decide +kernel
theorem dX4_moveWater_99 : decode cX4_moveWater 99 = .ok (.iadd, 1) := by decide +kernel
theorem dX4_moveWater_100 : decode cX4_moveWater 100 = .ok (.iconst 0, 1) := by decide +kernel
theorem dX4_moveWater_101 : decode cX4_moveWater 101 = .ok (.sipush 2000, 3) := by decide +kernel
theorem dX4_moveWater_104 : decode cX4_moveWater 104 = .ok (.invokestatic 159, 3) := by decide +kernel
theorem dX4_moveWater_107 : decode cX4_moveWater 107 = .ok (.putfield 77, 3) := by decide +kernel
theorem dX4_moveWater_110 : decode cX4_moveWater 110 = .ok (.return_, 1) := by decide +kernel
theorem dX4_watchNight_0 : decode cX4_watchNight 0 = .ok (.aload_n 0, 1) := by decide +kernel
theorem dX4_watchNight_1 : decode cX4_watchNight 1 = .ok (.getfield 74, 3) := by decide +kernel
theorem dX4_watchNight_4 : decode cX4_watchNight 4 = .ok (.sipush 1440, 3) := by decide +kernel
theorem dX4_watchNight_7 : decode cX4_watchNight 7 = .ok (.irem, 1) := by decide +kernel
theorem dX4_watchNight_8 : decode cX4_watchNight 8 = .ok (.aload_n 0, 1) := by decide +kernel
theorem dX4_watchNight_9 : decode cX4_watchNight 9 = .ok (.getfield 18, 3) := by decide +kernel
theorem dX4_watchNight_12 : decode cX4_watchNight 12 = .ok (.bipush 15, 2) := by decide +kernel
theorem dX4_watchNight_14 : decode cX4_watchNight 14 = .ok (.iaload, 1) := by decide +kernel
theorem dX4_watchNight_15 : decode cX4_watchNight 15 = .ok (.isub, 1) := by decide +kernel
theorem dX4_watchNight_16 : decode cX4_watchNight 16 = .ok (.sipush 1440, 3) := by decide +kernel
theorem dX4_watchNight_19 : decode cX4_watchNight 19 = .ok (.iadd, 1) := by decide +kernel
theorem dX4_watchNight_20 : decode cX4_watchNight 20 = .ok (.sipush 1440, 3) := by decide +kernel
theorem dX4_watchNight_23 : decode cX4_watchNight 23 = .ok (.irem, 1) := by decide +kernel
theorem dX4_watchNight_24 : decode cX4_watchNight 24 = .ok (.istore_n 1, 1) := by decide +kernel
theorem dX4_watchNight_25 : decode cX4_watchNight 25 = .ok (.iload_n 1, 1) := by decide +kernel
theorem dX4_watchNight_26 : decode cX4_watchNight 26 = .ok (.aload_n 0, 1) := by decide +kernel
theorem dX4_watchNight_27 : decode cX4_watchNight 27 = .ok (.getfield 18, 3) := by decide +kernel
theorem dX4_watchNight_30 : decode cX4_watchNight 30 = .ok (.bipush 16, 2) := by decide +kernel
theorem dX4_watchNight_32 : decode cX4_watchNight 32 = .ok (.iaload, 1) := by decide +kernel
theorem dX4_watchNight_33 : decode cX4_watchNight 33 = .ok (.if_icmp .lt 4, 3) := by decide +kernel
theorem dX4_watchNight_36 : decode cX4_watchNight 36 = .ok (.return_, 1) := by decide +kernel
theorem dX4_watchNight_37 : decode cX4_watchNight 37 = .ok (.aload_n 0, 1) := by decide +kernel
theorem dX4_watchNight_38 : decode cX4_watchNight 38 = .ok (.getfield 40, 3) := by decide +kernel
theorem dX4_watchNight_41 : decode cX4_watchNight 41 = .ok (.dup, 1) := by decide +kernel
theorem dX4_watchNight_42 : decode cX4_watchNight 42 = .ok (.getfield 163, 3) := by decide +kernel
theorem dX4_watchNight_45 : decode cX4_watchNight 45 = .ok (.aload_n 0, 1) := by decide +kernel
theorem dX4_watchNight_46 : decode cX4_watchNight 46 = .ok (.getfield 83, 3) := by decide +kernel
theorem dX4_watchNight_49 : decode cX4_watchNight 49 = .ok (.iadd, 1) := by decide +kernel
theorem dX4_watchNight_50 : decode cX4_watchNight 50 = .ok (.putfield 163, 3) := by decide +kernel
theorem dX4_watchNight_53 : decode cX4_watchNight 53 = .ok (.iload_n 1, 1) := by decide +kernel
theorem dX4_watchNight_54 : decode cX4_watchNight 54 = .ok (.aload_n 0, 1) := by decide +kernel
theorem dX4_watchNight_55 : decode cX4_watchNight 55 = .ok (.getfield 18, 3) := by decide +kernel
theorem dX4_watchNight_58 : decode cX4_watchNight 58 = .ok (.bipush 16, 2) := by decide +kernel
theorem dX4_watchNight_60 : decode cX4_watchNight 60 = .ok (.iaload, 1) := by decide +kernel
theorem dX4_watchNight_61 : decode cX4_watchNight 61 = .ok (.iconst 1, 1) := by decide +kernel
theorem dX4_watchNight_62 : decode cX4_watchNight 62 = .ok (.isub, 1) := by decide +kernel
theorem dX4_watchNight_63 : decode cX4_watchNight 63 = .ok (.if_icmp .ge 4, 3) := by decide +kernel
theorem dX4_watchNight_66 : decode cX4_watchNight 66 = .ok (.return_, 1) := by decide +kernel
theorem dX4_watchNight_67 : decode cX4_watchNight 67 = .ok (.aload_n 0, 1) := by decide +kernel
theorem dX4_watchNight_68 : decode cX4_watchNight 68 = .ok (.getfield 40, 3) := by decide +kernel
theorem dX4_watchNight_71 : decode cX4_watchNight 71 = .ok (.aload_n 0, 1) := by decide +kernel
theorem dX4_watchNight_72 : decode cX4_watchNight 72 = .ok (.getfield 18, 3) := by decide +kernel
theorem dX4_watchNight_75 : decode cX4_watchNight 75 = .ok (.bipush 17, 2) := by decide +kernel
theorem dX4_watchNight_77 : decode cX4_watchNight 77 = .ok (.iaload, 1) := by decide +kernel
theorem dX4_watchNight_78 : decode cX4_watchNight 78 = .ok (.invokevirtual 165, 3) := by decide +kernel
theorem dX4_watchNight_81 : decode cX4_watchNight 81 = .ok (.ifCond .eq 30, 3) := by decide +kernel
theorem dX4_watchNight_84 : decode cX4_watchNight 84 = .ok (.aload_n 0, 1) := by decide +kernel
theorem dX4_watchNight_85 : decode cX4_watchNight 85 = .ok (.getfield 40, 3) := by decide +kernel
theorem dX4_watchNight_88 : decode cX4_watchNight 88 = .ok (.dup, 1) := by decide +kernel
theorem dX4_watchNight_89 : decode cX4_watchNight 89 = .ok (.getfield 169, 3) := by decide +kernel
theorem dX4_watchNight_92 : decode cX4_watchNight 92 = .ok (.iconst 1, 1) := by decide +kernel
theorem dX4_watchNight_93 : decode cX4_watchNight 93 = .ok (.iadd, 1) := by decide +kernel
theorem dX4_watchNight_94 : decode cX4_watchNight 94 = .ok (.putfield 169, 3) := by decide +kernel
theorem dX4_watchNight_97 : decode cX4_watchNight 97 = .ok (.aload_n 0, 1) := by decide +kernel
theorem dX4_watchNight_98 : decode cX4_watchNight 98 = .ok (.getfield 47, 3) := by decide +kernel
theorem dX4_watchNight_101 : decode cX4_watchNight 101 = .ok (.bipush 6, 2) := by decide +kernel
theorem dX4_watchNight_103 : decode cX4_watchNight 103 = .ok (.aload_n 0, 1) := by decide +kernel
theorem dX4_watchNight_104 : decode cX4_watchNight 104 = .ok (.getfield 74, 3) := by decide +kernel
theorem dX4_watchNight_107 : decode cX4_watchNight 107 = .ok (.iconst (-1), 1) := by decide +kernel
theorem dX4_watchNight_108 : decode cX4_watchNight 108 = .ok (.invokevirtual 172, 3) := by decide +kernel
theorem dX4_watchNight_111 : decode cX4_watchNight 111 = .ok (.aload_n 0, 1) := by decide +kernel
theorem dX4_watchNight_112 : decode cX4_watchNight 112 = .ok (.getfield 40, 3) := by decide +kernel
theorem dX4_watchNight_115 : decode cX4_watchNight 115 = .ok (.invokevirtual 176, 3) := by decide +kernel
theorem dX4_watchNight_118 : decode cX4_watchNight 118 = .ok (.return_, 1) := by decide +kernel
theorem dX4_watchLevel_0 : decode cX4_watchLevel 0 = .ok (.aload_n 0, 1) := by decide +kernel
theorem dX4_watchLevel_1 : decode cX4_watchLevel 1 = .ok (.aload_n 0, 1) := by decide +kernel
theorem dX4_watchLevel_2 : decode cX4_watchLevel 2 = .ok (.getfield 51, 3) := by decide +kernel
theorem dX4_watchLevel_5 : decode cX4_watchLevel 5 = .ok (.aload_n 0, 1) := by decide +kernel
theorem dX4_watchLevel_6 : decode cX4_watchLevel 6 = .ok (.getfield 18, 3) := by decide +kernel
theorem dX4_watchLevel_9 : decode cX4_watchLevel 9 = .ok (.bipush 11, 2) := by decide +kernel
theorem dX4_watchLevel_11 : decode cX4_watchLevel 11 = .ok (.iaload, 1) := by decide +kernel
theorem dX4_watchLevel_12 : decode cX4_watchLevel 12 = .ok (.if_icmp .ge 12, 3) := by decide +kernel
theorem dX4_watchLevel_15 : decode cX4_watchLevel 15 = .ok (.aload_n 0, 1) := by decide +kernel
theorem dX4_watchLevel_16 : decode cX4_watchLevel 16 = .ok (.getfield 93, 3) := by decide +kernel
theorem dX4_watchLevel_19 : decode cX4_watchLevel 19 = .ok (.iconst 1, 1) := by decide +kernel
theorem dX4_watchLevel_20 : decode cX4_watchLevel 20 = .ok (.iadd, 1) := by decide +kernel
theorem dX4_watchLevel_21 : decode cX4_watchLevel 21 = .ok (.goto 4, 3) := by decide +kernel
theorem dX4_watchLevel_24 : decode cX4_watchLevel 24 = .ok (.iconst 0, 1) := by decide +kernel
theorem dX4_watchLevel_25 : decode cX4_watchLevel 25 = .ok (.putfield 93, 3) := by decide +kernel
theorem dX4_watchLevel_28 : decode cX4_watchLevel 28 = .ok (.aload_n 0, 1) := by decide +kernel
theorem dX4_watchLevel_29 : decode cX4_watchLevel 29 = .ok (.getfield 89, 3) := by decide +kernel
theorem dX4_watchLevel_32 : decode cX4_watchLevel 32 = .ok (.ifCond .ne 70, 3) := by decide +kernel
theorem dX4_watchLevel_35 : decode cX4_watchLevel 35 = .ok (.aload_n 0, 1) := by decide +kernel
theorem dX4_watchLevel_36 : decode cX4_watchLevel 36 = .ok (.getfield 93, 3) := by decide +kernel
theorem dX4_watchLevel_39 : decode cX4_watchLevel 39 = .ok (.aload_n 0, 1) := by decide +kernel
theorem dX4_watchLevel_40 : decode cX4_watchLevel 40 = .ok (.getfield 18, 3) := by decide +kernel
theorem dX4_watchLevel_43 : decode cX4_watchLevel 43 = .ok (.bipush 13, 2) := by decide +kernel
theorem dX4_watchLevel_45 : decode cX4_watchLevel 45 = .ok (.iaload, 1) := by decide +kernel
theorem dX4_watchLevel_46 : decode cX4_watchLevel 46 = .ok (.if_icmp .lt 56, 3) := by decide +kernel
theorem dX4_watchLevel_49 : decode cX4_watchLevel 49 = .ok (.iconst 0, 1) := by decide +kernel
theorem dX4_watchLevel_50 : decode cX4_watchLevel 50 = .ok (.istore_n 1, 1) := by decide +kernel
theorem dX4_watchLevel_51 : decode cX4_watchLevel 51 = .ok (.iload_n 1, 1) := by decide +kernel
theorem dX4_watchLevel_52 : decode cX4_watchLevel 52 = .ok (.aload_n 0, 1) := by decide +kernel
theorem dX4_watchLevel_53 : decode cX4_watchLevel 53 = .ok (.getfield 26, 3) := by decide +kernel
theorem dX4_watchLevel_56 : decode cX4_watchLevel 56 = .ok (.getfield 179, 3) := by decide +kernel
theorem dX4_watchLevel_59 : decode cX4_watchLevel 59 = .ok (.if_icmp .ge 15, 3) := by decide +kernel
theorem dX4_watchLevel_62 : decode cX4_watchLevel 62 = .ok (.aload_n 0, 1) := by decide +kernel
theorem dX4_watchLevel_63 : decode cX4_watchLevel 63 = .ok (.iload_n 1, 1) := by decide +kernel
theorem dX4_watchLevel_64 : decode cX4_watchLevel 64 = .ok (.invokevirtual 182, 3) := by decide +kernel
theorem dX4_watchLevel_67 : decode cX4_watchLevel 67 = .ok (.pop, 1) := by decide +kernel
theorem dX4_watchLevel_68 : decode cX4_watchLevel 68 = .ok (.iinc 1 1, 3) := by decide +kernel
theorem dX4_watchLevel_71 : decode cX4_watchLevel 71 = .ok (.goto (-20), 3) := by decide +kernel
theorem dX4_watchLevel_74 : decode cX4_watchLevel 74 = .ok (.aload_n 0, 1) := by decide +kernel
theorem dX4_watchLevel_75 : decode cX4_watchLevel 75 = .ok (.iconst 1, 1) := by decide +kernel
theorem dX4_watchLevel_76 : decode cX4_watchLevel 76 = .ok (.putfield 89, 3) := by decide +kernel
theorem dX4_watchLevel_79 : decode cX4_watchLevel 79 = .ok (.aload_n 0, 1) := by decide +kernel
theorem dX4_watchLevel_80 : decode cX4_watchLevel 80 = .ok (.dup, 1) := by decide +kernel
theorem dX4_watchLevel_81 : decode cX4_watchLevel 81 = .ok (.getfield 96, 3) := by decide +kernel
theorem dX4_watchLevel_84 : decode cX4_watchLevel 84 = .ok (.iconst 1, 1) := by decide +kernel
theorem dX4_watchLevel_85 : decode cX4_watchLevel 85 = .ok (.iadd, 1) := by decide +kernel
theorem dX4_watchLevel_86 : decode cX4_watchLevel 86 = .ok (.putfield 96, 3) := by decide +kernel
theorem dX4_watchLevel_89 : decode cX4_watchLevel 89 = .ok (.aload_n 0, 1) := by decide +kernel
theorem dX4_watchLevel_90 : decode cX4_watchLevel 90 = .ok (.getfield 47, 3) := by decide +kernel
theorem dX4_watchLevel_93 : decode cX4_watchLevel 93 = .ok (.iconst 4, 1) := by decide +kernel
theorem dX4_watchLevel_94 : decode cX4_watchLevel 94 = .ok (.aload_n 0, 1) := by decide +kernel
theorem dX4_watchLevel_95 : decode cX4_watchLevel 95 = .ok (.getfield 74, 3) := by decide +kernel
theorem dX4_watchLevel_98 : decode cX4_watchLevel 98 = .ok (.iconst (-1), 1) := by decide +kernel
theorem dX4_watchLevel_99 : decode cX4_watchLevel 99 = .ok (.invokevirtual 172, 3) := by decide +kernel
theorem dX4_watchLevel_102 : decode cX4_watchLevel 102 = .ok (.aload_n 0, 1) := by decide +kernel
theorem dX4_watchLevel_103 : decode cX4_watchLevel 103 = .ok (.getfield 96, 3) := by decide +kernel
theorem dX4_watchLevel_106 : decode cX4_watchLevel 106 = .ok (.iconst 3, 1) := by decide +kernel
theorem dX4_watchLevel_107 : decode cX4_watchLevel 107 = .ok (.if_icmp .ge 7, 3) := by decide +kernel
theorem dX4_watchLevel_110 : decode cX4_watchLevel 110 = .ok (.aload_n 0, 1) := by decide +kernel
theorem dX4_watchLevel_111 : decode cX4_watchLevel 111 = .ok (.invokevirtual 185, 3) := by decide +kernel
theorem dX4_watchLevel_114 : decode cX4_watchLevel 114 = .ok (.return_, 1) := by decide +kernel
theorem dX4_goOnIfFilled_0 : decode cX4_goOnIfFilled 0 = .ok (.aload_n 0, 1) := by decide +kernel
theorem dX4_goOnIfFilled_1 : decode cX4_goOnIfFilled 1 = .ok (.getfield 89, 3) := by decide +kernel
theorem dX4_goOnIfFilled_4 : decode cX4_goOnIfFilled 4 = .ok (.ifCond .eq 35, 3) := by decide +kernel
theorem dX4_goOnIfFilled_7 : decode cX4_goOnIfFilled 7 = .ok (.aload_n 0, 1) := by decide +kernel
theorem dX4_goOnIfFilled_8 : decode cX4_goOnIfFilled 8 = .ok (.getfield 51, 3) := by decide +kernel
theorem dX4_goOnIfFilled_11 : decode cX4_goOnIfFilled 11 = .ok (.aload_n 0, 1) := by decide +kernel
theorem dX4_goOnIfFilled_12 : decode cX4_goOnIfFilled 12 = .ok (.getfield 18, 3) := by decide +kernel
theorem dX4_goOnIfFilled_15 : decode cX4_goOnIfFilled 15 = .ok (.bipush 12, 2) := by decide +kernel
theorem dX4_goOnIfFilled_17 : decode cX4_goOnIfFilled 17 = .ok (.iaload, 1) := by decide +kernel
theorem dX4_goOnIfFilled_18 : decode cX4_goOnIfFilled 18 = .ok (.if_icmp .lt 21, 3) := by decide +kernel
theorem dX4_goOnIfFilled_21 : decode cX4_goOnIfFilled 21 = .ok (.aload_n 0, 1) := by decide +kernel
theorem dX4_goOnIfFilled_22 : decode cX4_goOnIfFilled 22 = .ok (.iconst 0, 1) := by decide +kernel
theorem dX4_goOnIfFilled_23 : decode cX4_goOnIfFilled 23 = .ok (.putfield 89, 3) := by decide +kernel
theorem dX4_goOnIfFilled_26 : decode cX4_goOnIfFilled 26 = .ok (.aload_n 0, 1) := by decide +kernel
theorem dX4_goOnIfFilled_27 : decode cX4_goOnIfFilled 27 = .ok (.getfield 47, 3) := by decide +kernel
theorem dX4_goOnIfFilled_30 : decode cX4_goOnIfFilled 30 = .ok (.iconst 5, 1) := by decide +kernel
theorem dX4_goOnIfFilled_31 : decode cX4_goOnIfFilled 31 = .ok (.aload_n 0, 1) := by decide +kernel
theorem dX4_goOnIfFilled_32 : decode cX4_goOnIfFilled 32 = .ok (.getfield 74, 3) := by decide +kernel
theorem dX4_goOnIfFilled_35 : decode cX4_goOnIfFilled 35 = .ok (.iconst (-1), 1) := by decide +kernel
theorem dX4_goOnIfFilled_36 : decode cX4_goOnIfFilled 36 = .ok (.invokevirtual 172, 3) := by decide +kernel
theorem dX4_goOnIfFilled_39 : decode cX4_goOnIfFilled 39 = .ok (.return_, 1) := by decide +kernel
theorem dX4_forgetTrips_0 : decode cX4_forgetTrips 0 = .ok (.aload_n 0, 1) := by decide +kernel
theorem dX4_forgetTrips_1 : decode cX4_forgetTrips 1 = .ok (.iconst 0, 1) := by decide +kernel
theorem dX4_forgetTrips_2 : decode cX4_forgetTrips 2 = .ok (.putfield 96, 3) := by decide +kernel
theorem dX4_forgetTrips_5 : decode cX4_forgetTrips 5 = .ok (.aload_n 0, 1) := by decide +kernel
theorem dX4_forgetTrips_6 : decode cX4_forgetTrips 6 = .ok (.invokevirtual 185, 3) := by decide +kernel
theorem dX4_forgetTrips_9 : decode cX4_forgetTrips 9 = .ok (.return_, 1) := by decide +kernel
theorem dX4_changeService_0 : decode cX4_changeService 0 = .ok (.aload_n 0, 1) := by decide +kernel
theorem dX4_changeService_1 : decode cX4_changeService 1 = .ok (.getfield 26, 3) := by decide +kernel
theorem dX4_changeService_4 : decode cX4_changeService 4 = .ok (.getfield 188, 3) := by decide +kernel
theorem dX4_changeService_7 : decode cX4_changeService 7 = .ok (.iload_n 1, 1) := by decide +kernel
theorem dX4_changeService_8 : decode cX4_changeService 8 = .ok (.iload_n 2, 1) := by decide +kernel
theorem dX4_changeService_9 : decode cX4_changeService 9 = .ok (.bastore, 1) := by decide +kernel
theorem dX4_changeService_10 : decode cX4_changeService 10 = .ok (.iload_n 2, 1) := by decide +kernel
theorem dX4_changeService_11 : decode cX4_changeService 11 = .ok (.ifCond .ne 15, 3) := by decide +kernel
theorem dX4_changeService_14 : decode cX4_changeService 14 = .ok (.aload_n 0, 1) := by decide +kernel
theorem dX4_changeService_15 : decode cX4_changeService 15 = .ok (.iload_n 1, 1) := by decide +kernel
theorem dX4_changeService_16 : decode cX4_changeService 16 = .ok (.invokevirtual 182, 3) := by decide +kernel
theorem dX4_changeService_19 : decode cX4_changeService 19 = .ok (.ifCond .eq 7, 3) := by decide +kernel
theorem dX4_changeService_22 : decode cX4_changeService 22 = .ok (.iconst 1, 1) := by decide +kernel
theorem dX4_changeService_23 : decode cX4_changeService 23 = .ok (.goto 4, 3) := by decide +kernel
theorem dX4_changeService_26 : decode cX4_changeService 26 = .ok (.iconst 0, 1) := by decide +kernel
theorem dX4_changeService_27 : decode cX4_changeService 27 = .ok (.ireturn, 1) := by decide +kernel
theorem dX4_start_0 : decode cX4_start 0 = .ok (.aload_n 0, 1) := by decide +kernel
theorem dX4_start_1 : decode cX4_start 1 = .ok (.getfield 26, 3) := by decide +kernel
theorem dX4_start_4 : decode cX4_start 4 = .ok (.iload_n 1, 1) := by decide +kernel
theorem dX4_start_5 : decode cX4_start 5 = .ok (.iload_n 2, 1) := by decide +kernel
theorem dX4_start_6 : decode cX4_start 6 = .ok (.invokevirtual 192, 3) := by decide +kernel
theorem dX4_start_9 : decode cX4_start 9 = .ok (.aload_n 0, 1) := by decide +kernel
theorem dX4_start_10 : decode cX4_start 10 = .ok (.getfield 47, 3) := by decide +kernel
theorem dX4_start_13 : decode cX4_start 13 = .ok (.iconst 0, 1) := by decide +kernel
theorem dX4_start_14 : decode cX4_start 14 = .ok (.aload_n 0, 1) := by decide +kernel
theorem dX4_start_15 : decode cX4_start 15 = .ok (.getfield 74, 3) := by decide +kernel
theorem dX4_start_18 : decode cX4_start 18 = .ok (.iload_n 1, 1) := by decide +kernel
theorem dX4_start_19 : decode cX4_start 19 = .ok (.invokevirtual 172, 3) := by decide +kernel
theorem dX4_start_22 : decode cX4_start 22 = .ok (.return_, 1) := by decide +kernel
theorem dX4_stop_0 : decode cX4_stop 0 = .ok (.aload_n 0, 1) := by decide +kernel
theorem dX4_stop_1 : decode cX4_stop 1 = .ok (.getfield 26, 3) := by decide +kernel
theorem dX4_stop_4 : decode cX4_stop 4 = .ok (.iload_n 1, 1) := by decide +kernel
theorem dX4_stop_5 : decode cX4_stop 5 = .ok (.invokevirtual 196, 3) := by decide +kernel
theorem dX4_stop_8 : decode cX4_stop 8 = .ok (.ifCond .ne 5, 3) := by decide +kernel
theorem dX4_stop_11 : decode cX4_stop 11 = .ok (.iconst 0, 1) := by decide +kernel
theorem dX4_stop_12 : decode cX4_stop 12 = .ok (.ireturn, 1) := by decide +kernel
theorem dX4_stop_13 : decode cX4_stop 13 = .ok (.aload_n 0, 1) := by decide +kernel
theorem dX4_stop_14 : decode cX4_stop 14 = .ok (.getfield 26, 3) := by decide +kernel
theorem dX4_stop_17 : decode cX4_stop 17 = .ok (.iload_n 1, 1) := by decide +kernel
theorem dX4_stop_18 : decode cX4_stop 18 = .ok (.invokevirtual 199, 3) := by decide +kernel
theorem dX4_stop_21 : decode cX4_stop 21 = .ok (.aload_n 0, 1) := by decide +kernel
theorem dX4_stop_22 : decode cX4_stop 22 = .ok (.getfield 47, 3) := by decide +kernel
theorem dX4_stop_25 : decode cX4_stop 25 = .ok (.iconst 1, 1) := by decide +kernel
theorem dX4_stop_26 : decode cX4_stop 26 = .ok (.aload_n 0, 1) := by decide +kernel
theorem dX4_stop_27 : decode cX4_stop 27 = .ok (.getfield 74, 3) := by decide +kernel
theorem dX4_stop_30 : decode cX4_stop 30 = .ok (.iload_n 1, 1) := by decide +kernel
theorem dX4_stop_31 : decode cX4_stop 31 = .ok (.invokevirtual 172, 3) := by decide +kernel
theorem dX4_stop_34 : decode cX4_stop 34 = .ok (.iconst 1, 1) := by decide +kernel
theorem dX4_stop_35 : decode cX4_stop 35 = .ok (.ireturn, 1) := by decide +kernel
theorem dX4_adjustSpeed_0 : decode cX4_adjustSpeed 0 = .ok (.aload_n 0, 1) := by decide +kernel
theorem dX4_adjustSpeed_1 : decode cX4_adjustSpeed 1 = .ok (.getfield 26, 3) := by decide +kernel
theorem dX4_adjustSpeed_4 : decode cX4_adjustSpeed 4 = .ok (.invokevirtual 201, 3) := by decide +kernel
theorem dX4_adjustSpeed_7 : decode cX4_adjustSpeed 7 = .ok (.ifCond .ne 4, 3) := by decide +kernel
theorem dX4_adjustSpeed_10 : decode cX4_adjustSpeed 10 = .ok (.return_, 1) := by decide +kernel
theorem dX4_adjustSpeed_11 : decode cX4_adjustSpeed 11 = .ok (.aload_n 0, 1) := by decide +kernel
theorem dX4_adjustSpeed_12 : decode cX4_adjustSpeed 12 = .ok (.getfield 18, 3) := by decide +kernel
theorem dX4_adjustSpeed_15 : decode cX4_adjustSpeed 15 = .ok (.iconst 0, 1) := by decide +kernel
theorem dX4_adjustSpeed_16 : decode cX4_adjustSpeed 16 = .ok (.iaload, 1) := by decide +kernel
theorem dX4_adjustSpeed_17 : decode cX4_adjustSpeed 17 = .ok (.aload_n 0, 1) := by decide +kernel
theorem dX4_adjustSpeed_18 : decode cX4_adjustSpeed 18 = .ok (.getfield 77, 3) := by decide +kernel
theorem dX4_adjustSpeed_21 : decode cX4_adjustSpeed 21 = .ok (.isub, 1) := by decide +kernel
theorem dX4_adjustSpeed_22 : decode cX4_adjustSpeed 22 = .ok (.aload_n 0, 1) := by decide +kernel
theorem dX4_adjustSpeed_23 : decode cX4_adjustSpeed 23 = .ok (.getfield 18, 3) := by decide +kernel
theorem dX4_adjustSpeed_26 : decode cX4_adjustSpeed 26 = .ok (.iconst 2, 1) := by decide +kernel
theorem dX4_adjustSpeed_27 : decode cX4_adjustSpeed 27 = .ok (.iaload, 1) := by decide +kernel
theorem dX4_adjustSpeed_28 : decode cX4_adjustSpeed 28 = .ok (.imul, 1) := by decide +kernel
theorem dX4_adjustSpeed_29 : decode cX4_adjustSpeed 29 = .ok (.bipush 100, 2) := by decide +kernel
theorem dX4_adjustSpeed_31 : decode cX4_adjustSpeed 31 = .ok (.idiv, 1) := by decide +kernel
theorem dX4_adjustSpeed_32 : decode cX4_adjustSpeed 32 = .ok (.istore_n 1, 1) := by decide +kernel
theorem dX4_adjustSpeed_33 : decode cX4_adjustSpeed 33 = .ok (.iload_n 1, 1) := by decide +kernel
theorem dX4_adjustSpeed_34 : decode cX4_adjustSpeed 34 = .ok (.aload_n 0, 1) := by decide +kernel
theorem dX4_adjustSpeed_35 : decode cX4_adjustSpeed 35 = .ok (.getfield 18, 3) := by decide +kernel
theorem dX4_adjustSpeed_38 : decode cX4_adjustSpeed 38 = .ok (.iconst 3, 1) := by decide +kernel
theorem dX4_adjustSpeed_39 : decode cX4_adjustSpeed 39 = .ok (.iaload, 1) := by decide +kernel
theorem dX4_adjustSpeed_40 : decode cX4_adjustSpeed 40 = .ok (.ineg, 1) := by decide +kernel
theorem dX4_adjustSpeed_41 : decode cX4_adjustSpeed 41 = .ok (.aload_n 0, 1) := by decide +kernel
theorem dX4_adjustSpeed_42 : decode cX4_adjustSpeed 42 = .ok (.getfield 18, 3) := by decide +kernel
theorem dX4_adjustSpeed_45 : decode cX4_adjustSpeed 45 = .ok (.iconst 3, 1) := by decide +kernel
theorem dX4_adjustSpeed_46 : decode cX4_adjustSpeed 46 = .ok (.iaload, 1) := by decide +kernel
theorem dX4_adjustSpeed_47 : decode cX4_adjustSpeed 47 = .ok (.invokestatic 159, 3) := by decide +kernel
theorem dX4_adjustSpeed_50 : decode cX4_adjustSpeed 50 = .ok (.istore_n 2, 1) := by decide +kernel
theorem dX4_adjustSpeed_51 : decode cX4_adjustSpeed 51 = .ok (.aload_n 0, 1) := by decide +kernel
theorem dX4_adjustSpeed_52 : decode cX4_adjustSpeed 52 = .ok (.getfield 26, 3) := by decide +kernel
theorem dX4_adjustSpeed_55 : decode cX4_adjustSpeed 55 = .ok (.getfield 205, 3) := by decide +kernel
theorem dX4_adjustSpeed_58 : decode cX4_adjustSpeed 58 = .ok (.aload_n 0, 1) := by decide +kernel
theorem dX4_adjustSpeed_59 : decode cX4_adjustSpeed 59 = .ok (.getfield 26, 3) := by decide +kernel
theorem dX4_adjustSpeed_62 : decode cX4_adjustSpeed 62 = .ok (.getfield 208, 3) := by decide +kernel
theorem dX4_adjustSpeed_65 : decode cX4_adjustSpeed 65 = .ok (.iaload, 1) := by decide +kernel
theorem dX4_adjustSpeed_66 : decode cX4_adjustSpeed 66 = .ok (.iload_n 2, 1) := by decide +kernel
theorem dX4_adjustSpeed_67 : decode cX4_adjustSpeed 67 = .ok (.iadd, 1) := by decide +kernel
theorem dX4_adjustSpeed_68 : decode cX4_adjustSpeed 68 = .ok (.istore_n 3, 1) := by decide +kernel
theorem dX4_adjustSpeed_69 : decode cX4_adjustSpeed 69 = .ok (.aload_n 0, 1) := by decide +kernel
theorem dX4_adjustSpeed_70 : decode cX4_adjustSpeed 70 = .ok (.getfield 26, 3) := by decide +kernel
theorem dX4_adjustSpeed_73 : decode cX4_adjustSpeed 73 = .ok (.getfield 205, 3) := by decide +kernel
theorem dX4_adjustSpeed_76 : decode cX4_adjustSpeed 76 = .ok (.aload_n 0, 1) := by decide +kernel
theorem dX4_adjustSpeed_77 : decode cX4_adjustSpeed 77 = .ok (.getfield 26, 3) := by decide +kernel
theorem dX4_adjustSpeed_80 : decode cX4_adjustSpeed 80 = .ok (.getfield 208, 3) := by decide +kernel
theorem dX4_adjustSpeed_83 : decode cX4_adjustSpeed 83 = .ok (.iload_n 3, 1) := by decide +kernel
theorem dX4_adjustSpeed_84 : decode cX4_adjustSpeed 84 = .ok (.aload_n 0, 1) := by decide +kernel
theorem dX4_adjustSpeed_85 : decode cX4_adjustSpeed 85 = .ok (.getfield 18, 3) := by decide +kernel
theorem dX4_adjustSpeed_88 : decode cX4_adjustSpeed 88 = .ok (.iconst 4, 1) := by decide +kernel
theorem dX4_adjustSpeed_89 : decode cX4_adjustSpeed 89 = .ok (.iaload, 1) := by decide +kernel
theorem dX4_adjustSpeed_90 : decode cX4_adjustSpeed 90 = .ok (.sipush 1000, 3) := by decide +kernel
theorem dX4_adjustSpeed_93 : decode cX4_adjustSpeed 93 = .ok (.invokestatic 159, 3) := by decide +kernel
theorem dX4_adjustSpeed_96 : decode cX4_adjustSpeed 96 = .ok (.iastore, 1) := by decide +kernel
theorem dX4_adjustSpeed_97 : decode cX4_adjustSpeed 97 = .ok (.return_, 1) := by decide +kernel
theorem dX4_wake_0 : decode cX4_wake 0 = .ok (.aload_n 0, 1) := by decide +kernel
theorem dX4_wake_1 : decode cX4_wake 1 = .ok (.getfield 26, 3) := by decide +kernel
theorem dX4_wake_4 : decode cX4_wake 4 = .ok (.invokevirtual 211, 3) := by decide +kernel
theorem dX4_wake_7 : decode cX4_wake 7 = .ok (.ifCond .gt 24, 3) := by decide +kernel
theorem dX4_wake_10 : decode cX4_wake 10 = .ok (.aload_n 0, 1) := by decide +kernel
theorem dX4_wake_11 : decode cX4_wake 11 = .ok (.getfield 77, 3) := by decide +kernel
theorem dX4_wake_14 : decode cX4_wake 14 = .ok (.aload_n 0, 1) := by decide +kernel
theorem dX4_wake_15 : decode cX4_wake 15 = .ok (.getfield 18, 3) := by decide +kernel
theorem dX4_wake_18 : decode cX4_wake 18 = .ok (.iconst 0, 1) := by decide +kernel
theorem dX4_wake_19 : decode cX4_wake 19 = .ok (.iaload, 1) := by decide +kernel
theorem dX4_wake_20 : decode cX4_wake 20 = .ok (.aload_n 0, 1) := by decide +kernel
theorem dX4_wake_21 : decode cX4_wake 21 = .ok (.getfield 18, 3) := by decide +kernel
theorem dX4_wake_24 : decode cX4_wake 24 = .ok (.bipush 9, 2) := by decide +kernel
theorem dX4_wake_26 : decode cX4_wake 26 = .ok (.iaload, 1) := by decide +kernel
theorem dX4_wake_27 : decode cX4_wake 27 = .ok (.isub, 1) := by decide +kernel
theorem dX4_wake_28 : decode cX4_wake 28 = .ok (.if_icmp .lt 4, 3) := by decide +kernel
theorem dX4_wake_31 : decode cX4_wake 31 = .ok (.return_, 1) := by decide +kernel
theorem dX4_wake_32 : decode cX4_wake 32 = .ok (.aload_n 0, 1) := by decide +kernel
theorem dX4_wake_33 : decode cX4_wake 33 = .ok (.getfield 26, 3) := by decide +kernel
theorem dX4_wake_36 : decode cX4_wake 36 = .ok (.iconst 0, 1) := by decide +kernel
theorem dX4_wake_37 : decode cX4_wake 37 = .ok (.invokevirtual 214, 3) := by decide +kernel
theorem dX4_wake_40 : decode cX4_wake 40 = .ok (.istore_n 1, 1) := by decide +kernel
theorem dX4_wake_41 : decode cX4_wake 41 = .ok (.iload_n 1, 1) := by decide +kernel
theorem dX4_wake_42 : decode cX4_wake 42 = .ok (.iconst (-1), 1) := by decide +kernel
theorem dX4_wake_43 : decode cX4_wake 43 = .ok (.if_icmp .eq 27, 3) := by decide +kernel
theorem dX4_wake_46 : decode cX4_wake 46 = .ok (.aload_n 0, 1) := by decide +kernel
theorem dX4_wake_47 : decode cX4_wake 47 = .ok (.iload_n 1, 1) := by decide +kernel
theorem dX4_wake_48 : decode cX4_wake 48 = .ok (.aload_n 0, 1) := by decide +kernel
theorem dX4_wake_49 : decode cX4_wake 49 = .ok (.getfield 18, 3) := by decide +kernel
theorem dX4_wake_52 : decode cX4_wake 52 = .ok (.iconst 4, 1) := by decide +kernel
theorem dX4_wake_53 : decode cX4_wake 53 = .ok (.iaload, 1) := by decide +kernel
theorem dX4_wake_54 : decode cX4_wake 54 = .ok (.invokevirtual 217, 3) := by decide +kernel
theorem dX4_wake_57 : decode cX4_wake 57 = .ok (.aload_n 0, 1) := by decide +kernel
theorem dX4_wake_58 : decode cX4_wake 58 = .ok (.getfield 47, 3) := by decide +kernel
theorem dX4_wake_61 : decode cX4_wake 61 = .ok (.iconst 3, 1) := by decide +kernel
theorem dX4_wake_62 : decode cX4_wake 62 = .ok (.aload_n 0, 1) := by decide +kernel
theorem dX4_wake_63 : decode cX4_wake 63 = .ok (.getfield 74, 3) := by decide +kernel
theorem dX4_wake_66 : decode cX4_wake 66 = .ok (.iconst (-1), 1) := by decide +kernel
theorem dX4_wake_67 : decode cX4_wake 67 = .ok (.invokevirtual 172, 3) := by decide +kernel
theorem dX4_wake_70 : decode cX4_wake 70 = .ok (.return_, 1) := by decide +kernel
theorem dX4_beginMinutesAnew_0 : decode cX4_beginMinutesAnew 0 = .ok (.aload_n 0, 1) := by decide +kernel
theorem dX4_beginMinutesAnew_1 : decode cX4_beginMinutesAnew 1 = .ok (.iconst 0, 1) := by decide +kernel
theorem dX4_beginMinutesAnew_2 : decode cX4_beginMinutesAnew 2 = .ok (.putfield 99, 3) := by decide +kernel
theorem dX4_beginMinutesAnew_5 : decode cX4_beginMinutesAnew 5 = .ok (.aload_n 0, 1) := by decide +kernel
theorem dX4_beginMinutesAnew_6 : decode cX4_beginMinutesAnew 6 = .ok (.iconst 0, 1) := by decide +kernel
theorem dX4_beginMinutesAnew_7 : decode cX4_beginMinutesAnew 7 = .ok (.putfield 102, 3) := by decide +kernel
theorem dX4_beginMinutesAnew_10 : decode cX4_beginMinutesAnew 10 = .ok (.aload_n 0, 1) := by decide +kernel
theorem dX4_beginMinutesAnew_11 : decode cX4_beginMinutesAnew 11 = .ok (.iconst 0, 1) := by decide +kernel
theorem dX4_beginMinutesAnew_12 : decode cX4_beginMinutesAnew 12 = .ok (.putfield 105, 3) := by decide +kernel
theorem dX4_beginMinutesAnew_15 : decode cX4_beginMinutesAnew 15 = .ok (.return_, 1) := by decide +kernel
theorem dX4_countMinutes_0 : decode cX4_countMinutes 0 = .ok (.aload_n 0, 1) := by decide +kernel
theorem dX4_countMinutes_1 : decode cX4_countMinutes 1 = .ok (.getfield 26, 3) := by decide +kernel
theorem dX4_countMinutes_4 : decode cX4_countMinutes 4 = .ok (.invokevirtual 211, 3) := by decide +kernel
theorem dX4_countMinutes_7 : decode cX4_countMinutes 7 = .ok (.istore_n 1, 1) := by decide +kernel
theorem dX4_countMinutes_8 : decode cX4_countMinutes 8 = .ok (.aload_n 0, 1) := by decide +kernel
theorem dX4_countMinutes_9 : decode cX4_countMinutes 9 = .ok (.getfield 77, 3) := by decide +kernel
theorem dX4_countMinutes_12 : decode cX4_countMinutes 12 = .ok (.aload_n 0, 1) := by decide +kernel
theorem dX4_countMinutes_13 : decode cX4_countMinutes 13 = .ok (.getfield 18, 3) := by decide +kernel
theorem dX4_countMinutes_16 : decode cX4_countMinutes 16 = .ok (.iconst 0, 1) := by decide +kernel
theorem dX4_countMinutes_17 : decode cX4_countMinutes 17 = .ok (.iaload, 1) := by decide +kernel
theorem dX4_countMinutes_18 : decode cX4_countMinutes 18 = .ok (.aload_n 0, 1) := by decide +kernel
theorem dX4_countMinutes_19 : decode cX4_countMinutes 19 = .ok (.getfield 18, 3) := by decide +kernel
theorem dX4_countMinutes_22 : decode cX4_countMinutes 22 = .ok (.iconst 1, 1) := by decide +kernel
theorem dX4_countMinutes_23 : decode cX4_countMinutes 23 = .ok (.iaload, 1) := by decide +kernel
theorem dX4_countMinutes_24 : decode cX4_countMinutes 24 = .ok (.isub, 1) := by decide +kernel
theorem dX4_countMinutes_25 : decode cX4_countMinutes 25 = .ok (.if_icmp .ge 7, 3) := by decide +kernel
theorem dX4_countMinutes_28 : decode cX4_countMinutes 28 = .ok (.iconst 1, 1) := by decide +kernel
theorem dX4_countMinutes_29 : decode cX4_countMinutes 29 = .ok (.goto 4, 3) := by decide +kernel
theorem dX4_countMinutes_32 : decode cX4_countMinutes 32 = .ok (.iconst 0, 1) := by decide +kernel
theorem dX4_countMinutes_33 : decode cX4_countMinutes 33 = .ok (.istore_n 2, 1) := by decide +kernel
theorem dX4_countMinutes_34 : decode cX4_countMinutes 34 = .ok (.aload_n 0, 1) := by decide +kernel
theorem dX4_countMinutes_35 : decode cX4_countMinutes 35 = .ok (.getfield 77, 3) := by decide +kernel
theorem dX4_countMinutes_38 : decode cX4_countMinutes 38 = .ok (.aload_n 0, 1) := by decide +kernel
theorem dX4_countMinutes_39 : decode cX4_countMinutes 39 = .ok (.getfield 18, 3) := by decide +kernel
theorem dX4_countMinutes_42 : decode cX4_countMinutes 42 = .ok (.iconst 0, 1) := by decide +kernel
theorem dX4_countMinutes_43 : decode cX4_countMinutes 43 = .ok (.iaload, 1) := by decide +kernel
theorem dX4_countMinutes_44 : decode cX4_countMinutes 44 = .ok (.aload_n 0, 1) := by decide +kernel
theorem dX4_countMinutes_45 : decode cX4_countMinutes 45 = .ok (.getfield 18, 3) := by decide +kernel
theorem dX4_countMinutes_48 : decode cX4_countMinutes 48 = .ok (.iconst 1, 1) := by decide +kernel
theorem dX4_countMinutes_49 : decode cX4_countMinutes 49 = .ok (.iaload, 1) := by decide +kernel
theorem dX4_countMinutes_50 : decode cX4_countMinutes 50 = .ok (.iadd, 1) := by decide +kernel
theorem dX4_countMinutes_51 : decode cX4_countMinutes 51 = .ok (.if_icmp .le 7, 3) := by decide +kernel
theorem dX4_countMinutes_54 : decode cX4_countMinutes 54 = .ok (.iconst 1, 1) := by decide +kernel
theorem dX4_countMinutes_55 : decode cX4_countMinutes 55 = .ok (.goto 4, 3) := by decide +kernel
theorem dX4_countMinutes_58 : decode cX4_countMinutes 58 = .ok (.iconst 0, 1) := by decide +kernel
theorem dX4_countMinutes_59 : decode cX4_countMinutes 59 = .ok (.istore_n 3, 1) := by decide +kernel
theorem dX4_countMinutes_60 : decode cX4_countMinutes 60 = .ok (.aload_n 0, 1) := by decide +kernel
theorem dX4_countMinutes_61 : decode cX4_countMinutes 61 = .ok (.getfield 26, 3) := by decide +kernel
theorem dX4_countMinutes_64 : decode cX4_countMinutes 64 = .ok (.invokevirtual 201, 3) := by decide +kernel
theorem dX4_countMinutes_67 : decode cX4_countMinutes 67 = .ok (.ifCond .ne 7, 3) := by decide +kernel
theorem dX4_countMinutes_70 : decode cX4_countMinutes 70 = .ok (.iconst 1, 1) := by decide +kernel
theorem dX4_countMinutes_71 : decode cX4_countMinutes 71 = .ok (.goto 4, 3) := by decide +kernel
theorem dX4_countMinutes_74 : decode cX4_countMinutes 74 = .ok (.iconst 0, 1) := by decide +kernel
theorem dX4_countMinutes_75 : decode cX4_countMinutes 75 = .ok (.istore 4, 2) := by decide +kernel
theorem dX4_countMinutes_77 : decode cX4_countMinutes 77 = .ok (.aload_n 0, 1) := by decide +kernel
theorem dX4_countMinutes_78 : decode cX4_countMinutes 78 = .ok (.getfield 26, 3) := by decide +kernel
theorem dX4_countMinutes_81 : decode cX4_countMinutes 81 = .ok (.sipush 1000, 3) := by decide +kernel
theorem dX4_countMinutes_84 : decode cX4_countMinutes 84 = .ok (.invokevirtual 218, 3) := by decide +kernel
theorem dX4_countMinutes_87 : decode cX4_countMinutes 87 = .ok (.istore 5, 2) := by decide +kernel
theorem dX4_countMinutes_89 : decode cX4_countMinutes 89 = .ok (.aload_n 0, 1) := by decide +kernel
theorem dX4_countMinutes_90 : decode cX4_countMinutes 90 = .ok (.getfield 26, 3) := by decide +kernel
theorem dX4_countMinutes_93 : decode cX4_countMinutes 93 = .ok (.aload_n 0, 1) := by decide +kernel
theorem dX4_countMinutes_94 : decode cX4_countMinutes 94 = .ok (.getfield 18, 3) := by decide +kernel
theorem dX4_countMinutes_97 : decode cX4_countMinutes 97 = .ok (.iconst 4, 1) := by decide +kernel
theorem dX4_countMinutes_98 : decode cX4_countMinutes 98 = .ok (.iaload, 1) := by decide +kernel
theorem dX4_countMinutes_99 : decode cX4_countMinutes 99 = .ok (.invokevirtual 218, 3) := by decide +kernel
theorem dX4_countMinutes_102 : decode cX4_countMinutes 102 = .ok (.istore 6, 2) := by decide +kernel
theorem dX4_countMinutes_104 : decode cX4_countMinutes 104 = .ok (.iload_n 1, 1) := by decide +kernel
theorem dX4_countMinutes_105 : decode cX4_countMinutes 105 = .ok (.ifCond .le 21, 3) := by decide +kernel
theorem dX4_countMinutes_108 : decode cX4_countMinutes 108 = .ok (.iload_n 2, 1) := by decide +kernel
theorem dX4_countMinutes_109 : decode cX4_countMinutes 109 = .ok (.ifCond .eq 17, 3) := by decide +kernel
theorem dX4_countMinutes_112 : decode cX4_countMinutes 112 = .ok (.iload 4, 2) := by decide +kernel
theorem dX4_countMinutes_114 : decode cX4_countMinutes 114 = .ok (.ifCond .ne 8, 3) := by decide +kernel
theorem dX4_countMinutes_117 : decode cX4_countMinutes 117 = .ok (.iload 5, 2) := by decide +kernel
theorem dX4_countMinutes_119 : decode cX4_countMinutes 119 = .ok (.ifCond .eq 7, 3) := by decide +kernel
theorem dX4_countMinutes_122 : decode cX4_countMinutes 122 = .ok (.iconst 1, 1) := by decide +kernel
theorem dX4_countMinutes_123 : decode cX4_countMinutes 123 = .ok (.goto 4, 3) := by decide +kernel
theorem dX4_countMinutes_126 : decode cX4_countMinutes 126 = .ok (.iconst 0, 1) := by decide +kernel
theorem dX4_countMinutes_127 : decode cX4_countMinutes 127 = .ok (.istore 7, 2) := by decide +kernel
theorem dX4_countMinutes_129 : decode cX4_countMinutes 129 = .ok (.iload_n 1, 1) := by decide +kernel
theorem dX4_countMinutes_130 : decode cX4_countMinutes 130 = .ok (.ifCond .le 21, 3) := by decide +kernel
theorem dX4_countMinutes_133 : decode cX4_countMinutes 133 = .ok (.iload_n 3, 1) := by decide +kernel
theorem dX4_countMinutes_134 : decode cX4_countMinutes 134 = .ok (.ifCond .eq 17, 3) := by decide +kernel
theorem dX4_countMinutes_137 : decode cX4_countMinutes 137 = .ok (.iload 4, 2) := by decide +kernel
theorem dX4_countMinutes_139 : decode cX4_countMinutes 139 = .ok (.ifCond .ne 8, 3) := by decide +kernel
theorem dX4_countMinutes_142 : decode cX4_countMinutes 142 = .ok (.iload 6, 2) := by decide +kernel
theorem dX4_countMinutes_144 : decode cX4_countMinutes 144 = .ok (.ifCond .eq 7, 3) := by decide +kernel
theorem dX4_countMinutes_147 : decode cX4_countMinutes 147 = .ok (.iconst 1, 1) := by decide +kernel
theorem dX4_countMinutes_148 : decode cX4_countMinutes 148 = .ok (.goto 4, 3) := by decide +kernel
theorem dX4_countMinutes_151 : decode cX4_countMinutes 151 = .ok (.iconst 0, 1) := by decide +kernel
theorem dX4_countMinutes_152 : decode cX4_countMinutes 152 = .ok (.istore 8, 2) := by decide +kernel
theorem dX4_countMinutes_154 : decode cX4_countMinutes 154 = .ok (.iload_n 1, 1) := by decide +kernel
theorem dX4_countMinutes_155 : decode cX4_countMinutes 155 = .ok (.iconst 1, 1) := by decide +kernel
theorem dX4_countMinutes_156 : decode cX4_countMinutes 156 = .ok (.if_icmp .ne 26, 3) := by decide +kernel
theorem dX4_countMinutes_159 : decode cX4_countMinutes 159 = .ok (.iload 6, 2) := by decide +kernel
theorem dX4_countMinutes_161 : decode cX4_countMinutes 161 = .ok (.ifCond .eq 21, 3) := by decide +kernel
theorem dX4_countMinutes_164 : decode cX4_countMinutes 164 = .ok (.aload_n 0, 1) := by decide +kernel
theorem dX4_countMinutes_165 : decode cX4_countMinutes 165 = .ok (.getfield 83, 3) := by decide +kernel
theorem dX4_countMinutes_168 : decode cX4_countMinutes 168 = .ok (.aload_n 0, 1) := by decide +kernel
theorem dX4_countMinutes_169 : decode cX4_countMinutes 169 = .ok (.getfield 18, 3) := by decide +kernel
theorem dX4_countMinutes_172 : decode cX4_countMinutes 172 = .ok (.bipush 7, 2) := by decide +kernel
theorem dX4_countMinutes_174 : decode cX4_countMinutes 174 = .ok (.iaload, 1) := by decide +kernel
theorem dX4_countMinutes_175 : decode cX4_countMinutes 175 = .ok (.if_icmp .ge 7, 3) := by decide +kernel
theorem dX4_countMinutes_178 : decode cX4_countMinutes 178 = .ok (.iconst 1, 1) := by decide +kernel
theorem dX4_countMinutes_179 : decode cX4_countMinutes 179 = .ok (.goto 4, 3) := by decide +kernel
theorem dX4_countMinutes_182 : decode cX4_countMinutes 182 = .ok (.iconst 0, 1) := by decide +kernel
theorem dX4_countMinutes_183 : decode cX4_countMinutes 183 = .ok (.istore 9, 2) := by decide +kernel
theorem dX4_countMinutes_185 : decode cX4_countMinutes 185 = .ok (.aload_n 0, 1) := by decide +kernel
theorem dX4_countMinutes_186 : decode cX4_countMinutes 186 = .ok (.iload 7, 2) := by decide +kernel
theorem dX4_countMinutes_188 : decode cX4_countMinutes 188 = .ok (.ifCond .eq 12, 3) := by decide +kernel
theorem dX4_countMinutes_191 : decode cX4_countMinutes 191 = .ok (.aload_n 0, 1) := by decide +kernel
theorem dX4_countMinutes_192 : decode cX4_countMinutes 192 = .ok (.getfield 99, 3) := by decide +kernel
theorem dX4_countMinutes_195 : decode cX4_countMinutes 195 = .ok (.iconst 1, 1) := by decide +kernel
theorem dX4_countMinutes_196 : decode cX4_countMinutes 196 = .ok (.iadd, 1) := by decide +kernel
theorem dX4_countMinutes_197 : decode cX4_countMinutes 197 = .ok (.goto 4, 3) := by decide +kernel
theorem dX4_countMinutes_200 : decode cX4_countMinutes 200 = .ok (.iconst 0, 1) := by decide +kernel
theorem dX4_countMinutes_201 : decode cX4_countMinutes 201 = .ok (.putfield 99, 3) := by decide +kernel
theorem dX4_countMinutes_204 : decode cX4_countMinutes 204 = .ok (.aload_n 0, 1) := by decide +kernel
theorem dX4_countMinutes_205 : decode cX4_countMinutes 205 = .ok (.iload 8, 2) := by decide +kernel
theorem dX4_countMinutes_207 : decode cX4_countMinutes 207 = .ok (.ifCond .eq 12, 3) := by decide +kernel
theorem dX4_countMinutes_210 : decode cX4_countMinutes 210 = .ok (.aload_n 0, 1) := by decide +kernel
theorem dX4_countMinutes_211 : decode cX4_countMinutes 211 = .ok (.getfield 102, 3) := by decide +kernel
theorem dX4_countMinutes_214 : decode cX4_countMinutes 214 = .ok (.iconst 1, 1) := by decide +kernel
theorem dX4_countMinutes_215 : decode cX4_countMinutes 215 = .ok (.iadd, 1) := by decide +kernel
theorem dX4_countMinutes_216 : decode cX4_countMinutes 216 = .ok (.goto 4, 3) := by decide +kernel
theorem dX4_countMinutes_219 : decode cX4_countMinutes 219 = .ok (.iconst 0, 1) := by decide +kernel
theorem dX4_countMinutes_220 : decode cX4_countMinutes 220 = .ok (.putfield 102, 3) := by decide +kernel
theorem dX4_countMinutes_223 : decode cX4_countMinutes 223 = .ok (.aload_n 0, 1) := by decide +kernel
theorem dX4_countMinutes_224 : decode cX4_countMinutes 224 = .ok (.iload 9, 2) := by decide +kernel
theorem dX4_countMinutes_226 : decode cX4_countMinutes 226 = .ok (.ifCond .eq 12, 3) := by decide +kernel
theorem dX4_countMinutes_229 : decode cX4_countMinutes 229 = .ok (.aload_n 0, 1) := by decide +kernel
theorem dX4_countMinutes_230 : decode cX4_countMinutes 230 = .ok (.getfield 105, 3) := by decide +kernel
theorem dX4_countMinutes_233 : decode cX4_countMinutes 233 = .ok (.iconst 1, 1) := by decide +kernel
theorem dX4_countMinutes_234 : decode cX4_countMinutes 234 = .ok (.iadd, 1) := by decide +kernel
theorem dX4_countMinutes_235 : decode cX4_countMinutes 235 = .ok (.goto 4, 3) := by decide +kernel
theorem dX4_countMinutes_238 : decode cX4_countMinutes 238 = .ok (.iconst 0, 1) := by decide +kernel
theorem dX4_countMinutes_239 : decode cX4_countMinutes 239 = .ok (.putfield 105, 3) := by decide +kernel
theorem dX4_countMinutes_242 : decode cX4_countMinutes 242 = .ok (.return_, 1) := by decide +kernel
theorem dX4_cascade_0 : decode cX4_cascade 0 = .ok (.aload_n 0, 1) := by decide +kernel
theorem dX4_cascade_1 : decode cX4_cascade 1 = .ok (.getfield 26, 3) := by decide +kernel
theorem dX4_cascade_4 : decode cX4_cascade 4 = .ok (.iconst 0, 1) := by decide +kernel
theorem dX4_cascade_5 : decode cX4_cascade 5 = .ok (.invokevirtual 214, 3) := by decide +kernel
theorem dX4_cascade_8 : decode cX4_cascade 8 = .ok (.istore_n 1, 1) := by decide +kernel
theorem dX4_cascade_9 : decode cX4_cascade 9 = .ok (.iload_n 1, 1) := by decide +kernel
theorem dX4_cascade_10 : decode cX4_cascade 10 = .ok (.iconst (-1), 1) := by decide +kernel
theorem dX4_cascade_11 : decode cX4_cascade 11 = .ok (.if_icmp .eq 30, 3) := by decide +kernel
theorem dX4_cascade_14 : decode cX4_cascade 14 = .ok (.aload_n 0, 1) := by decide +kernel
theorem dX4_cascade_15 : decode cX4_cascade 15 = .ok (.getfield 99, 3) := by decide +kernel
theorem dX4_cascade_18 : decode cX4_cascade 18 = .ok (.aload_n 0, 1) := by decide +kernel
theorem dX4_cascade_19 : decode cX4_cascade 19 = .ok (.getfield 18, 3) := by decide +kernel
theorem dX4_cascade_22 : decode cX4_cascade 22 = .ok (.iconst 5, 1) := by decide +kernel
theorem dX4_cascade_23 : decode cX4_cascade 23 = .ok (.iaload, 1) := by decide +kernel
theorem dX4_cascade_24 : decode cX4_cascade 24 = .ok (.if_icmp .lt 17, 3) := by decide +kernel
theorem dX4_cascade_27 : decode cX4_cascade 27 = .ok (.aload_n 0, 1) := by decide +kernel
theorem dX4_cascade_28 : decode cX4_cascade 28 = .ok (.iload_n 1, 1) := by decide +kernel
theorem dX4_cascade_29 : decode cX4_cascade 29 = .ok (.aload_n 0, 1) := by decide +kernel
theorem dX4_cascade_30 : decode cX4_cascade 30 = .ok (.getfield 18, 3) := by decide +kernel
theorem dX4_cascade_33 : decode cX4_cascade 33 = .ok (.iconst 4, 1) := by decide +kernel
theorem dX4_cascade_34 : decode cX4_cascade 34 = .ok (.iaload, 1) := by decide +kernel
theorem dX4_cascade_35 : decode cX4_cascade 35 = .ok (.invokevirtual 217, 3) := by decide +kernel
theorem dX4_cascade_38 : decode cX4_cascade 38 = .ok (.goto 96, 3) := by decide +kernel
theorem dX4_cascade_41 : decode cX4_cascade 41 = .ok (.aload_n 0, 1) := by decide +kernel
theorem dX4_cascade_42 : decode cX4_cascade 42 = .ok (.getfield 102, 3) := by decide +kernel
theorem dX4_cascade_45 : decode cX4_cascade 45 = .ok (.aload_n 0, 1) := by decide +kernel
theorem dX4_cascade_46 : decode cX4_cascade 46 = .ok (.getfield 18, 3) := by decide +kernel
theorem dX4_cascade_49 : decode cX4_cascade 49 = .ok (.bipush 6, 2) := by decide +kernel
theorem dX4_cascade_51 : decode cX4_cascade 51 = .ok (.iaload, 1) := by decide +kernel
theorem dX4_cascade_52 : decode cX4_cascade 52 = .ok (.if_icmp .lt 39, 3) := by decide +kernel
theorem dX4_cascade_55 : decode cX4_cascade 55 = .ok (.aload_n 0, 1) := by decide +kernel
theorem dX4_cascade_56 : decode cX4_cascade 56 = .ok (.getfield 26, 3) := by decide +kernel
theorem dX4_cascade_59 : decode cX4_cascade 59 = .ok (.invokevirtual 211, 3) := by decide +kernel
theorem dX4_cascade_62 : decode cX4_cascade 62 = .ok (.iconst 1, 1) := by decide +kernel
theorem dX4_cascade_63 : decode cX4_cascade 63 = .ok (.if_icmp .gt 13, 3) := by decide +kernel
theorem dX4_cascade_66 : decode cX4_cascade 66 = .ok (.aload_n 0, 1) := by decide +kernel
theorem dX4_cascade_67 : decode cX4_cascade 67 = .ok (.getfield 26, 3) := by decide +kernel
theorem dX4_cascade_70 : decode cX4_cascade 70 = .ok (.invokevirtual 201, 3) := by decide +kernel
theorem dX4_cascade_73 : decode cX4_cascade 73 = .ok (.ifCond .ne 18, 3) := by decide +kernel
theorem dX4_cascade_76 : decode cX4_cascade 76 = .ok (.aload_n 0, 1) := by decide +kernel
theorem dX4_cascade_77 : decode cX4_cascade 77 = .ok (.aload_n 0, 1) := by decide +kernel
theorem dX4_cascade_78 : decode cX4_cascade 78 = .ok (.getfield 26, 3) := by decide +kernel
theorem dX4_cascade_81 : decode cX4_cascade 81 = .ok (.invokevirtual 221, 3) := by decide +kernel
theorem dX4_cascade_84 : decode cX4_cascade 84 = .ok (.invokevirtual 182, 3) := by decide +kernel
theorem dX4_cascade_87 : decode cX4_cascade 87 = .ok (.pop, 1) := by decide +kernel
theorem dX4_cascade_88 : decode cX4_cascade 88 = .ok (.goto 46, 3) := by decide +kernel
theorem dX4_cascade_91 : decode cX4_cascade 91 = .ok (.aload_n 0, 1) := by decide +kernel
theorem dX4_cascade_92 : decode cX4_cascade 92 = .ok (.getfield 105, 3) := by decide +kernel
theorem dX4_cascade_95 : decode cX4_cascade 95 = .ok (.aload_n 0, 1) := by decide +kernel
theorem dX4_cascade_96 : decode cX4_cascade 96 = .ok (.getfield 18, 3) := by decide +kernel
theorem dX4_cascade_99 : decode cX4_cascade 99 = .ok (.bipush 8, 2) := by decide +kernel
theorem dX4_cascade_101 : decode cX4_cascade 101 = .ok (.iaload, 1) := by decide +kernel
theorem dX4_cascade_102 : decode cX4_cascade 102 = .ok (.if_icmp .lt 31, 3) := by decide +kernel
theorem dX4_cascade_105 : decode cX4_cascade 105 = .ok (.aload_n 0, 1) := by decide +kernel
theorem dX4_cascade_106 : decode cX4_cascade 106 = .ok (.aload_n 0, 1) := by decide +kernel
theorem dX4_cascade_107 : decode cX4_cascade 107 = .ok (.getfield 26, 3) := by decide +kernel
theorem dX4_cascade_110 : decode cX4_cascade 110 = .ok (.getfield 208, 3) := by decide +kernel
theorem dX4_cascade_113 : decode cX4_cascade 113 = .ok (.invokevirtual 182, 3) := by decide +kernel
theorem dX4_cascade_116 : decode cX4_cascade 116 = .ok (.pop, 1) := by decide +kernel
theorem dX4_cascade_117 : decode cX4_cascade 117 = .ok (.aload_n 0, 1) := by decide +kernel
theorem dX4_cascade_118 : decode cX4_cascade 118 = .ok (.getfield 47, 3) := by decide +kernel
theorem dX4_cascade_121 : decode cX4_cascade 121 = .ok (.iconst 2, 1) := by decide +kernel
theorem dX4_cascade_122 : decode cX4_cascade 122 = .ok (.aload_n 0, 1) := by decide +kernel
theorem dX4_cascade_123 : decode cX4_cascade 123 = .ok (.getfield 74, 3) := by decide +kernel
theorem dX4_cascade_126 : decode cX4_cascade 126 = .ok (.iconst (-1), 1) := by decide +kernel
theorem dX4_cascade_127 : decode cX4_cascade 127 = .ok (.invokevirtual 172, 3) := by decide +kernel
theorem dX4_cascade_130 : decode cX4_cascade 130 = .ok (.goto 4, 3) := by decide +kernel
theorem dX4_cascade_133 : decode cX4_cascade 133 = .ok (.return_, 1) := by decide +kernel
theorem dX4_cascade_134 : decode cX4_cascade 134 = .ok (.aload_n 0, 1) := by decide +kernel
theorem dX4_cascade_135 : decode cX4_cascade 135 = .ok (.invokevirtual 125, 3) := by decide +kernel
theorem dX4_cascade_138 : decode cX4_cascade 138 = .ok (.return_, 1) := by decide +kernel
theorem dX4_rotate_0 : decode cX4_rotate 0 = .ok (.aload_n 0, 1) := by decide +kernel
theorem dX4_rotate_1 : decode cX4_rotate 1 = .ok (.getfield 26, 3) := by decide +kernel
theorem dX4_rotate_4 : decode cX4_rotate 4 = .ok (.getfield 208, 3) := by decide +kernel
theorem dX4_rotate_7 : decode cX4_rotate 7 = .ok (.istore_n 1, 1) := by decide +kernel
theorem dX4_rotate_8 : decode cX4_rotate 8 = .ok (.aload_n 0, 1) := by decide +kernel
theorem dX4_rotate_9 : decode cX4_rotate 9 = .ok (.getfield 18, 3) := by decide +kernel
theorem dX4_rotate_12 : decode cX4_rotate 12 = .ok (.bipush 18, 2) := by decide +kernel
theorem dX4_rotate_14 : decode cX4_rotate 14 = .ok (.iaload, 1) := by decide +kernel
theorem dX4_rotate_15 : decode cX4_rotate 15 = .ok (.ifCond .eq 32, 3) := by decide +kernel
theorem dX4_rotate_18 : decode cX4_rotate 18 = .ok (.aload_n 0, 1) := by decide +kernel
theorem dX4_rotate_19 : decode cX4_rotate 19 = .ok (.getfield 26, 3) := by decide +kernel
theorem dX4_rotate_22 : decode cX4_rotate 22 = .ok (.invokevirtual 201, 3) := by decide +kernel
theorem dX4_rotate_25 : decode cX4_rotate 25 = .ok (.ifCond .eq 22, 3) := by decide +kernel
theorem dX4_rotate_28 : decode cX4_rotate 28 = .ok (.aload_n 0, 1) := by decide +kernel
theorem dX4_rotate_29 : decode cX4_rotate 29 = .ok (.getfield 26, 3) := by decide +kernel
theorem dX4_rotate_32 : decode cX4_rotate 32 = .ok (.getfield 224, 3) := by decide +kernel
theorem dX4_rotate_35 : decode cX4_rotate 35 = .ok (.iload_n 1, 1) := by decide +kernel
theorem dX4_rotate_36 : decode cX4_rotate 36 = .ok (.iaload, 1) := by decide +kernel
theorem dX4_rotate_37 : decode cX4_rotate 37 = .ok (.aload_n 0, 1) := by decide +kernel
theorem dX4_rotate_38 : decode cX4_rotate 38 = .ok (.getfield 18, 3) := by decide +kernel
theorem dX4_rotate_41 : decode cX4_rotate 41 = .ok (.bipush 18, 2) := by decide +kernel
theorem dX4_rotate_43 : decode cX4_rotate 43 = .ok (.iaload, 1) := by decide +kernel
theorem dX4_rotate_44 : decode cX4_rotate 44 = .ok (.if_icmp .ge 4, 3) := by decide +kernel
theorem dX4_rotate_47 : decode cX4_rotate 47 = .ok (.return_, 1) := by decide +kernel
theorem dX4_rotate_48 : decode cX4_rotate 48 = .ok (.aload_n 0, 1) := by decide +kernel
theorem dX4_rotate_49 : decode cX4_rotate 49 = .ok (.getfield 26, 3) := by decide +kernel
theorem dX4_rotate_52 : decode cX4_rotate 52 = .ok (.invokevirtual 227, 3) := by decide +kernel
theorem dX4_rotate_55 : decode cX4_rotate 55 = .ok (.istore_n 2, 1) := by decide +kernel
theorem dX4_rotate_56 : decode cX4_rotate 56 = .ok (.iload_n 2, 1) := by decide +kernel
theorem dX4_rotate_57 : decode cX4_rotate 57 = .ok (.iconst (-1), 1) := by decide +kernel
theorem dX4_rotate_58 : decode cX4_rotate 58 = .ok (.if_icmp .ne 4, 3) := by decide +kernel
theorem dX4_rotate_61 : decode cX4_rotate 61 = .ok (.return_, 1) := by decide +kernel
theorem dX4_rotate_62 : decode cX4_rotate 62 = .ok (.aload_n 0, 1) := by decide +kernel
theorem dX4_rotate_63 : decode cX4_rotate 63 = .ok (.iload_n 2, 1) := by decide +kernel
theorem dX4_rotate_64 : decode cX4_rotate 64 = .ok (.aload_n 0, 1) := by decide +kernel
theorem dX4_rotate_65 : decode cX4_rotate 65 = .ok (.getfield 26, 3) := by decide +kernel
theorem dX4_rotate_68 : decode cX4_rotate 68 = .ok (.getfield 205, 3) := by decide +kernel
theorem dX4_rotate_71 : decode cX4_rotate 71 = .ok (.iload_n 1, 1) := by decide +kernel
theorem dX4_rotate_72 : decode cX4_rotate 72 = .ok (.iaload, 1) := by decide +kernel
theorem dX4_rotate_73 : decode cX4_rotate 73 = .ok (.invokevirtual 217, 3) := by decide +kernel
theorem dX4_rotate_76 : decode cX4_rotate 76 = .ok (.aload_n 0, 1) := by decide +kernel
theorem dX4_rotate_77 : decode cX4_rotate 77 = .ok (.getfield 47, 3) := by decide +kernel
theorem dX4_rotate_80 : decode cX4_rotate 80 = .ok (.bipush 7, 2) := by decide +kernel
theorem dX4_rotate_82 : decode cX4_rotate 82 = .ok (.aload_n 0, 1) := by decide +kernel
theorem dX4_rotate_83 : decode cX4_rotate 83 = .ok (.getfield 74, 3) := by decide +kernel
theorem dX4_rotate_86 : decode cX4_rotate 86 = .ok (.iload_n 2, 1) := by decide +kernel
theorem dX4_rotate_87 : decode cX4_rotate 87 = .ok (.invokevirtual 172, 3) := by decide +kernel
theorem dX4_rotate_90 : decode cX4_rotate 90 = .ok (.aload_n 0, 1) := by decide +kernel
theorem dX4_rotate_91 : decode cX4_rotate 91 = .ok (.iload_n 1, 1) := by decide +kernel
theorem dX4_rotate_92 : decode cX4_rotate 92 = .ok (.invokevirtual 182, 3) := by decide +kernel
theorem dX4_rotate_95 : decode cX4_rotate 95 = .ok (.pop, 1) := by decide +kernel
theorem dX4_rotate_96 : decode cX4_rotate 96 = .ok (.return_, 1) := by decide +kernel

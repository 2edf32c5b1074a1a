/-! decode rows -/
theorem dX6_init_0 : decode cX6_init 0 = .ok (.aload_n 0, 1) := by decide +kernel
theorem dX6_init_1 : decode cX6_init 1 = .ok (.invokespecial 1, 3) := by decide +kernel
theorem dX6_init_4 : decode cX6_init 4 = .ok (.aload_n 0, 1) := by decide +kernel
theorem dX6_init_5 : decode cX6_init 5 = .ok (.new 7, 3) := by decide +kernel
theorem dX6_init_8 : decode cX6_init 8 = .ok (.dup, 1) := by decide +kernel
theorem dX6_init_9 : decode cX6_init 9 = .ok (.invokespecial 9, 3) := by decide +kernel
theorem dX6_init_12 : decode cX6_init 12 = .ok (.putfield 10, 3) := by decide +kernel
theorem dX6_init_15 : decode cX6_init 15 = .ok (.aload_n 0, 1) := by decide +kernel
theorem dX6_init_16 : decode cX6_init 16 = .ok (.new 7, 3) := by decide +kernel
theorem dX6_init_19 : decode cX6_init 19 = .ok (.dup, 1) := by decide +kernel
theorem dX6_init_20 : decode cX6_init 20 = .ok (.invokespecial 9, 3) := by decide +kernel
theorem dX6_init_23 : decode cX6_init 23 = .ok (.putfield 16, 3) := by decide +kernel
theorem dX6_init_26 : decode cX6_init 26 = .ok (.aload_n 0, 1) := by decide +kernel
theorem dX6_init_27 : decode cX6_init 27 = .ok (.iconst 4, 1) := by decide +kernel
theorem dX6_init_28 : decode cX6_init 28 = .ok (.anewarray 7, 3) := by decide +kernel
theorem dX6_init_31 : decode cX6_init 31 = .ok (.putfield 19, 3) := by decide +kernel
theorem dX6_init_34 : decode cX6_init 34 = .ok (.aload_n 0, 1) := by decide +kernel
theorem dX6_init_35 : decode cX6_init 35 = .ok (.new 23, 3) := by decide +kernel
theorem dX6_init_38 : decode cX6_init 38 = .ok (.dup, 1) := by decide +kernel
theorem dX6_init_39 : decode cX6_init 39 = .ok (.invokespecial 25, 3) := by decide +kernel
theorem dX6_init_42 : decode cX6_init 42 = .ok (.putfield 26, 3) := by decide +kernel
theorem dX6_init_45 : decode cX6_init 45 = .ok (.iconst 0, 1) := by decide +kernel
theorem dX6_init_46 : decode cX6_init 46 = .ok (.istore_n 1, 1) := by decide +kernel
theorem dX6_init_47 : decode cX6_init 47 = .ok (.iload_n 1, 1) := by decide +kernel
theorem dX6_init_48 : decode cX6_init 48 = .ok (.iconst 4, 1) := by decide +kernel
theorem dX6_init_49 : decode cX6_init 49 = .ok (.if_icmp .ge 22, 3) := by decide +kernel
theorem dX6_init_52 : decode cX6_init 52 = .ok (.aload_n 0, 1) := by decide +kernel
theorem dX6_init_53 : decode cX6_init 53 = .ok (.getfield 19, 3) := by decide +kernel
theorem dX6_init_56 : decode cX6_init 56 = .ok (.iload_n 1, 1) := by decide +kernel
theorem dX6_init_57 : decode cX6_init 57 = .ok (.new 7, 3) := by decide +kernel
theorem dX6_init_60 : decode cX6_init 60 = .ok (.dup, 1) := by decide +kernel
theorem dX6_init_61 : decode cX6_init 61 = .ok (.invokespecial 9, 3) := by decide +kernel
theorem dX6_init_64 : decode cX6_init 64 = .ok (.aastore, 1) := by decide +kernel
theorem dX6_init_65 : decode cX6_init 65 = .ok (.iinc 1 1, 3) := by decide +kernel
theorem dX6_init_68 : decode cX6_init 68 = .ok (.goto (-21), 3) := by decide +kernel
theorem dX6_init_71 : decode cX6_init 71 = .ok (.return_, 1) := by decide +kernel
theorem dX6_set_0 : decode cX6_set 0 = .ok (.iload_n 1, 1) := by decide +kernel
theorem dX6_set_1 : decode cX6_set 1 = .ok (.iconst 0, 1) := by decide +kernel
theorem dX6_set_2 : decode cX6_set 2 = .ok (.bipush 18, 2) := by decide +kernel
theorem dX6_set_4 : decode cX6_set 4 = .ok (.invokestatic 30, 3) := by decide +kernel
theorem dX6_set_7 : decode cX6_set 7 = .ok (.ifCond .eq 20, 3) := by decide +kernel
theorem dX6_set_10 : decode cX6_set 10 = .ok (.iload_n 2, 1) := by decide +kernel
theorem dX6_set_11 : decode cX6_set 11 = .ok (.getstatic 34, 3) := by decide +kernel
theorem dX6_set_14 : decode cX6_set 14 = .ok (.iload_n 1, 1) := by decide +kernel
theorem dX6_set_15 : decode cX6_set 15 = .ok (.iaload, 1) := by decide +kernel
theorem dX6_set_16 : decode cX6_set 16 = .ok (.getstatic 38, 3) := by decide +kernel
theorem dX6_set_19 : decode cX6_set 19 = .ok (.iload_n 1, 1) := by decide +kernel
theorem dX6_set_20 : decode cX6_set 20 = .ok (.iaload, 1) := by decide +kernel
theorem dX6_set_21 : decode cX6_set 21 = .ok (.invokestatic 30, 3) := by decide +kernel
theorem dX6_set_24 : decode cX6_set 24 = .ok (.ifCond .ne 6, 3) := by decide +kernel
theorem dX6_set_27 : decode cX6_set 27 = .ok (.ldc 41, 2) := by decide +kernel
theorem dX6_set_29 : decode cX6_set 29 = .ok (.ireturn, 1) := by decide +kernel
theorem dX6_set_30 : decode cX6_set 30 = .ok (.aload_n 0, 1) := by decide +kernel
theorem dX6_set_31 : decode cX6_set 31 = .ok (.invokevirtual 42, 3) := by decide +kernel
theorem dX6_set_34 : decode cX6_set 34 = .ok (.aload_n 0, 1) := by decide +kernel
theorem dX6_set_35 : decode cX6_set 35 = .ok (.getfield 10, 3) := by decide +kernel
theorem dX6_set_38 : decode cX6_set 38 = .ok (.getfield 45, 3) := by decide +kernel
theorem dX6_set_41 : decode cX6_set 41 = .ok (.iload_n 1, 1) := by decide +kernel
theorem dX6_set_42 : decode cX6_set 42 = .ok (.iaload, 1) := by decide +kernel
theorem dX6_set_43 : decode cX6_set 43 = .ok (.istore_n 3, 1) := by decide +kernel
theorem dX6_set_44 : decode cX6_set 44 = .ok (.aload_n 0, 1) := by decide +kernel
theorem dX6_set_45 : decode cX6_set 45 = .ok (.getfield 10, 3) := by decide +kernel
theorem dX6_set_48 : decode cX6_set 48 = .ok (.getfield 45, 3) := by decide +kernel
theorem dX6_set_51 : decode cX6_set 51 = .ok (.iload_n 1, 1) := by decide +kernel
theorem dX6_set_52 : decode cX6_set 52 = .ok (.iload_n 2, 1) := by decide +kernel
theorem dX6_set_53 : decode cX6_set 53 = .ok (.iastore, 1) := by decide +kernel
theorem dX6_set_54 : decode cX6_set 54 = .ok (.iload_n 3, 1) := by decide +kernel
theorem dX6_set_55 : decode cX6_set 55 = .ok (.ireturn, 1) := by decide +kernel
theorem dX6_pump_0 : decode cX6_pump 0 = .ok (.iload_n 1, 1) := by decide +kernel
theorem dX6_pump_1 : decode cX6_pump 1 = .ok (.iconst 0, 1) := by decide +kernel
theorem dX6_pump_2 : decode cX6_pump 2 = .ok (.iconst 2, 1) := by decide +kernel
theorem dX6_pump_3 : decode cX6_pump 3 = .ok (.invokestatic 30, 3) := by decide +kernel
theorem dX6_pump_6 : decode cX6_pump 6 = .ok (.ifCond .eq 26, 3) := by decide +kernel
theorem dX6_pump_9 : decode cX6_pump 9 = .ok (.iload_n 2, 1) := by decide +kernel
theorem dX6_pump_10 : decode cX6_pump 10 = .ok (.bipush 100, 2) := by decide +kernel
theorem dX6_pump_12 : decode cX6_pump 12 = .ok (.sipush 2000, 3) := by decide +kernel
theorem dX6_pump_15 : decode cX6_pump 15 = .ok (.invokestatic 30, 3) := by decide +kernel
theorem dX6_pump_18 : decode cX6_pump 18 = .ok (.ifCond .eq 14, 3) := by decide +kernel
theorem dX6_pump_21 : decode cX6_pump 21 = .ok (.iload_n 3, 1) := by decide +kernel
theorem dX6_pump_22 : decode cX6_pump 22 = .ok (.iconst 1, 1) := by decide +kernel
theorem dX6_pump_23 : decode cX6_pump 23 = .ok (.sipush 1000, 3) := by decide +kernel
theorem dX6_pump_26 : decode cX6_pump 26 = .ok (.invokestatic 30, 3) := by decide +kernel
theorem dX6_pump_29 : decode cX6_pump 29 = .ok (.ifCond .ne 6, 3) := by decide +kernel
theorem dX6_pump_32 : decode cX6_pump 32 = .ok (.ldc 41, 2) := by decide +kernel
theorem dX6_pump_34 : decode cX6_pump 34 = .ok (.ireturn, 1) := by decide +kernel
theorem dX6_pump_35 : decode cX6_pump 35 = .ok (.aload_n 0, 1) := by decide +kernel
theorem dX6_pump_36 : decode cX6_pump 36 = .ok (.getfield 10, 3) := by decide +kernel
theorem dX6_pump_39 : decode cX6_pump 39 = .ok (.getfield 50, 3) := by decide +kernel
theorem dX6_pump_42 : decode cX6_pump 42 = .ok (.getfield 54, 3) := by decide +kernel
theorem dX6_pump_45 : decode cX6_pump 45 = .ok (.bipush 6, 2) := by decide +kernel
theorem dX6_pump_47 : decode cX6_pump 47 = .ok (.if_icmp .lt 6, 3) := by decide +kernel
theorem dX6_pump_50 : decode cX6_pump 50 = .ok (.ldc 58, 2) := by decide +kernel
theorem dX6_pump_52 : decode cX6_pump 52 = .ok (.ireturn, 1) := by decide +kernel
theorem dX6_pump_53 : decode cX6_pump 53 = .ok (.aload_n 0, 1) := by decide +kernel
theorem dX6_pump_54 : decode cX6_pump 54 = .ok (.invokevirtual 42, 3) := by decide +kernel
theorem dX6_pump_57 : decode cX6_pump 57 = .ok (.aload_n 0, 1) := by decide +kernel
theorem dX6_pump_58 : decode cX6_pump 58 = .ok (.getfield 10, 3) := by decide +kernel
theorem dX6_pump_61 : decode cX6_pump 61 = .ok (.getfield 50, 3) := by decide +kernel
theorem dX6_pump_64 : decode cX6_pump 64 = .ok (.iload_n 1, 1) := by decide +kernel
theorem dX6_pump_65 : decode cX6_pump 65 = .ok (.iload_n 2, 1) := by decide +kernel
theorem dX6_pump_66 : decode cX6_pump 66 = .ok (.iload_n 3, 1) := by decide +kernel
theorem dX6_pump_67 : decode cX6_pump 67 = .ok (.invokevirtual 59, 3) := by decide +kernel
theorem dX6_pump_70 : decode cX6_pump 70 = .ok (.ireturn, 1) := by decide +kernel
theorem dX6_service_0 : decode cX6_service 0 = .ok (.aload_n 0, 1) := by decide +kernel
theorem dX6_service_1 : decode cX6_service 1 = .ok (.getfield 10, 3) := by decide +kernel
theorem dX6_service_4 : decode cX6_service 4 = .ok (.getfield 50, 3) := by decide +kernel
theorem dX6_service_7 : decode cX6_service 7 = .ok (.iload_n 1, 1) := by decide +kernel
theorem dX6_service_8 : decode cX6_service 8 = .ok (.invokevirtual 63, 3) := by decide +kernel
theorem dX6_service_11 : decode cX6_service 11 = .ok (.ifCond .eq 12, 3) := by decide +kernel
theorem dX6_service_14 : decode cX6_service 14 = .ok (.iload_n 2, 1) := by decide +kernel
theorem dX6_service_15 : decode cX6_service 15 = .ok (.iconst 0, 1) := by decide +kernel
theorem dX6_service_16 : decode cX6_service 16 = .ok (.iconst 1, 1) := by decide +kernel
theorem dX6_service_17 : decode cX6_service 17 = .ok (.invokestatic 30, 3) := by decide +kernel
theorem dX6_service_20 : decode cX6_service 20 = .ok (.ifCond .ne 6, 3) := by decide +kernel
theorem dX6_service_23 : decode cX6_service 23 = .ok (.ldc 41, 2) := by decide +kernel
theorem dX6_service_25 : decode cX6_service 25 = .ok (.ireturn, 1) := by decide +kernel
theorem dX6_service_26 : decode cX6_service 26 = .ok (.iload_n 2, 1) := by decide +kernel
theorem dX6_service_27 : decode cX6_service 27 = .ok (.iconst 1, 1) := by decide +kernel
theorem dX6_service_28 : decode cX6_service 28 = .ok (.if_icmp .ne 7, 3) := by decide +kernel
theorem dX6_service_31 : decode cX6_service 31 = .ok (.iconst 1, 1) := by decide +kernel
theorem dX6_service_32 : decode cX6_service 32 = .ok (.goto 4, 3) := by decide +kernel
theorem dX6_service_35 : decode cX6_service 35 = .ok (.iconst 0, 1) := by decide +kernel
theorem dX6_service_36 : decode cX6_service 36 = .ok (.istore_n 3, 1) := by decide +kernel
theorem dX6_service_37 : decode cX6_service 37 = .ok (.aload_n 0, 1) := by decide +kernel
theorem dX6_service_38 : decode cX6_service 38 = .ok (.getfield 10, 3) := by decide +kernel
theorem dX6_service_41 : decode cX6_service 41 = .ok (.getfield 50, 3) := by decide +kernel
theorem dX6_service_44 : decode cX6_service 44 = .ok (.getfield 67, 3) := by decide +kernel
theorem dX6_service_47 : decode cX6_service 47 = .ok (.iload_n 1, 1) := by decide +kernel
theorem dX6_service_48 : decode cX6_service 48 = .ok (.baload, 1) := by decide +kernel
theorem dX6_service_49 : decode cX6_service 49 = .ok (.iload_n 3, 1) := by decide +kernel
theorem dX6_service_50 : decode cX6_service 50 = .ok (.if_icmp .ne 6, 3) := by decide +kernel
theorem dX6_service_53 : decode cX6_service 53 = .ok (.ldc 71, 2) := by decide +kernel
theorem dX6_service_55 : decode cX6_service 55 = .ok (.ireturn, 1) := by decide +kernel
theorem dX6_service_56 : decode cX6_service 56 = .ok (.aload_n 0, 1) := by decide +kernel
theorem dX6_service_57 : decode cX6_service 57 = .ok (.invokevirtual 42, 3) := by decide +kernel
theorem dX6_service_60 : decode cX6_service 60 = .ok (.aload_n 0, 1) := by decide +kernel
theorem dX6_service_61 : decode cX6_service 61 = .ok (.getfield 10, 3) := by decide +kernel
theorem dX6_service_64 : decode cX6_service 64 = .ok (.iload_n 1, 1) := by decide +kernel
theorem dX6_service_65 : decode cX6_service 65 = .ok (.iload_n 3, 1) := by decide +kernel
theorem dX6_service_66 : decode cX6_service 66 = .ok (.invokevirtual 72, 3) := by decide +kernel
theorem dX6_service_69 : decode cX6_service 69 = .ok (.ifCond .eq 7, 3) := by decide +kernel
theorem dX6_service_72 : decode cX6_service 72 = .ok (.iconst 1, 1) := by decide +kernel
theorem dX6_service_73 : decode cX6_service 73 = .ok (.goto 4, 3) := by decide +kernel
theorem dX6_service_76 : decode cX6_service 76 = .ok (.iconst 0, 1) := by decide +kernel
theorem dX6_service_77 : decode cX6_service 77 = .ok (.ireturn, 1) := by decide +kernel
theorem dX6_pumpOf_0 : decode cX6_pumpOf 0 = .ok (.aload_n 0, 1) := by decide +kernel
theorem dX6_pumpOf_1 : decode cX6_pumpOf 1 = .ok (.getfield 10, 3) := by decide +kernel
theorem dX6_pumpOf_4 : decode cX6_pumpOf 4 = .ok (.getfield 50, 3) := by decide +kernel
theorem dX6_pumpOf_7 : decode cX6_pumpOf 7 = .ok (.astore_n 3, 1) := by decide +kernel
theorem dX6_pumpOf_8 : decode cX6_pumpOf 8 = .ok (.aload_n 3, 1) := by decide +kernel
theorem dX6_pumpOf_9 : decode cX6_pumpOf 9 = .ok (.iload_n 1, 1) := by decide +kernel
theorem dX6_pumpOf_10 : decode cX6_pumpOf 10 = .ok (.invokevirtual 63, 3) := by decide +kernel
theorem dX6_pumpOf_13 : decode cX6_pumpOf 13 = .ok (.ifCond .ne 6, 3) := by decide +kernel
theorem dX6_pumpOf_16 : decode cX6_pumpOf 16 = .ok (.ldc 41, 2) := by decide +kernel
theorem dX6_pumpOf_18 : decode cX6_pumpOf 18 = .ok (.ireturn, 1) := by decide +kernel
theorem dX6_pumpOf_19 : decode cX6_pumpOf 19 = .ok (.iload_n 2, 1) := by decide +kernel
theorem dX6_pumpOf_20 : decode cX6_pumpOf 20 = .ok (.tableswitch 153 0 9 #[56, 63, 70, 77, 92, 99, 113, 120, 127, 134], 56) := by decide +kernel
theorem dX6_pumpOf_76 : decode cX6_pumpOf 76 = .ok (.aload_n 3, 1) := by decide +kernel
theorem dX6_pumpOf_77 : decode cX6_pumpOf 77 = .ok (.getfield 76, 3) := by decide +kernel
theorem dX6_pumpOf_80 : decode cX6_pumpOf 80 = .ok (.iload_n 1, 1) := by decide +kernel
theorem dX6_pumpOf_81 : decode cX6_pumpOf 81 = .ok (.iaload, 1) := by decide +kernel
theorem dX6_pumpOf_82 : decode cX6_pumpOf 82 = .ok (.ireturn, 1) := by decide +kernel
theorem dX6_pumpOf_83 : decode cX6_pumpOf 83 = .ok (.aload_n 3, 1) := by decide +kernel
theorem dX6_pumpOf_84 : decode cX6_pumpOf 84 = .ok (.getfield 79, 3) := by decide +kernel
theorem dX6_pumpOf_87 : decode cX6_pumpOf 87 = .ok (.iload_n 1, 1) := by decide +kernel
theorem dX6_pumpOf_88 : decode cX6_pumpOf 88 = .ok (.iaload, 1) := by decide +kernel
theorem dX6_pumpOf_89 : decode cX6_pumpOf 89 = .ok (.ireturn, 1) := by decide +kernel
theorem dX6_pumpOf_90 : decode cX6_pumpOf 90 = .ok (.aload_n 3, 1) := by decide +kernel
theorem dX6_pumpOf_91 : decode cX6_pumpOf 91 = .ok (.getfield 82, 3) := by decide +kernel
theorem dX6_pumpOf_94 : decode cX6_pumpOf 94 = .ok (.iload_n 1, 1) := by decide +kernel
theorem dX6_pumpOf_95 : decode cX6_pumpOf 95 = .ok (.iaload, 1) := by decide +kernel
theorem dX6_pumpOf_96 : decode cX6_pumpOf 96 = .ok (.ireturn, 1) := by decide +kernel
theorem dX6_pumpOf_97 : decode cX6_pumpOf 97 = .ok (.aload_n 3, 1) := by decide +kernel
theorem dX6_pumpOf_98 : decode cX6_pumpOf 98 = .ok (.getfield 67, 3) := by decide +kernel
theorem dX6_pumpOf_101 : decode cX6_pumpOf 101 = .ok (.iload_n 1, 1) := by decide +kernel
theorem dX6_pumpOf_102 : decode cX6_pumpOf 102 = .ok (.baload, 1) := by decide +kernel
theorem dX6_pumpOf_103 : decode cX6_pumpOf 103 = .ok (.ifCond .eq 7, 3) := by decide +kernel
theorem dX6_pumpOf_106 : decode cX6_pumpOf 106 = .ok (.iconst 1, 1) := by decide +kernel
theorem dX6_pumpOf_107 : decode cX6_pumpOf 107 = .ok (.goto 4, 3) := by decide +kernel
theorem dX6_pumpOf_110 : decode cX6_pumpOf 110 = .ok (.iconst 0, 1) := by decide +kernel
theorem dX6_pumpOf_111 : decode cX6_pumpOf 111 = .ok (.ireturn, 1) := by decide +kernel
theorem dX6_pumpOf_112 : decode cX6_pumpOf 112 = .ok (.aload_n 3, 1) := by decide +kernel
theorem dX6_pumpOf_113 : decode cX6_pumpOf 113 = .ok (.getfield 85, 3) := by decide +kernel
theorem dX6_pumpOf_116 : decode cX6_pumpOf 116 = .ok (.iload_n 1, 1) := by decide +kernel
theorem dX6_pumpOf_117 : decode cX6_pumpOf 117 = .ok (.iaload, 1) := by decide +kernel
theorem dX6_pumpOf_118 : decode cX6_pumpOf 118 = .ok (.ireturn, 1) := by decide +kernel
theorem dX6_pumpOf_119 : decode cX6_pumpOf 119 = .ok (.aload_n 3, 1) := by decide +kernel
theorem dX6_pumpOf_120 : decode cX6_pumpOf 120 = .ok (.getfield 88, 3) := by decide +kernel
theorem dX6_pumpOf_123 : decode cX6_pumpOf 123 = .ok (.iload_n 1, 1) := by decide +kernel
theorem dX6_pumpOf_124 : decode cX6_pumpOf 124 = .ok (.if_icmp .ne 7, 3) := by decide +kernel
theorem dX6_pumpOf_127 : decode cX6_pumpOf 127 = .ok (.iconst 1, 1) := by decide +kernel
theorem dX6_pumpOf_128 : decode cX6_pumpOf 128 = .ok (.goto 4, 3) := by decide +kernel
theorem dX6_pumpOf_131 : decode cX6_pumpOf 131 = .ok (.iconst 0, 1) := by decide +kernel
theorem dX6_pumpOf_132 : decode cX6_pumpOf 132 = .ok (.ireturn, 1) := by decide +kernel
theorem dX6_pumpOf_133 : decode cX6_pumpOf 133 = .ok (.aload_n 3, 1) := by decide +kernel
theorem dX6_pumpOf_134 : decode cX6_pumpOf 134 = .ok (.getfield 91, 3) := by decide +kernel
theorem dX6_pumpOf_137 : decode cX6_pumpOf 137 = .ok (.iload_n 1, 1) := by decide +kernel
theorem dX6_pumpOf_138 : decode cX6_pumpOf 138 = .ok (.iaload, 1) := by decide +kernel
theorem dX6_pumpOf_139 : decode cX6_pumpOf 139 = .ok (.ireturn, 1) := by decide +kernel
theorem dX6_pumpOf_140 : decode cX6_pumpOf 140 = .ok (.aload_n 3, 1) := by decide +kernel
theorem dX6_pumpOf_141 : decode cX6_pumpOf 141 = .ok (.getfield 94, 3) := by decide +kernel
theorem dX6_pumpOf_144 : decode cX6_pumpOf 144 = .ok (.iload_n 1, 1) := by decide +kernel
theorem dX6_pumpOf_145 : decode cX6_pumpOf 145 = .ok (.iaload, 1) := by decide +kernel
theorem dX6_pumpOf_146 : decode cX6_pumpOf 146 = .ok (.ireturn, 1) := by decide +kernel
theorem dX6_pumpOf_147 : decode cX6_pumpOf 147 = .ok (.aload_n 3, 1) := by decide +kernel
theorem dX6_pumpOf_148 : decode cX6_pumpOf 148 = .ok (.getfield 97, 3) := by decide +kernel
theorem dX6_pumpOf_151 : decode cX6_pumpOf 151 = .ok (.iload_n 1, 1) := by decide +kernel
theorem dX6_pumpOf_152 : decode cX6_pumpOf 152 = .ok (.iaload, 1) := by decide +kernel
theorem dX6_pumpOf_153 : decode cX6_pumpOf 153 = .ok (.ireturn, 1) := by decide +kernel
theorem dX6_pumpOf_154 : decode cX6_pumpOf 154 = .ok (.aload_n 3, 1) := by decide +kernel
theorem dX6_pumpOf_155 : decode cX6_pumpOf 155 = .ok (.iload_n 1, 1) := by decide +kernel
theorem dX6_pumpOf_156 : decode cX6_pumpOf 156 = .ok (.aload_n 3, 1) := by decide +kernel
theorem dX6_pumpOf_157 : decode cX6_pumpOf 157 = .ok (.getfield 85, 3) := by decide +kernel
theorem dX6_pumpOf_160 : decode cX6_pumpOf 160 = .ok (.iload_n 1, 1) := by decide +kernel
theorem dX6_pumpOf_161 : decode cX6_pumpOf 161 = .ok (.iaload, 1) := by decide +kernel
theorem dX6_pumpOf_162 : decode cX6_pumpOf 162 = .ok (.aload_n 0, 1) := by decide +kernel
theorem dX6_pumpOf_163 : decode cX6_pumpOf 163 = .ok (.getfield 10, 3) := by decide +kernel
theorem dX6_pumpOf_166 : decode cX6_pumpOf 166 = .ok (.getfield 100, 3) := by decide +kernel
theorem dX6_pumpOf_169 : decode cX6_pumpOf 169 = .ok (.invokevirtual 103, 3) := by decide +kernel
theorem dX6_pumpOf_172 : decode cX6_pumpOf 172 = .ok (.ireturn, 1) := by decide +kernel
theorem dX6_pumpOf_173 : decode cX6_pumpOf 173 = .ok (.ldc 41, 2) := by decide +kernel
theorem dX6_pumpOf_175 : decode cX6_pumpOf 175 = .ok (.ireturn, 1) := by decide +kernel
theorem dX6_readyAt_0 : decode cX6_readyAt 0 = .ok (.iload_n 1, 1) := by decide +kernel
theorem dX6_readyAt_1 : decode cX6_readyAt 1 = .ok (.ifCond .ge 6, 3) := by decide +kernel
theorem dX6_readyAt_4 : decode cX6_readyAt 4 = .ok (.ldc 41, 2) := by decide +kernel
theorem dX6_readyAt_6 : decode cX6_readyAt 6 = .ok (.ireturn, 1) := by decide +kernel
theorem dX6_readyAt_7 : decode cX6_readyAt 7 = .ok (.aload_n 0, 1) := by decide +kernel
theorem dX6_readyAt_8 : decode cX6_readyAt 8 = .ok (.getfield 10, 3) := by decide +kernel
theorem dX6_readyAt_11 : decode cX6_readyAt 11 = .ok (.getfield 50, 3) := by decide +kernel
theorem dX6_readyAt_14 : decode cX6_readyAt 14 = .ok (.iload_n 1, 1) := by decide +kernel
theorem dX6_readyAt_15 : decode cX6_readyAt 15 = .ok (.invokevirtual 106, 3) := by decide +kernel
theorem dX6_readyAt_18 : decode cX6_readyAt 18 = .ok (.istore_n 2, 1) := by decide +kernel
theorem dX6_readyAt_19 : decode cX6_readyAt 19 = .ok (.iload_n 2, 1) := by decide +kernel
theorem dX6_readyAt_20 : decode cX6_readyAt 20 = .ok (.iconst (-1), 1) := by decide +kernel
theorem dX6_readyAt_21 : decode cX6_readyAt 21 = .ok (.if_icmp .ne 8, 3) := by decide +kernel
theorem dX6_readyAt_24 : decode cX6_readyAt 24 = .ok (.ldc 110, 2) := by decide +kernel
theorem dX6_readyAt_26 : decode cX6_readyAt 26 = .ok (.goto 4, 3) := by decide +kernel
theorem dX6_readyAt_29 : decode cX6_readyAt 29 = .ok (.iload_n 2, 1) := by decide +kernel
theorem dX6_readyAt_30 : decode cX6_readyAt 30 = .ok (.ireturn, 1) := by decide +kernel
theorem dX6_balance_0 : decode cX6_balance 0 = .ok (.aload_n 0, 1) := by decide +kernel
theorem dX6_balance_1 : decode cX6_balance 1 = .ok (.getfield 10, 3) := by decide +kernel
theorem dX6_balance_4 : decode cX6_balance 4 = .ok (.getfield 50, 3) := by decide +kernel
theorem dX6_balance_7 : decode cX6_balance 7 = .ok (.getfield 54, 3) := by decide +kernel
theorem dX6_balance_10 : decode cX6_balance 10 = .ok (.ifCond .ne 8, 3) := by decide +kernel
theorem dX6_balance_13 : decode cX6_balance 13 = .ok (.ldc 110, 2) := by decide +kernel
theorem dX6_balance_15 : decode cX6_balance 15 = .ok (.goto 13, 3) := by decide +kernel
theorem dX6_balance_18 : decode cX6_balance 18 = .ok (.aload_n 0, 1) := by decide +kernel
theorem dX6_balance_19 : decode cX6_balance 19 = .ok (.getfield 10, 3) := by decide +kernel
theorem dX6_balance_22 : decode cX6_balance 22 = .ok (.getfield 50, 3) := by decide +kernel
theorem dX6_balance_25 : decode cX6_balance 25 = .ok (.invokevirtual 111, 3) := by decide +kernel
theorem dX6_balance_28 : decode cX6_balance 28 = .ok (.ireturn, 1) := by decide +kernel
theorem dX6_zone_0 : decode cX6_zone 0 = .ok (.iload_n 1, 1) := by decide +kernel
theorem dX6_zone_1 : decode cX6_zone 1 = .ok (.iconst 1, 1) := by decide +kernel
theorem dX6_zone_2 : decode cX6_zone 2 = .ok (.sipush 1000, 3) := by decide +kernel
theorem dX6_zone_5 : decode cX6_zone 5 = .ok (.invokestatic 30, 3) := by decide +kernel
theorem dX6_zone_8 : decode cX6_zone 8 = .ok (.ifCond .ne 6, 3) := by decide +kernel
theorem dX6_zone_11 : decode cX6_zone 11 = .ok (.ldc 41, 2) := by decide +kernel
theorem dX6_zone_13 : decode cX6_zone 13 = .ok (.ireturn, 1) := by decide +kernel
theorem dX6_zone_14 : decode cX6_zone 14 = .ok (.aload_n 0, 1) := by decide +kernel
theorem dX6_zone_15 : decode cX6_zone 15 = .ok (.getfield 10, 3) := by decide +kernel
theorem dX6_zone_18 : decode cX6_zone 18 = .ok (.getfield 115, 3) := by decide +kernel
theorem dX6_zone_21 : decode cX6_zone 21 = .ok (.getfield 119, 3) := by decide +kernel
theorem dX6_zone_24 : decode cX6_zone 24 = .ok (.bipush 8, 2) := by decide +kernel
theorem dX6_zone_26 : decode cX6_zone 26 = .ok (.if_icmp .lt 6, 3) := by decide +kernel
theorem dX6_zone_29 : decode cX6_zone 29 = .ok (.ldc 58, 2) := by decide +kernel
theorem dX6_zone_31 : decode cX6_zone 31 = .ok (.ireturn, 1) := by decide +kernel
theorem dX6_zone_32 : decode cX6_zone 32 = .ok (.aload_n 0, 1) := by decide +kernel
theorem dX6_zone_33 : decode cX6_zone 33 = .ok (.invokevirtual 42, 3) := by decide +kernel
theorem dX6_zone_36 : decode cX6_zone 36 = .ok (.aload_n 0, 1) := by decide +kernel
theorem dX6_zone_37 : decode cX6_zone 37 = .ok (.getfield 10, 3) := by decide +kernel
theorem dX6_zone_40 : decode cX6_zone 40 = .ok (.getfield 115, 3) := by decide +kernel
theorem dX6_zone_43 : decode cX6_zone 43 = .ok (.iload_n 1, 1) := by decide +kernel
theorem dX6_zone_44 : decode cX6_zone 44 = .ok (.invokevirtual 122, 3) := by decide +kernel
theorem dX6_zone_47 : decode cX6_zone 47 = .ok (.ireturn, 1) := by decide +kernel
theorem dX6_open_0 : decode cX6_open 0 = .ok (.aload_n 0, 1) := by decide +kernel
theorem dX6_open_1 : decode cX6_open 1 = .ok (.getfield 10, 3) := by decide +kernel
theorem dX6_open_4 : decode cX6_open 4 = .ok (.getfield 115, 3) := by decide +kernel
theorem dX6_open_7 : decode cX6_open 7 = .ok (.iload_n 1, 1) := by decide +kernel
theorem dX6_open_8 : decode cX6_open 8 = .ok (.invokevirtual 124, 3) := by decide +kernel
theorem dX6_open_11 : decode cX6_open 11 = .ok (.ifCond .eq 12, 3) := by decide +kernel
theorem dX6_open_14 : decode cX6_open 14 = .ok (.iload_n 2, 1) := by decide +kernel
theorem dX6_open_15 : decode cX6_open 15 = .ok (.iconst 0, 1) := by decide +kernel
theorem dX6_open_16 : decode cX6_open 16 = .ok (.iconst 1, 1) := by decide +kernel
theorem dX6_open_17 : decode cX6_open 17 = .ok (.invokestatic 30, 3) := by decide +kernel
theorem dX6_open_20 : decode cX6_open 20 = .ok (.ifCond .ne 6, 3) := by decide +kernel
theorem dX6_open_23 : decode cX6_open 23 = .ok (.ldc 41, 2) := by decide +kernel
theorem dX6_open_25 : decode cX6_open 25 = .ok (.ireturn, 1) := by decide +kernel
theorem dX6_open_26 : decode cX6_open 26 = .ok (.iload_n 2, 1) := by decide +kernel
theorem dX6_open_27 : decode cX6_open 27 = .ok (.iconst 1, 1) := by decide +kernel
theorem dX6_open_28 : decode cX6_open 28 = .ok (.if_icmp .ne 7, 3) := by decide +kernel
theorem dX6_open_31 : decode cX6_open 31 = .ok (.iconst 1, 1) := by decide +kernel
theorem dX6_open_32 : decode cX6_open 32 = .ok (.goto 4, 3) := by decide +kernel
theorem dX6_open_35 : decode cX6_open 35 = .ok (.iconst 0, 1) := by decide +kernel
theorem dX6_open_36 : decode cX6_open 36 = .ok (.istore_n 3, 1) := by decide +kernel
theorem dX6_open_37 : decode cX6_open 37 = .ok (.aload_n 0, 1) := by decide +kernel
theorem dX6_open_38 : decode cX6_open 38 = .ok (.getfield 10, 3) := by decide +kernel
theorem dX6_open_41 : decode cX6_open 41 = .ok (.getfield 115, 3) := by decide +kernel
theorem dX6_open_44 : decode cX6_open 44 = .ok (.getfield 125, 3) := by decide +kernel
theorem dX6_open_47 : decode cX6_open 47 = .ok (.iload_n 1, 1) := by decide +kernel
theorem dX6_open_48 : decode cX6_open 48 = .ok (.baload, 1) := by decide +kernel
theorem dX6_open_49 : decode cX6_open 49 = .ok (.iload_n 3, 1) := by decide +kernel
theorem dX6_open_50 : decode cX6_open 50 = .ok (.if_icmp .ne 6, 3) := by decide +kernel
theorem dX6_open_53 : decode cX6_open 53 = .ok (.ldc 71, 2) := by decide +kernel
theorem dX6_open_55 : decode cX6_open 55 = .ok (.ireturn, 1) := by decide +kernel
theorem dX6_open_56 : decode cX6_open 56 = .ok (.aload_n 0, 1) := by decide +kernel
theorem dX6_open_57 : decode cX6_open 57 = .ok (.invokevirtual 42, 3) := by decide +kernel
theorem dX6_open_60 : decode cX6_open 60 = .ok (.aload_n 0, 1) := by decide +kernel
theorem dX6_open_61 : decode cX6_open 61 = .ok (.getfield 10, 3) := by decide +kernel
theorem dX6_open_64 : decode cX6_open 64 = .ok (.getfield 115, 3) := by decide +kernel
theorem dX6_open_67 : decode cX6_open 67 = .ok (.getfield 125, 3) := by decide +kernel
theorem dX6_open_70 : decode cX6_open 70 = .ok (.iload_n 1, 1) := by decide +kernel
theorem dX6_open_71 : decode cX6_open 71 = .ok (.iload_n 3, 1) := by decide +kernel
theorem dX6_open_72 : decode cX6_open 72 = .ok (.bastore, 1) := by decide +kernel
theorem dX6_open_73 : decode cX6_open 73 = .ok (.aload_n 0, 1) := by decide +kernel
theorem dX6_open_74 : decode cX6_open 74 = .ok (.getfield 10, 3) := by decide +kernel
theorem dX6_open_77 : decode cX6_open 77 = .ok (.getfield 115, 3) := by decide +kernel
theorem dX6_open_80 : decode cX6_open 80 = .ok (.invokevirtual 128, 3) := by decide +kernel
theorem dX6_open_83 : decode cX6_open 83 = .ok (.ireturn, 1) := by decide +kernel
theorem dX6_leak_0 : decode cX6_leak 0 = .ok (.iload_n 1, 1) := by decide +kernel
theorem dX6_leak_1 : decode cX6_leak 1 = .ok (.iconst 0, 1) := by decide +kernel
theorem dX6_leak_2 : decode cX6_leak 2 = .ok (.sipush 1000, 3) := by decide +kernel
theorem dX6_leak_5 : decode cX6_leak 5 = .ok (.invokestatic 30, 3) := by decide +kernel
theorem dX6_leak_8 : decode cX6_leak 8 = .ok (.ifCond .ne 6, 3) := by decide +kernel
theorem dX6_leak_11 : decode cX6_leak 11 = .ok (.ldc 41, 2) := by decide +kernel
theorem dX6_leak_13 : decode cX6_leak 13 = .ok (.ireturn, 1) := by decide +kernel
theorem dX6_leak_14 : decode cX6_leak 14 = .ok (.aload_n 0, 1) := by decide +kernel
theorem dX6_leak_15 : decode cX6_leak 15 = .ok (.invokevirtual 42, 3) := by decide +kernel
theorem dX6_leak_18 : decode cX6_leak 18 = .ok (.aload_n 0, 1) := by decide +kernel
theorem dX6_leak_19 : decode cX6_leak 19 = .ok (.getfield 10, 3) := by decide +kernel
theorem dX6_leak_22 : decode cX6_leak 22 = .ok (.getfield 131, 3) := by decide +kernel
theorem dX6_leak_25 : decode cX6_leak 25 = .ok (.istore_n 2, 1) := by decide +kernel
theorem dX6_leak_26 : decode cX6_leak 26 = .ok (.aload_n 0, 1) := by decide +kernel
theorem dX6_leak_27 : decode cX6_leak 27 = .ok (.getfield 10, 3) := by decide +kernel
theorem dX6_leak_30 : decode cX6_leak 30 = .ok (.iload_n 1, 1) := by decide +kernel
theorem dX6_leak_31 : decode cX6_leak 31 = .ok (.putfield 131, 3) := by decide +kernel
theorem dX6_leak_34 : decode cX6_leak 34 = .ok (.iload_n 2, 1) := by decide +kernel
theorem dX6_leak_35 : decode cX6_leak 35 = .ok (.ireturn, 1) := by decide +kernel
theorem dX6_programme_0 : decode cX6_programme 0 = .ok (.aload_n 0, 1) := by decide +kernel
theorem dX6_programme_1 : decode cX6_programme 1 = .ok (.getfield 10, 3) := by decide +kernel
theorem dX6_programme_4 : decode cX6_programme 4 = .ok (.getfield 115, 3) := by decide +kernel
theorem dX6_programme_7 : decode cX6_programme 7 = .ok (.iload_n 1, 1) := by decide +kernel
theorem dX6_programme_8 : decode cX6_programme 8 = .ok (.invokevirtual 124, 3) := by decide +kernel
theorem dX6_programme_11 : decode cX6_programme 11 = .ok (.ifCond .eq 30, 3) := by decide +kernel
theorem dX6_programme_14 : decode cX6_programme 14 = .ok (.iload_n 2, 1) := by decide +kernel
theorem dX6_programme_15 : decode cX6_programme 15 = .ok (.iconst 0, 1) := by decide +kernel
theorem dX6_programme_16 : decode cX6_programme 16 = .ok (.sipush 1439, 3) := by decide +kernel
theorem dX6_programme_19 : decode cX6_programme 19 = .ok (.invokestatic 30, 3) := by decide +kernel
theorem dX6_programme_22 : decode cX6_programme 22 = .ok (.ifCond .eq 19, 3) := by decide +kernel
theorem dX6_programme_25 : decode cX6_programme 25 = .ok (.iload_n 3, 1) := by decide +kernel
theorem dX6_programme_26 : decode cX6_programme 26 = .ok (.iconst 0, 1) := by decide +kernel
theorem dX6_programme_27 : decode cX6_programme 27 = .ok (.sipush 1439, 3) := by decide +kernel
theorem dX6_programme_30 : decode cX6_programme 30 = .ok (.invokestatic 30, 3) := by decide +kernel
theorem dX6_programme_33 : decode cX6_programme 33 = .ok (.ifCond .eq 8, 3) := by decide +kernel
theorem dX6_programme_36 : decode cX6_programme 36 = .ok (.iload_n 2, 1) := by decide +kernel
theorem dX6_programme_37 : decode cX6_programme 37 = .ok (.iload_n 3, 1) := by decide +kernel
theorem dX6_programme_38 : decode cX6_programme 38 = .ok (.if_icmp .ne 6, 3) := by decide +kernel
theorem dX6_programme_41 : decode cX6_programme 41 = .ok (.ldc 41, 2) := by decide +kernel
theorem dX6_programme_43 : decode cX6_programme 43 = .ok (.ireturn, 1) := by decide +kernel
theorem dX6_programme_44 : decode cX6_programme 44 = .ok (.aload_n 0, 1) := by decide +kernel
theorem dX6_programme_45 : decode cX6_programme 45 = .ok (.getfield 10, 3) := by decide +kernel
theorem dX6_programme_48 : decode cX6_programme 48 = .ok (.getfield 115, 3) := by decide +kernel
theorem dX6_programme_51 : decode cX6_programme 51 = .ok (.getfield 134, 3) := by decide +kernel
theorem dX6_programme_54 : decode cX6_programme 54 = .ok (.bipush 8, 2) := by decide +kernel
theorem dX6_programme_56 : decode cX6_programme 56 = .ok (.if_icmp .lt 6, 3) := by decide +kernel
theorem dX6_programme_59 : decode cX6_programme 59 = .ok (.ldc 58, 2) := by decide +kernel
theorem dX6_programme_61 : decode cX6_programme 61 = .ok (.ireturn, 1) := by decide +kernel
theorem dX6_programme_62 : decode cX6_programme 62 = .ok (.aload_n 0, 1) := by decide +kernel
theorem dX6_programme_63 : decode cX6_programme 63 = .ok (.invokevirtual 42, 3) := by decide +kernel
theorem dX6_programme_66 : decode cX6_programme 66 = .ok (.aload_n 0, 1) := by decide +kernel
theorem dX6_programme_67 : decode cX6_programme 67 = .ok (.getfield 10, 3) := by decide +kernel
theorem dX6_programme_70 : decode cX6_programme 70 = .ok (.getfield 115, 3) := by decide +kernel
theorem dX6_programme_73 : decode cX6_programme 73 = .ok (.iload_n 1, 1) := by decide +kernel
theorem dX6_programme_74 : decode cX6_programme 74 = .ok (.iload_n 2, 1) := by decide +kernel
theorem dX6_programme_75 : decode cX6_programme 75 = .ok (.iload_n 3, 1) := by decide +kernel
theorem dX6_programme_76 : decode cX6_programme 76 = .ok (.invokevirtual 137, 3) := by decide +kernel
theorem dX6_programme_79 : decode cX6_programme 79 = .ok (.ireturn, 1) := by decide +kernel
theorem dX6_zoneOf_0 : decode cX6_zoneOf 0 = .ok (.aload_n 0, 1) := by decide +kernel
theorem dX6_zoneOf_1 : decode cX6_zoneOf 1 = .ok (.getfield 10, 3) := by decide +kernel
theorem dX6_zoneOf_4 : decode cX6_zoneOf 4 = .ok (.getfield 115, 3) := by decide +kernel
theorem dX6_zoneOf_7 : decode cX6_zoneOf 7 = .ok (.astore_n 3, 1) := by decide +kernel
theorem dX6_zoneOf_8 : decode cX6_zoneOf 8 = .ok (.aload_n 3, 1) := by decide +kernel
theorem dX6_zoneOf_9 : decode cX6_zoneOf 9 = .ok (.iload_n 1, 1) := by decide +kernel
theorem dX6_zoneOf_10 : decode cX6_zoneOf 10 = .ok (.invokevirtual 124, 3) := by decide +kernel
theorem dX6_zoneOf_13 : decode cX6_zoneOf 13 = .ok (.ifCond .ne 6, 3) := by decide +kernel
theorem dX6_zoneOf_16 : decode cX6_zoneOf 16 = .ok (.ldc 41, 2) := by decide +kernel
theorem dX6_zoneOf_18 : decode cX6_zoneOf 18 = .ok (.ireturn, 1) := by decide +kernel
theorem dX6_zoneOf_19 : decode cX6_zoneOf 19 = .ok (.iload_n 2, 1) := by decide +kernel
theorem dX6_zoneOf_20 : decode cX6_zoneOf 20 = .ok (.tableswitch 73 0 3 #[32, 39, 54, 67], 32) := by decide +kernel
theorem dX6_zoneOf_52 : decode cX6_zoneOf 52 = .ok (.aload_n 3, 1) := by decide +kernel
theorem dX6_zoneOf_53 : decode cX6_zoneOf 53 = .ok (.getfield 140, 3) := by decide +kernel
theorem dX6_zoneOf_56 : decode cX6_zoneOf 56 = .ok (.iload_n 1, 1) := by decide +kernel
theorem dX6_zoneOf_57 : decode cX6_zoneOf 57 = .ok (.iaload, 1) := by decide +kernel
theorem dX6_zoneOf_58 : decode cX6_zoneOf 58 = .ok (.ireturn, 1) := by decide +kernel
theorem dX6_zoneOf_59 : decode cX6_zoneOf 59 = .ok (.aload_n 3, 1) := by decide +kernel
theorem dX6_zoneOf_60 : decode cX6_zoneOf 60 = .ok (.getfield 125, 3) := by decide +kernel
theorem dX6_zoneOf_63 : decode cX6_zoneOf 63 = .ok (.iload_n 1, 1) := by decide +kernel
theorem dX6_zoneOf_64 : decode cX6_zoneOf 64 = .ok (.baload, 1) := by decide +kernel
theorem dX6_zoneOf_65 : decode cX6_zoneOf 65 = .ok (.ifCond .eq 7, 3) := by decide +kernel
theorem dX6_zoneOf_68 : decode cX6_zoneOf 68 = .ok (.iconst 1, 1) := by decide +kernel
theorem dX6_zoneOf_69 : decode cX6_zoneOf 69 = .ok (.goto 4, 3) := by decide +kernel
theorem dX6_zoneOf_72 : decode cX6_zoneOf 72 = .ok (.iconst 0, 1) := by decide +kernel
theorem dX6_zoneOf_73 : decode cX6_zoneOf 73 = .ok (.ireturn, 1) := by decide +kernel
theorem dX6_zoneOf_74 : decode cX6_zoneOf 74 = .ok (.aload_n 3, 1) := by decide +kernel
theorem dX6_zoneOf_75 : decode cX6_zoneOf 75 = .ok (.iload_n 1, 1) := by decide +kernel
theorem dX6_zoneOf_76 : decode cX6_zoneOf 76 = .ok (.aload_n 0, 1) := by decide +kernel
theorem dX6_zoneOf_77 : decode cX6_zoneOf 77 = .ok (.getfield 10, 3) := by decide +kernel
theorem dX6_zoneOf_80 : decode cX6_zoneOf 80 = .ok (.getfield 100, 3) := by decide +kernel
theorem dX6_zoneOf_83 : decode cX6_zoneOf 83 = .ok (.invokevirtual 143, 3) := by decide +kernel
theorem dX6_zoneOf_86 : decode cX6_zoneOf 86 = .ok (.ireturn, 1) := by decide +kernel
theorem dX6_zoneOf_87 : decode cX6_zoneOf 87 = .ok (.aload_n 3, 1) := by decide +kernel
theorem dX6_zoneOf_88 : decode cX6_zoneOf 88 = .ok (.iload_n 1, 1) := by decide +kernel
theorem dX6_zoneOf_89 : decode cX6_zoneOf 89 = .ok (.invokevirtual 147, 3) := by decide +kernel
theorem dX6_zoneOf_92 : decode cX6_zoneOf 92 = .ok (.ireturn, 1) := by decide +kernel
theorem dX6_zoneOf_93 : decode cX6_zoneOf 93 = .ok (.ldc 41, 2) := by decide +kernel
theorem dX6_zoneOf_95 : decode cX6_zoneOf 95 = .ok (.ireturn, 1) := by decide +kernel
theorem dX6_fill_0 : decode cX6_fill 0 = .ok (.iload_n 1, 1) := by decide +kernel
theorem dX6_fill_1 : decode cX6_fill 1 = .ok (.iconst 0, 1) := by decide +kernel
theorem dX6_fill_2 : decode cX6_fill 2 = .ok (.sipush 20000, 3) := by decide +kernel
theorem dX6_fill_5 : decode cX6_fill 5 = .ok (.invokestatic 30, 3) := by decide +kernel
theorem dX6_fill_8 : decode cX6_fill 8 = .ok (.ifCond .ne 6, 3) := by decide +kernel
theorem dX6_fill_11 : decode cX6_fill 11 = .ok (.ldc 41, 2) := by decide +kernel
theorem dX6_fill_13 : decode cX6_fill 13 = .ok (.ireturn, 1) := by decide +kernel
theorem dX6_fill_14 : decode cX6_fill 14 = .ok (.aload_n 0, 1) := by decide +kernel
theorem dX6_fill_15 : decode cX6_fill 15 = .ok (.invokevirtual 42, 3) := by decide +kernel
theorem dX6_fill_18 : decode cX6_fill 18 = .ok (.aload_n 0, 1) := by decide +kernel
theorem dX6_fill_19 : decode cX6_fill 19 = .ok (.getfield 10, 3) := by decide +kernel
theorem dX6_fill_22 : decode cX6_fill 22 = .ok (.getfield 150, 3) := by decide +kernel
theorem dX6_fill_25 : decode cX6_fill 25 = .ok (.istore_n 2, 1) := by decide +kernel
theorem dX6_fill_26 : decode cX6_fill 26 = .ok (.aload_n 0, 1) := by decide +kernel
theorem dX6_fill_27 : decode cX6_fill 27 = .ok (.getfield 10, 3) := by decide +kernel
theorem dX6_fill_30 : decode cX6_fill 30 = .ok (.iload_n 1, 1) := by decide +kernel
theorem dX6_fill_31 : decode cX6_fill 31 = .ok (.putfield 150, 3) := by decide +kernel
theorem dX6_fill_34 : decode cX6_fill 34 = .ok (.iload_n 2, 1) := by decide +kernel
theorem dX6_fill_35 : decode cX6_fill 35 = .ok (.ireturn, 1) := by decide +kernel
theorem dX6_reset_0 : decode cX6_reset 0 = .ok (.aload_n 0, 1) := by decide +kernel
theorem dX6_reset_1 : decode cX6_reset 1 = .ok (.getfield 10, 3) := by decide +kernel
theorem dX6_reset_4 : decode cX6_reset 4 = .ok (.getfield 153, 3) := by decide +kernel
theorem dX6_reset_7 : decode cX6_reset 7 = .ok (.ifCond .ne 6, 3) := by decide +kernel
theorem dX6_reset_10 : decode cX6_reset 10 = .ok (.ldc 71, 2) := by decide +kernel
theorem dX6_reset_12 : decode cX6_reset 12 = .ok (.ireturn, 1) := by decide +kernel
theorem dX6_reset_13 : decode cX6_reset 13 = .ok (.aload_n 0, 1) := by decide +kernel
theorem dX6_reset_14 : decode cX6_reset 14 = .ok (.invokevirtual 42, 3) := by decide +kernel
theorem dX6_reset_17 : decode cX6_reset 17 = .ok (.aload_n 0, 1) := by decide +kernel
theorem dX6_reset_18 : decode cX6_reset 18 = .ok (.getfield 10, 3) := by decide +kernel
theorem dX6_reset_21 : decode cX6_reset 21 = .ok (.getfield 153, 3) := by decide +kernel
theorem dX6_reset_24 : decode cX6_reset 24 = .ok (.istore_n 1, 1) := by decide +kernel
theorem dX6_reset_25 : decode cX6_reset 25 = .ok (.aload_n 0, 1) := by decide +kernel
theorem dX6_reset_26 : decode cX6_reset 26 = .ok (.getfield 10, 3) := by decide +kernel
theorem dX6_reset_29 : decode cX6_reset 29 = .ok (.invokevirtual 156, 3) := by decide +kernel
theorem dX6_reset_32 : decode cX6_reset 32 = .ok (.iload_n 1, 1) := by decide +kernel
theorem dX6_reset_33 : decode cX6_reset 33 = .ok (.ireturn, 1) := by decide +kernel
theorem dX6_pass_0 : decode cX6_pass 0 = .ok (.iload_n 1, 1) := by decide +kernel
theorem dX6_pass_1 : decode cX6_pass 1 = .ok (.iconst 1, 1) := by decide +kernel
theorem dX6_pass_2 : decode cX6_pass 2 = .ok (.sipush 240, 3) := by decide +kernel
theorem dX6_pass_5 : decode cX6_pass 5 = .ok (.invokestatic 30, 3) := by decide +kernel
theorem dX6_pass_8 : decode cX6_pass 8 = .ok (.ifCond .ne 6, 3) := by decide +kernel
theorem dX6_pass_11 : decode cX6_pass 11 = .ok (.ldc 41, 2) := by decide +kernel
theorem dX6_pass_13 : decode cX6_pass 13 = .ok (.ireturn, 1) := by decide +kernel
theorem dX6_pass_14 : decode cX6_pass 14 = .ok (.aload_n 0, 1) := by decide +kernel
theorem dX6_pass_15 : decode cX6_pass 15 = .ok (.getfield 10, 3) := by decide +kernel
theorem dX6_pass_18 : decode cX6_pass 18 = .ok (.getfield 159, 3) := by decide +kernel
theorem dX6_pass_21 : decode cX6_pass 21 = .ok (.iload_n 1, 1) := by decide +kernel
theorem dX6_pass_22 : decode cX6_pass 22 = .ok (.iadd, 1) := by decide +kernel
theorem dX6_pass_23 : decode cX6_pass 23 = .ok (.sipush 20000, 3) := by decide +kernel
theorem dX6_pass_26 : decode cX6_pass 26 = .ok (.if_icmp .le 6, 3) := by decide +kernel
theorem dX6_pass_29 : decode cX6_pass 29 = .ok (.ldc 58, 2) := by decide +kernel
theorem dX6_pass_31 : decode cX6_pass 31 = .ok (.ireturn, 1) := by decide +kernel
theorem dX6_pass_32 : decode cX6_pass 32 = .ok (.aload_n 0, 1) := by decide +kernel
theorem dX6_pass_33 : decode cX6_pass 33 = .ok (.invokevirtual 42, 3) := by decide +kernel
theorem dX6_pass_36 : decode cX6_pass 36 = .ok (.iconst 0, 1) := by decide +kernel
theorem dX6_pass_37 : decode cX6_pass 37 = .ok (.istore_n 2, 1) := by decide +kernel
theorem dX6_pass_38 : decode cX6_pass 38 = .ok (.iload_n 2, 1) := by decide +kernel
theorem dX6_pass_39 : decode cX6_pass 39 = .ok (.iload_n 1, 1) := by decide +kernel
theorem dX6_pass_40 : decode cX6_pass 40 = .ok (.if_icmp .ge 16, 3) := by decide +kernel
theorem dX6_pass_43 : decode cX6_pass 43 = .ok (.aload_n 0, 1) := by decide +kernel
theorem dX6_pass_44 : decode cX6_pass 44 = .ok (.getfield 10, 3) := by decide +kernel
theorem dX6_pass_47 : decode cX6_pass 47 = .ok (.invokevirtual 162, 3) := by decide +kernel
theorem dX6_pass_50 : decode cX6_pass 50 = .ok (.iinc 2 1, 3) := by decide +kernel
theorem dX6_pass_53 : decode cX6_pass 53 = .ok (.goto (-15), 3) := by decide +kernel
theorem dX6_pass_56 : decode cX6_pass 56 = .ok (.aload_n 0, 1) := by decide +kernel
theorem dX6_pass_57 : decode cX6_pass 57 = .ok (.getfield 10, 3) := by decide +kernel
theorem dX6_pass_60 : decode cX6_pass 60 = .ok (.getfield 159, 3) := by decide +kernel
theorem dX6_pass_63 : decode cX6_pass 63 = .ok (.ireturn, 1) := by decide +kernel
theorem dX6_foresee_0 : decode cX6_foresee 0 = .ok (.iload_n 1, 1) := by decide +kernel
theorem dX6_foresee_1 : decode cX6_foresee 1 = .ok (.iconst 1, 1) := by decide +kernel
theorem dX6_foresee_2 : decode cX6_foresee 2 = .ok (.sipush 1440, 3) := by decide +kernel
theorem dX6_foresee_5 : decode cX6_foresee 5 = .ok (.invokestatic 30, 3) := by decide +kernel
theorem dX6_foresee_8 : decode cX6_foresee 8 = .ok (.ifCond .eq 12, 3) := by decide +kernel
theorem dX6_foresee_11 : decode cX6_foresee 11 = .ok (.iload_n 2, 1) := by decide +kernel
theorem dX6_foresee_12 : decode cX6_foresee 12 = .ok (.iconst 0, 1) := by decide +kernel
theorem dX6_foresee_13 : decode cX6_foresee 13 = .ok (.iconst 4, 1) := by decide +kernel
theorem dX6_foresee_14 : decode cX6_foresee 14 = .ok (.invokestatic 30, 3) := by decide +kernel
theorem dX6_foresee_17 : decode cX6_foresee 17 = .ok (.ifCond .ne 6, 3) := by decide +kernel
theorem dX6_foresee_20 : decode cX6_foresee 20 = .ok (.ldc 41, 2) := by decide +kernel
theorem dX6_foresee_22 : decode cX6_foresee 22 = .ok (.ireturn, 1) := by decide +kernel
theorem dX6_foresee_23 : decode cX6_foresee 23 = .ok (.aload_n 0, 1) := by decide +kernel
theorem dX6_foresee_24 : decode cX6_foresee 24 = .ok (.getfield 16, 3) := by decide +kernel
theorem dX6_foresee_27 : decode cX6_foresee 27 = .ok (.aload_n 0, 1) := by decide +kernel
theorem dX6_foresee_28 : decode cX6_foresee 28 = .ok (.getfield 10, 3) := by decide +kernel
theorem dX6_foresee_31 : decode cX6_foresee 31 = .ok (.invokevirtual 165, 3) := by decide +kernel
theorem dX6_foresee_34 : decode cX6_foresee 34 = .ok (.iconst 0, 1) := by decide +kernel
theorem dX6_foresee_35 : decode cX6_foresee 35 = .ok (.istore_n 3, 1) := by decide +kernel
theorem dX6_foresee_36 : decode cX6_foresee 36 = .ok (.iload_n 3, 1) := by decide +kernel
theorem dX6_foresee_37 : decode cX6_foresee 37 = .ok (.iload_n 1, 1) := by decide +kernel
theorem dX6_foresee_38 : decode cX6_foresee 38 = .ok (.if_icmp .ge 16, 3) := by decide +kernel
theorem dX6_foresee_41 : decode cX6_foresee 41 = .ok (.aload_n 0, 1) := by decide +kernel
theorem dX6_foresee_42 : decode cX6_foresee 42 = .ok (.getfield 16, 3) := by decide +kernel
theorem dX6_foresee_45 : decode cX6_foresee 45 = .ok (.invokevirtual 162, 3) := by decide +kernel
theorem dX6_foresee_48 : decode cX6_foresee 48 = .ok (.iinc 3 1, 3) := by decide +kernel
theorem dX6_foresee_51 : decode cX6_foresee 51 = .ok (.goto (-15), 3) := by decide +kernel
theorem dX6_foresee_54 : decode cX6_foresee 54 = .ok (.iload_n 2, 1) := by decide +kernel
theorem dX6_foresee_55 : decode cX6_foresee 55 = .ok (.tableswitch 86 0 3 #[29, 37, 45, 56], 29) := by decide +kernel
theorem dX6_foresee_84 : decode cX6_foresee 84 = .ok (.aload_n 0, 1) := by decide +kernel
theorem dX6_foresee_85 : decode cX6_foresee 85 = .ok (.getfield 16, 3) := by decide +kernel
theorem dX6_foresee_88 : decode cX6_foresee 88 = .ok (.getfield 100, 3) := by decide +kernel
theorem dX6_foresee_91 : decode cX6_foresee 91 = .ok (.ireturn, 1) := by decide +kernel
theorem dX6_foresee_92 : decode cX6_foresee 92 = .ok (.aload_n 0, 1) := by decide +kernel
theorem dX6_foresee_93 : decode cX6_foresee 93 = .ok (.getfield 16, 3) := by decide +kernel
theorem dX6_foresee_96 : decode cX6_foresee 96 = .ok (.getfield 150, 3) := by decide +kernel
theorem dX6_foresee_99 : decode cX6_foresee 99 = .ok (.ireturn, 1) := by decide +kernel
theorem dX6_foresee_100 : decode cX6_foresee 100 = .ok (.aload_n 0, 1) := by decide +kernel
theorem dX6_foresee_101 : decode cX6_foresee 101 = .ok (.getfield 16, 3) := by decide +kernel
theorem dX6_foresee_104 : decode cX6_foresee 104 = .ok (.getfield 50, 3) := by decide +kernel
theorem dX6_foresee_107 : decode cX6_foresee 107 = .ok (.invokevirtual 169, 3) := by decide +kernel
theorem dX6_foresee_110 : decode cX6_foresee 110 = .ok (.ireturn, 1) := by decide +kernel
theorem dX6_foresee_111 : decode cX6_foresee 111 = .ok (.aload_n 0, 1) := by decide +kernel
theorem dX6_foresee_112 : decode cX6_foresee 112 = .ok (.getfield 16, 3) := by decide +kernel
theorem dX6_foresee_115 : decode cX6_foresee 115 = .ok (.getfield 50, 3) := by decide +kernel
theorem dX6_foresee_118 : decode cX6_foresee 118 = .ok (.getfield 88, 3) := by decide +kernel
theorem dX6_foresee_121 : decode cX6_foresee 121 = .ok (.iconst (-1), 1) := by decide +kernel
theorem dX6_foresee_122 : decode cX6_foresee 122 = .ok (.if_icmp .ne 8, 3) := by decide +kernel
theorem dX6_foresee_125 : decode cX6_foresee 125 = .ok (.ldc 110, 2) := by decide +kernel
theorem dX6_foresee_127 : decode cX6_foresee 127 = .ok (.goto 13, 3) := by decide +kernel
theorem dX6_foresee_130 : decode cX6_foresee 130 = .ok (.aload_n 0, 1) := by decide +kernel
theorem dX6_foresee_131 : decode cX6_foresee 131 = .ok (.getfield 16, 3) := by decide +kernel
theorem dX6_foresee_134 : decode cX6_foresee 134 = .ok (.getfield 50, 3) := by decide +kernel
theorem dX6_foresee_137 : decode cX6_foresee 137 = .ok (.getfield 88, 3) := by decide +kernel
theorem dX6_foresee_140 : decode cX6_foresee 140 = .ok (.ireturn, 1) := by decide +kernel
theorem dX6_foresee_141 : decode cX6_foresee 141 = .ok (.aload_n 0, 1) := by decide +kernel
theorem dX6_foresee_142 : decode cX6_foresee 142 = .ok (.getfield 16, 3) := by decide +kernel
theorem dX6_foresee_145 : decode cX6_foresee 145 = .ok (.getfield 172, 3) := by decide +kernel
theorem dX6_foresee_148 : decode cX6_foresee 148 = .ok (.ireturn, 1) := by decide +kernel
theorem dX6_station_0 : decode cX6_station 0 = .ok (.iload_n 1, 1) := by decide +kernel
theorem dX6_station_1 : decode cX6_station 1 = .ok (.tableswitch 234 0 14 #[75, 83, 91, 99, 107, 137, 148, 164, 172, 180, 191, 202, 210, 218, 226], 75) := by decide +kernel
theorem dX6_station_76 : decode cX6_station 76 = .ok (.aload_n 0, 1) := by decide +kernel
theorem dX6_station_77 : decode cX6_station 77 = .ok (.getfield 10, 3) := by decide +kernel
theorem dX6_station_80 : decode cX6_station 80 = .ok (.getfield 100, 3) := by decide +kernel
theorem dX6_station_83 : decode cX6_station 83 = .ok (.ireturn, 1) := by decide +kernel
theorem dX6_station_84 : decode cX6_station 84 = .ok (.aload_n 0, 1) := by decide +kernel
theorem dX6_station_85 : decode cX6_station 85 = .ok (.getfield 10, 3) := by decide +kernel
theorem dX6_station_88 : decode cX6_station 88 = .ok (.getfield 150, 3) := by decide +kernel
theorem dX6_station_91 : decode cX6_station 91 = .ok (.ireturn, 1) := by decide +kernel
theorem dX6_station_92 : decode cX6_station 92 = .ok (.aload_n 0, 1) := by decide +kernel
theorem dX6_station_93 : decode cX6_station 93 = .ok (.getfield 10, 3) := by decide +kernel
theorem dX6_station_96 : decode cX6_station 96 = .ok (.getfield 172, 3) := by decide +kernel
theorem dX6_station_99 : decode cX6_station 99 = .ok (.ireturn, 1) := by decide +kernel
theorem dX6_station_100 : decode cX6_station 100 = .ok (.aload_n 0, 1) := by decide +kernel
theorem dX6_station_101 : decode cX6_station 101 = .ok (.getfield 10, 3) := by decide +kernel
theorem dX6_station_104 : decode cX6_station 104 = .ok (.invokevirtual 184, 3) := by decide +kernel
theorem dX6_station_107 : decode cX6_station 107 = .ok (.ireturn, 1) := by decide +kernel
theorem dX6_station_108 : decode cX6_station 108 = .ok (.aload_n 0, 1) := by decide +kernel
theorem dX6_station_109 : decode cX6_station 109 = .ok (.getfield 10, 3) := by decide +kernel
theorem dX6_station_112 : decode cX6_station 112 = .ok (.getfield 50, 3) := by decide +kernel
theorem dX6_station_115 : decode cX6_station 115 = .ok (.getfield 88, 3) := by decide +kernel
theorem dX6_station_118 : decode cX6_station 118 = .ok (.iconst (-1), 1) := by decide +kernel
theorem dX6_station_119 : decode cX6_station 119 = .ok (.if_icmp .ne 8, 3) := by decide +kernel
theorem dX6_station_122 : decode cX6_station 122 = .ok (.ldc 110, 2) := by decide +kernel
theorem dX6_station_124 : decode cX6_station 124 = .ok (.goto 13, 3) := by decide +kernel
theorem dX6_station_127 : decode cX6_station 127 = .ok (.aload_n 0, 1) := by decide +kernel
theorem dX6_station_128 : decode cX6_station 128 = .ok (.getfield 10, 3) := by decide +kernel
theorem dX6_station_131 : decode cX6_station 131 = .ok (.getfield 50, 3) := by decide +kernel
theorem dX6_station_134 : decode cX6_station 134 = .ok (.getfield 88, 3) := by decide +kernel
theorem dX6_station_137 : decode cX6_station 137 = .ok (.ireturn, 1) := by decide +kernel
theorem dX6_station_138 : decode cX6_station 138 = .ok (.aload_n 0, 1) := by decide +kernel
theorem dX6_station_139 : decode cX6_station 139 = .ok (.getfield 10, 3) := by decide +kernel
theorem dX6_station_142 : decode cX6_station 142 = .ok (.getfield 50, 3) := by decide +kernel
theorem dX6_station_145 : decode cX6_station 145 = .ok (.invokevirtual 169, 3) := by decide +kernel
theorem dX6_station_148 : decode cX6_station 148 = .ok (.ireturn, 1) := by decide +kernel
theorem dX6_station_149 : decode cX6_station 149 = .ok (.aload_n 0, 1) := by decide +kernel
theorem dX6_station_150 : decode cX6_station 150 = .ok (.getfield 10, 3) := by decide +kernel
theorem dX6_station_153 : decode cX6_station 153 = .ok (.getfield 187, 3) := by decide +kernel
theorem dX6_station_156 : decode cX6_station 156 = .ok (.ifCond .eq 7, 3) := by decide +kernel
theorem dX6_station_159 : decode cX6_station 159 = .ok (.iconst 1, 1) := by decide +kernel
theorem dX6_station_160 : decode cX6_station 160 = .ok (.goto 4, 3) := by decide +kernel
theorem dX6_station_163 : decode cX6_station 163 = .ok (.iconst 0, 1) := by decide +kernel
theorem dX6_station_164 : decode cX6_station 164 = .ok (.ireturn, 1) := by decide +kernel
theorem dX6_station_165 : decode cX6_station 165 = .ok (.aload_n 0, 1) := by decide +kernel
theorem dX6_station_166 : decode cX6_station 166 = .ok (.getfield 10, 3) := by decide +kernel
theorem dX6_station_169 : decode cX6_station 169 = .ok (.getfield 153, 3) := by decide +kernel
theorem dX6_station_172 : decode cX6_station 172 = .ok (.ireturn, 1) := by decide +kernel
theorem dX6_station_173 : decode cX6_station 173 = .ok (.aload_n 0, 1) := by decide +kernel
theorem dX6_station_174 : decode cX6_station 174 = .ok (.getfield 10, 3) := by decide +kernel
theorem dX6_station_177 : decode cX6_station 177 = .ok (.getfield 191, 3) := by decide +kernel
theorem dX6_station_180 : decode cX6_station 180 = .ok (.ireturn, 1) := by decide +kernel
theorem dX6_station_181 : decode cX6_station 181 = .ok (.aload_n 0, 1) := by decide +kernel
theorem dX6_station_182 : decode cX6_station 182 = .ok (.getfield 10, 3) := by decide +kernel
theorem dX6_station_185 : decode cX6_station 185 = .ok (.getfield 194, 3) := by decide +kernel
theorem dX6_station_188 : decode cX6_station 188 = .ok (.getfield 198, 3) := by decide +kernel
theorem dX6_station_191 : decode cX6_station 191 = .ok (.ireturn, 1) := by decide +kernel
theorem dX6_station_192 : decode cX6_station 192 = .ok (.aload_n 0, 1) := by decide +kernel
theorem dX6_station_193 : decode cX6_station 193 = .ok (.getfield 10, 3) := by decide +kernel
theorem dX6_station_196 : decode cX6_station 196 = .ok (.getfield 194, 3) := by decide +kernel
theorem dX6_station_199 : decode cX6_station 199 = .ok (.getfield 203, 3) := by decide +kernel
theorem dX6_station_202 : decode cX6_station 202 = .ok (.ireturn, 1) := by decide +kernel
theorem dX6_station_203 : decode cX6_station 203 = .ok (.aload_n 0, 1) := by decide +kernel
theorem dX6_station_204 : decode cX6_station 204 = .ok (.getfield 10, 3) := by decide +kernel
theorem dX6_station_207 : decode cX6_station 207 = .ok (.getfield 206, 3) := by decide +kernel
theorem dX6_station_210 : decode cX6_station 210 = .ok (.ireturn, 1) := by decide +kernel
theorem dX6_station_211 : decode cX6_station 211 = .ok (.aload_n 0, 1) := by decide +kernel
theorem dX6_station_212 : decode cX6_station 212 = .ok (.getfield 10, 3) := by decide +kernel
theorem dX6_station_215 : decode cX6_station 215 = .ok (.getfield 209, 3) := by decide +kernel
theorem dX6_station_218 : decode cX6_station 218 = .ok (.ireturn, 1) := by decide +kernel
theorem dX6_station_219 : decode cX6_station 219 = .ok (.aload_n 0, 1) := by decide +kernel
theorem dX6_station_220 : decode cX6_station 220 = .ok (.getfield 10, 3) := by decide +kernel
theorem dX6_station_223 : decode cX6_station 223 = .ok (.getfield 212, 3) := by decide +kernel
theorem dX6_station_226 : decode cX6_station 226 = .ok (.ireturn, 1) := by decide +kernel
theorem dX6_station_227 : decode cX6_station 227 = .ok (.aload_n 0, 1) := by decide +kernel
theorem dX6_station_228 : decode cX6_station 228 = .ok (.getfield 10, 3) := by decide +kernel
theorem dX6_station_231 : decode cX6_station 231 = .ok (.getfield 215, 3) := by decide +kernel
theorem dX6_station_234 : decode cX6_station 234 = .ok (.ireturn, 1) := by decide +kernel
theorem dX6_station_235 : decode cX6_station 235 = .ok (.ldc 41, 2) := by decide +kernel
theorem dX6_station_237 : decode cX6_station 237 = .ok (.ireturn, 1) := by decide +kernel
theorem dX6_eventAt_0 : decode cX6_eventAt 0 = .ok (.iload_n 1, 1) := by decide +kernel
theorem dX6_eventAt_1 : decode cX6_eventAt 1 = .ok (.ifCond .lt 12, 3) := by decide +kernel
theorem dX6_eventAt_4 : decode cX6_eventAt 4 = .ok (.iload_n 2, 1) := by decide +kernel
theorem dX6_eventAt_5 : decode cX6_eventAt 5 = .ok (.iconst 0, 1) := by decide +kernel
theorem dX6_eventAt_6 : decode cX6_eventAt 6 = .ok (.iconst 2, 1) := by decide +kernel
theorem dX6_eventAt_7 : decode cX6_eventAt 7 = .ok (.invokestatic 30, 3) := by decide +kernel
theorem dX6_eventAt_10 : decode cX6_eventAt 10 = .ok (.ifCond .ne 6, 3) := by decide +kernel
theorem dX6_eventAt_13 : decode cX6_eventAt 13 = .ok (.ldc 41, 2) := by decide +kernel
theorem dX6_eventAt_15 : decode cX6_eventAt 15 = .ok (.ireturn, 1) := by decide +kernel
theorem dX6_eventAt_16 : decode cX6_eventAt 16 = .ok (.aload_n 0, 1) := by decide +kernel
theorem dX6_eventAt_17 : decode cX6_eventAt 17 = .ok (.getfield 10, 3) := by decide +kernel
theorem dX6_eventAt_20 : decode cX6_eventAt 20 = .ok (.getfield 177, 3) := by decide +kernel
theorem dX6_eventAt_23 : decode cX6_eventAt 23 = .ok (.astore_n 3, 1) := by decide +kernel
theorem dX6_eventAt_24 : decode cX6_eventAt 24 = .ok (.aload_n 3, 1) := by decide +kernel
theorem dX6_eventAt_25 : decode cX6_eventAt 25 = .ok (.iload_n 1, 1) := by decide +kernel
theorem dX6_eventAt_26 : decode cX6_eventAt 26 = .ok (.invokevirtual 222, 3) := by decide +kernel
theorem dX6_eventAt_29 : decode cX6_eventAt 29 = .ok (.istore 4, 2) := by decide +kernel
theorem dX6_eventAt_31 : decode cX6_eventAt 31 = .ok (.iload 4, 2) := by decide +kernel
theorem dX6_eventAt_33 : decode cX6_eventAt 33 = .ok (.iconst (-1), 1) := by decide +kernel
theorem dX6_eventAt_34 : decode cX6_eventAt 34 = .ok (.if_icmp .ne 6, 3) := by decide +kernel
theorem dX6_eventAt_37 : decode cX6_eventAt 37 = .ok (.ldc 110, 2) := by decide +kernel
theorem dX6_eventAt_39 : decode cX6_eventAt 39 = .ok (.ireturn, 1) := by decide +kernel
theorem dX6_eventAt_40 : decode cX6_eventAt 40 = .ok (.iload_n 2, 1) := by decide +kernel
theorem dX6_eventAt_41 : decode cX6_eventAt 41 = .ok (.ifCond .ne 11, 3) := by decide +kernel
theorem dX6_eventAt_44 : decode cX6_eventAt 44 = .ok (.aload_n 3, 1) := by decide +kernel
theorem dX6_eventAt_45 : decode cX6_eventAt 45 = .ok (.getfield 225, 3) := by decide +kernel
theorem dX6_eventAt_48 : decode cX6_eventAt 48 = .ok (.iload 4, 2) := by decide +kernel
theorem dX6_eventAt_50 : decode cX6_eventAt 50 = .ok (.iaload, 1) := by decide +kernel
theorem dX6_eventAt_51 : decode cX6_eventAt 51 = .ok (.ireturn, 1) := by decide +kernel
theorem dX6_eventAt_52 : decode cX6_eventAt 52 = .ok (.iload_n 2, 1) := by decide +kernel
theorem dX6_eventAt_53 : decode cX6_eventAt 53 = .ok (.iconst 1, 1) := by decide +kernel
theorem dX6_eventAt_54 : decode cX6_eventAt 54 = .ok (.if_icmp .ne 11, 3) := by decide +kernel
theorem dX6_eventAt_57 : decode cX6_eventAt 57 = .ok (.aload_n 3, 1) := by decide +kernel
theorem dX6_eventAt_58 : decode cX6_eventAt 58 = .ok (.getfield 226, 3) := by decide +kernel
theorem dX6_eventAt_61 : decode cX6_eventAt 61 = .ok (.iload 4, 2) := by decide +kernel
theorem dX6_eventAt_63 : decode cX6_eventAt 63 = .ok (.iaload, 1) := by decide +kernel
theorem dX6_eventAt_64 : decode cX6_eventAt 64 = .ok (.ireturn, 1) := by decide +kernel
theorem dX6_eventAt_65 : decode cX6_eventAt 65 = .ok (.aload_n 3, 1) := by decide +kernel
theorem dX6_eventAt_66 : decode cX6_eventAt 66 = .ok (.getfield 229, 3) := by decide +kernel
theorem dX6_eventAt_69 : decode cX6_eventAt 69 = .ok (.iload 4, 2) := by decide +kernel
theorem dX6_eventAt_71 : decode cX6_eventAt 71 = .ok (.iaload, 1) := by decide +kernel
theorem dX6_eventAt_72 : decode cX6_eventAt 72 = .ok (.iconst (-1), 1) := by decide +kernel
theorem dX6_eventAt_73 : decode cX6_eventAt 73 = .ok (.if_icmp .ne 8, 3) := by decide +kernel
theorem dX6_eventAt_76 : decode cX6_eventAt 76 = .ok (.ldc 110, 2) := by decide +kernel
theorem dX6_eventAt_78 : decode cX6_eventAt 78 = .ok (.goto 10, 3) := by decide +kernel
theorem dX6_eventAt_81 : decode cX6_eventAt 81 = .ok (.aload_n 3, 1) := by decide +kernel
theorem dX6_eventAt_82 : decode cX6_eventAt 82 = .ok (.getfield 229, 3) := by decide +kernel
theorem dX6_eventAt_85 : decode cX6_eventAt 85 = .ok (.iload 4, 2) := by decide +kernel
theorem dX6_eventAt_87 : decode cX6_eventAt 87 = .ok (.iaload, 1) := by decide +kernel
theorem dX6_eventAt_88 : decode cX6_eventAt 88 = .ok (.ireturn, 1) := by decide +kernel
theorem dX6_count_0 : decode cX6_count 0 = .ok (.iload_n 1, 1) := by decide +kernel
theorem dX6_count_1 : decode cX6_count 1 = .ok (.bipush 20, 2) := by decide +kernel
theorem dX6_count_3 : decode cX6_count 3 = .ok (.bipush 38, 2) := by decide +kernel
theorem dX6_count_5 : decode cX6_count 5 = .ok (.invokestatic 30, 3) := by decide +kernel
theorem dX6_count_8 : decode cX6_count 8 = .ok (.ifCond .eq 16, 3) := by decide +kernel
theorem dX6_count_11 : decode cX6_count 11 = .ok (.aload_n 0, 1) := by decide +kernel
theorem dX6_count_12 : decode cX6_count 12 = .ok (.getfield 10, 3) := by decide +kernel
theorem dX6_count_15 : decode cX6_count 15 = .ok (.getfield 45, 3) := by decide +kernel
theorem dX6_count_18 : decode cX6_count 18 = .ok (.iload_n 1, 1) := by decide +kernel
theorem dX6_count_19 : decode cX6_count 19 = .ok (.bipush 20, 2) := by decide +kernel
theorem dX6_count_21 : decode cX6_count 21 = .ok (.isub, 1) := by decide +kernel
theorem dX6_count_22 : decode cX6_count 22 = .ok (.iaload, 1) := by decide +kernel
theorem dX6_count_23 : decode cX6_count 23 = .ok (.ireturn, 1) := by decide +kernel
theorem dX6_count_24 : decode cX6_count 24 = .ok (.iload_n 1, 1) := by decide +kernel
theorem dX6_count_25 : decode cX6_count 25 = .ok (.tableswitch 169 0 10 #[59, 70, 81, 92, 103, 114, 125, 136, 144, 156, 161], 59) := by decide +kernel
theorem dX6_count_84 : decode cX6_count 84 = .ok (.aload_n 0, 1) := by decide +kernel
theorem dX6_count_85 : decode cX6_count 85 = .ok (.getfield 10, 3) := by decide +kernel
theorem dX6_count_88 : decode cX6_count 88 = .ok (.getfield 50, 3) := by decide +kernel
theorem dX6_count_91 : decode cX6_count 91 = .ok (.getfield 54, 3) := by decide +kernel
theorem dX6_count_94 : decode cX6_count 94 = .ok (.ireturn, 1) := by decide +kernel
theorem dX6_count_95 : decode cX6_count 95 = .ok (.aload_n 0, 1) := by decide +kernel
theorem dX6_count_96 : decode cX6_count 96 = .ok (.getfield 10, 3) := by decide +kernel
theorem dX6_count_99 : decode cX6_count 99 = .ok (.getfield 115, 3) := by decide +kernel
theorem dX6_count_102 : decode cX6_count 102 = .ok (.getfield 119, 3) := by decide +kernel
theorem dX6_count_105 : decode cX6_count 105 = .ok (.ireturn, 1) := by decide +kernel
theorem dX6_count_106 : decode cX6_count 106 = .ok (.aload_n 0, 1) := by decide +kernel
theorem dX6_count_107 : decode cX6_count 107 = .ok (.getfield 10, 3) := by decide +kernel
theorem dX6_count_110 : decode cX6_count 110 = .ok (.getfield 115, 3) := by decide +kernel
theorem dX6_count_113 : decode cX6_count 113 = .ok (.getfield 134, 3) := by decide +kernel
theorem dX6_count_116 : decode cX6_count 116 = .ok (.ireturn, 1) := by decide +kernel
theorem dX6_count_117 : decode cX6_count 117 = .ok (.aload_n 0, 1) := by decide +kernel
theorem dX6_count_118 : decode cX6_count 118 = .ok (.getfield 10, 3) := by decide +kernel
theorem dX6_count_121 : decode cX6_count 121 = .ok (.getfield 115, 3) := by decide +kernel
theorem dX6_count_124 : decode cX6_count 124 = .ok (.invokevirtual 128, 3) := by decide +kernel
theorem dX6_count_127 : decode cX6_count 127 = .ok (.ireturn, 1) := by decide +kernel
theorem dX6_count_128 : decode cX6_count 128 = .ok (.aload_n 0, 1) := by decide +kernel
theorem dX6_count_129 : decode cX6_count 129 = .ok (.getfield 10, 3) := by decide +kernel
theorem dX6_count_132 : decode cX6_count 132 = .ok (.getfield 50, 3) := by decide +kernel
theorem dX6_count_135 : decode cX6_count 135 = .ok (.invokevirtual 231, 3) := by decide +kernel
theorem dX6_count_138 : decode cX6_count 138 = .ok (.ireturn, 1) := by decide +kernel
theorem dX6_count_139 : decode cX6_count 139 = .ok (.aload_n 0, 1) := by decide +kernel
theorem dX6_count_140 : decode cX6_count 140 = .ok (.getfield 10, 3) := by decide +kernel
theorem dX6_count_143 : decode cX6_count 143 = .ok (.getfield 194, 3) := by decide +kernel
theorem dX6_count_146 : decode cX6_count 146 = .ok (.getfield 234, 3) := by decide +kernel
theorem dX6_count_149 : decode cX6_count 149 = .ok (.ireturn, 1) := by decide +kernel
theorem dX6_count_150 : decode cX6_count 150 = .ok (.aload_n 0, 1) := by decide +kernel
theorem dX6_count_151 : decode cX6_count 151 = .ok (.getfield 10, 3) := by decide +kernel
theorem dX6_count_154 : decode cX6_count 154 = .ok (.getfield 177, 3) := by decide +kernel
theorem dX6_count_157 : decode cX6_count 157 = .ok (.invokevirtual 235, 3) := by decide +kernel
theorem dX6_count_160 : decode cX6_count 160 = .ok (.ireturn, 1) := by decide +kernel
theorem dX6_count_161 : decode cX6_count 161 = .ok (.aload_n 0, 1) := by decide +kernel
theorem dX6_count_162 : decode cX6_count 162 = .ok (.getfield 10, 3) := by decide +kernel
theorem dX6_count_165 : decode cX6_count 165 = .ok (.getfield 159, 3) := by decide +kernel
theorem dX6_count_168 : decode cX6_count 168 = .ok (.ireturn, 1) := by decide +kernel
theorem dX6_count_169 : decode cX6_count 169 = .ok (.aload_n 0, 1) := by decide +kernel
theorem dX6_count_170 : decode cX6_count 170 = .ok (.getfield 10, 3) := by decide +kernel
theorem dX6_count_173 : decode cX6_count 173 = .ok (.getfield 159, 3) := by decide +kernel
theorem dX6_count_176 : decode cX6_count 176 = .ok (.sipush 1440, 3) := by decide +kernel
theorem dX6_count_179 : decode cX6_count 179 = .ok (.irem, 1) := by decide +kernel
theorem dX6_count_180 : decode cX6_count 180 = .ok (.ireturn, 1) := by decide +kernel
theorem dX6_count_181 : decode cX6_count 181 = .ok (.aload_n 0, 1) := by decide +kernel
theorem dX6_count_182 : decode cX6_count 182 = .ok (.getfield 238, 3) := by decide +kernel
theorem dX6_count_185 : decode cX6_count 185 = .ok (.ireturn, 1) := by decide +kernel
theorem dX6_count_186 : decode cX6_count 186 = .ok (.aload_n 0, 1) := by decide +kernel
theorem dX6_count_187 : decode cX6_count 187 = .ok (.getfield 26, 3) := by decide +kernel
theorem dX6_count_190 : decode cX6_count 190 = .ok (.getfield 241, 3) := by decide +kernel
theorem dX6_count_193 : decode cX6_count 193 = .ok (.ireturn, 1) := by decide +kernel
theorem dX6_count_194 : decode cX6_count 194 = .ok (.ldc 41, 2) := by decide +kernel
theorem dX6_count_196 : decode cX6_count 196 = .ok (.ireturn, 1) := by decide +kernel
theorem dX6_undo_0 : decode cX6_undo 0 = .ok (.aload_n 0, 1) := by decide +kernel
theorem dX6_undo_1 : decode cX6_undo 1 = .ok (.getfield 238, 3) := by decide +kernel
theorem dX6_undo_4 : decode cX6_undo 4 = .ok (.ifCond .le 11, 3) := by decide +kernel
theorem dX6_undo_7 : decode cX6_undo 7 = .ok (.aload_n 0, 1) := by decide +kernel
theorem dX6_undo_8 : decode cX6_undo 8 = .ok (.getfield 238, 3) := by decide +kernel
theorem dX6_undo_11 : decode cX6_undo 11 = .ok (.iconst 4, 1) := by decide +kernel
theorem dX6_undo_12 : decode cX6_undo 12 = .ok (.if_icmp .le 6, 3) := by decide +kernel
theorem dX6_undo_15 : decode cX6_undo 15 = .ok (.ldc 71, 2) := by decide +kernel
theorem dX6_undo_17 : decode cX6_undo 17 = .ok (.ireturn, 1) := by decide +kernel
theorem dX6_undo_18 : decode cX6_undo 18 = .ok (.aload_n 0, 1) := by decide +kernel
theorem dX6_undo_19 : decode cX6_undo 19 = .ok (.dup, 1) := by decide +kernel
theorem dX6_undo_20 : decode cX6_undo 20 = .ok (.getfield 238, 3) := by decide +kernel
theorem dX6_undo_23 : decode cX6_undo 23 = .ok (.iconst 1, 1) := by decide +kernel
theorem dX6_undo_24 : decode cX6_undo 24 = .ok (.isub, 1) := by decide +kernel
theorem dX6_undo_25 : decode cX6_undo 25 = .ok (.putfield 238, 3) := by decide +kernel
theorem dX6_undo_28 : decode cX6_undo 28 = .ok (.aload_n 0, 1) := by decide +kernel
theorem dX6_undo_29 : decode cX6_undo 29 = .ok (.getfield 10, 3) := by decide +kernel
theorem dX6_undo_32 : decode cX6_undo 32 = .ok (.aload_n 0, 1) := by decide +kernel
theorem dX6_undo_33 : decode cX6_undo 33 = .ok (.getfield 19, 3) := by decide +kernel
theorem dX6_undo_36 : decode cX6_undo 36 = .ok (.aload_n 0, 1) := by decide +kernel
theorem dX6_undo_37 : decode cX6_undo 37 = .ok (.getfield 238, 3) := by decide +kernel
theorem dX6_undo_40 : decode cX6_undo 40 = .ok (.aaload, 1) := by decide +kernel
theorem dX6_undo_41 : decode cX6_undo 41 = .ok (.invokevirtual 165, 3) := by decide +kernel
theorem dX6_undo_44 : decode cX6_undo 44 = .ok (.aload_n 0, 1) := by decide +kernel
theorem dX6_undo_45 : decode cX6_undo 45 = .ok (.getfield 238, 3) := by decide +kernel
theorem dX6_undo_48 : decode cX6_undo 48 = .ok (.ireturn, 1) := by decide +kernel
theorem dX6_remember_0 : decode cX6_remember 0 = .ok (.aload_n 0, 1) := by decide +kernel
theorem dX6_remember_1 : decode cX6_remember 1 = .ok (.getfield 238, 3) := by decide +kernel
theorem dX6_remember_4 : decode cX6_remember 4 = .ok (.iconst 4, 1) := by decide +kernel
theorem dX6_remember_5 : decode cX6_remember 5 = .ok (.if_icmp .lt 49, 3) := by decide +kernel
theorem dX6_remember_8 : decode cX6_remember 8 = .ok (.aload_n 0, 1) := by decide +kernel
theorem dX6_remember_9 : decode cX6_remember 9 = .ok (.getfield 19, 3) := by decide +kernel
theorem dX6_remember_12 : decode cX6_remember 12 = .ok (.iconst 0, 1) := by decide +kernel
theorem dX6_remember_13 : decode cX6_remember 13 = .ok (.aaload, 1) := by decide +kernel
theorem dX6_remember_14 : decode cX6_remember 14 = .ok (.astore_n 1, 1) := by decide +kernel
theorem dX6_remember_15 : decode cX6_remember 15 = .ok (.iconst 1, 1) := by decide +kernel
theorem dX6_remember_16 : decode cX6_remember 16 = .ok (.istore_n 2, 1) := by decide +kernel
theorem dX6_remember_17 : decode cX6_remember 17 = .ok (.iload_n 2, 1) := by decide +kernel
theorem dX6_remember_18 : decode cX6_remember 18 = .ok (.iconst 4, 1) := by decide +kernel
theorem dX6_remember_19 : decode cX6_remember 19 = .ok (.if_icmp .ge 23, 3) := by decide +kernel
theorem dX6_remember_22 : decode cX6_remember 22 = .ok (.aload_n 0, 1) := by decide +kernel
theorem dX6_remember_23 : decode cX6_remember 23 = .ok (.getfield 19, 3) := by decide +kernel
theorem dX6_remember_26 : decode cX6_remember 26 = .ok (.iload_n 2, 1) := by decide +kernel
theorem dX6_remember_27 : decode cX6_remember 27 = .ok (.iconst 1, 1) := by decide +kernel
theorem dX6_remember_28 : decode cX6_remember 28 = .ok (.isub, 1) := by decide +kernel
theorem dX6_remember_29 : decode cX6_remember 29 = .ok (.aload_n 0, 1) := by decide +kernel
theorem dX6_remember_30 : decode cX6_remember 30 = .ok (.getfield 19, 3) := by decide +kernel
theorem dX6_remember_33 : decode cX6_remember 33 = .ok (.iload_n 2, 1) := by decide +kernel
theorem dX6_remember_34 : decode cX6_remember 34 = .ok (.aaload, 1) := by decide +kernel
theorem dX6_remember_35 : decode cX6_remember 35 = .ok (.aastore, 1) := by decide +kernel
theorem dX6_remember_36 : decode cX6_remember 36 = .ok (.iinc 2 1, 3) := by decide +kernel
theorem dX6_remember_39 : decode cX6_remember 39 = .ok (.goto (-22), 3) := by decide +kernel
theorem dX6_remember_42 : decode cX6_remember 42 = .ok (.aload_n 0, 1) := by decide +kernel
theorem dX6_remember_43 : decode cX6_remember 43 = .ok (.getfield 19, 3) := by decide +kernel
theorem dX6_remember_46 : decode cX6_remember 46 = .ok (.iconst 3, 1) := by decide +kernel
theorem dX6_remember_47 : decode cX6_remember 47 = .ok (.aload_n 1, 1) := by decide +kernel
theorem dX6_remember_48 : decode cX6_remember 48 = .ok (.aastore, 1) := by decide +kernel
theorem dX6_remember_49 : decode cX6_remember 49 = .ok (.aload_n 0, 1) := by decide +kernel
theorem dX6_remember_50 : decode cX6_remember 50 = .ok (.iconst 3, 1) := by decide +kernel
theorem dX6_remember_51 : decode cX6_remember 51 = .ok (.putfield 238, 3) := by decide +kernel
theorem dX6_remember_54 : decode cX6_remember 54 = .ok (.aload_n 0, 1) := by decide +kernel
theorem dX6_remember_55 : decode cX6_remember 55 = .ok (.getfield 19, 3) := by decide +kernel
theorem dX6_remember_58 : decode cX6_remember 58 = .ok (.aload_n 0, 1) := by decide +kernel
theorem dX6_remember_59 : decode cX6_remember 59 = .ok (.getfield 238, 3) := by decide +kernel
theorem dX6_remember_62 : decode cX6_remember 62 = .ok (.aaload, 1) := by decide +kernel
theorem dX6_remember_63 : decode cX6_remember 63 = .ok (.astore_n 1, 1) := by decide +kernel
theorem dX6_remember_64 : decode cX6_remember 64 = .ok (.aload_n 1, 1) := by decide +kernel
theorem dX6_remember_65 : decode cX6_remember 65 = .ok (.ifnull 11, 3) := by decide +kernel
theorem dX6_remember_68 : decode cX6_remember 68 = .ok (.aload_n 1, 1) := by decide +kernel
theorem dX6_remember_69 : decode cX6_remember 69 = .ok (.aload_n 0, 1) := by decide +kernel
theorem dX6_remember_70 : decode cX6_remember 70 = .ok (.getfield 10, 3) := by decide +kernel
theorem dX6_remember_73 : decode cX6_remember 73 = .ok (.invokevirtual 165, 3) := by decide +kernel
theorem dX6_remember_76 : decode cX6_remember 76 = .ok (.aload_n 0, 1) := by decide +kernel
theorem dX6_remember_77 : decode cX6_remember 77 = .ok (.dup, 1) := by decide +kernel
theorem dX6_remember_78 : decode cX6_remember 78 = .ok (.getfield 238, 3) := by decide +kernel
theorem dX6_remember_81 : decode cX6_remember 81 = .ok (.iconst 1, 1) := by decide +kernel
theorem dX6_remember_82 : decode cX6_remember 82 = .ok (.iadd, 1) := by decide +kernel
theorem dX6_remember_83 : decode cX6_remember 83 = .ok (.putfield 238, 3) := by decide +kernel
theorem dX6_remember_86 : decode cX6_remember 86 = .ok (.return_, 1) := by decide +kernel
theorem dX6_within_0 : decode cX6_within 0 = .ok (.iload_n 0, 1) := by decide +kernel
theorem dX6_within_1 : decode cX6_within 1 = .ok (.iload_n 1, 1) := by decide +kernel
theorem dX6_within_2 : decode cX6_within 2 = .ok (.if_icmp .lt 12, 3) := by decide +kernel
theorem dX6_within_5 : decode cX6_within 5 = .ok (.iload_n 0, 1) := by decide +kernel
theorem dX6_within_6 : decode cX6_within 6 = .ok (.iload_n 2, 1) := by decide +kernel
theorem dX6_within_7 : decode cX6_within 7 = .ok (.if_icmp .gt 7, 3) := by decide +kernel
theorem dX6_within_10 : decode cX6_within 10 = .ok (.iconst 1, 1) := by decide +kernel
theorem dX6_within_11 : decode cX6_within 11 = .ok (.goto 4, 3) := by decide +kernel
theorem dX6_within_14 : decode cX6_within 14 = .ok (.iconst 0, 1) := by decide +kernel
theorem dX6_within_15 : decode cX6_within 15 = .ok (.ireturn, 1) := by decide +kernel
theorem dX6_hold_0 : decode cX6_hold 0 = .ok (.iload_n 1, 1) := by decide +kernel
theorem dX6_hold_1 : decode cX6_hold 1 = .ok (.iload_n 2, 1) := by decide +kernel
theorem dX6_hold_2 : decode cX6_hold 2 = .ok (.iload_n 0, 1) := by decide +kernel
theorem dX6_hold_3 : decode cX6_hold 3 = .ok (.invokestatic 291, 3) := by decide +kernel
theorem dX6_hold_6 : decode cX6_hold 6 = .ok (.invokestatic 296, 3) := by decide +kernel
theorem dX6_hold_9 : decode cX6_hold 9 = .ok (.ireturn, 1) := by decide +kernel

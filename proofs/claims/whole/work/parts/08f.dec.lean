/-! decode rows -/
theorem dX7_zone_41 : decode cX7_zone 41 = .ok (.istore_n 2, 1) := by decide +kernel
theorem dX7_zone_42 : decode cX7_zone 42 = .ok (.aload_n 0, 1) := by decide +kernel
theorem dX7_zone_43 : decode cX7_zone 43 = .ok (.getfield 7, 3) := by decide +kernel
theorem dX7_zone_46 : decode cX7_zone 46 = .ok (.bipush 87, 2) := by decide +kernel
theorem dX7_zone_48 : decode cX7_zone 48 = .ok (.iconst 2, 1) := by decide +kernel
theorem dX7_zone_49 : decode cX7_zone 49 = .ok (.iload_n 2, 1) := by decide +kernel
theorem dX7_zone_50 : decode cX7_zone 50 = .ok (.imul, 1) := by decide +kernel
theorem dX7_zone_51 : decode cX7_zone 51 = .ok (.iadd, 1) := by decide +kernel
theorem dX7_zone_52 : decode cX7_zone 52 = .ok (.iload_n 1, 1) := by decide +kernel
theorem dX7_zone_53 : decode cX7_zone 53 = .ok (.iastore, 1) := by decide +kernel
theorem dX7_zone_54 : decode cX7_zone 54 = .ok (.aload_n 0, 1) := by decide +kernel
theorem dX7_zone_55 : decode cX7_zone 55 = .ok (.getfield 7, 3) := by decide +kernel
theorem dX7_zone_58 : decode cX7_zone 58 = .ok (.bipush 87, 2) := by decide +kernel
theorem dX7_zone_60 : decode cX7_zone 60 = .ok (.iconst 2, 1) := by decide +kernel
theorem dX7_zone_61 : decode cX7_zone 61 = .ok (.iload_n 2, 1) := by decide +kernel
theorem dX7_zone_62 : decode cX7_zone 62 = .ok (.imul, 1) := by decide +kernel
theorem dX7_zone_63 : decode cX7_zone 63 = .ok (.iadd, 1) := by decide +kernel
theorem dX7_zone_64 : decode cX7_zone 64 = .ok (.iconst 1, 1) := by decide +kernel
theorem dX7_zone_65 : decode cX7_zone 65 = .ok (.iadd, 1) := by decide +kernel
theorem dX7_zone_66 : decode cX7_zone 66 = .ok (.iconst 0, 1) := by decide +kernel
theorem dX7_zone_67 : decode cX7_zone 67 = .ok (.iastore, 1) := by decide +kernel
theorem dX7_zone_68 : decode cX7_zone 68 = .ok (.aload_n 0, 1) := by decide +kernel
theorem dX7_zone_69 : decode cX7_zone 69 = .ok (.getfield 7, 3) := by decide +kernel
theorem dX7_zone_72 : decode cX7_zone 72 = .ok (.bipush 15, 2) := by decide +kernel
theorem dX7_zone_74 : decode cX7_zone 74 = .ok (.dup2, 1) := by decide +kernel
theorem dX7_zone_75 : decode cX7_zone 75 = .ok (.iaload, 1) := by decide +kernel
theorem dX7_zone_76 : decode cX7_zone 76 = .ok (.iconst 1, 1) := by decide +kernel
theorem dX7_zone_77 : decode cX7_zone 77 = .ok (.iadd, 1) := by decide +kernel
theorem dX7_zone_78 : decode cX7_zone 78 = .ok (.iastore, 1) := by decide +kernel
theorem dX7_zone_79 : decode cX7_zone 79 = .ok (.iload_n 2, 1) := by decide +kernel
theorem dX7_zone_80 : decode cX7_zone 80 = .ok (.ireturn, 1) := by decide +kernel
theorem dX7_openZones_0 : decode cX7_openZones 0 = .ok (.iconst 0, 1) := by decide +kernel
theorem dX7_openZones_1 : decode cX7_openZones 1 = .ok (.istore_n 1, 1) := by decide +kernel
theorem dX7_openZones_2 : decode cX7_openZones 2 = .ok (.iconst 0, 1) := by decide +kernel
theorem dX7_openZones_3 : decode cX7_openZones 3 = .ok (.istore_n 2, 1) := by decide +kernel
theorem dX7_openZones_4 : decode cX7_openZones 4 = .ok (.iload_n 2, 1) := by decide +kernel
theorem dX7_openZones_5 : decode cX7_openZones 5 = .ok (.aload_n 0, 1) := by decide +kernel
theorem dX7_openZones_6 : decode cX7_openZones 6 = .ok (.getfield 7, 3) := by decide +kernel
theorem dX7_openZones_9 : decode cX7_openZones 9 = .ok (.bipush 15, 2) := by decide +kernel
theorem dX7_openZones_11 : decode cX7_openZones 11 = .ok (.iaload, 1) := by decide +kernel
theorem dX7_openZones_12 : decode cX7_openZones 12 = .ok (.if_icmp .ge 25, 3) := by decide +kernel
theorem dX7_openZones_15 : decode cX7_openZones 15 = .ok (.iload_n 1, 1) := by decide +kernel
theorem dX7_openZones_16 : decode cX7_openZones 16 = .ok (.aload_n 0, 1) := by decide +kernel
theorem dX7_openZones_17 : decode cX7_openZones 17 = .ok (.iload_n 2, 1) := by decide +kernel
theorem dX7_openZones_18 : decode cX7_openZones 18 = .ok (.invokevirtual 137, 3) := by decide +kernel
theorem dX7_openZones_21 : decode cX7_openZones 21 = .ok (.ifCond .eq 7, 3) := by decide +kernel
theorem dX7_openZones_24 : decode cX7_openZones 24 = .ok (.iconst 1, 1) := by decide +kernel
theorem dX7_openZones_25 : decode cX7_openZones 25 = .ok (.goto 4, 3) := by decide +kernel
theorem dX7_openZones_28 : decode cX7_openZones 28 = .ok (.iconst 0, 1) := by decide +kernel
theorem dX7_openZones_29 : decode cX7_openZones 29 = .ok (.iadd, 1) := by decide +kernel
theorem dX7_openZones_30 : decode cX7_openZones 30 = .ok (.istore_n 1, 1) := by decide +kernel
theorem dX7_openZones_31 : decode cX7_openZones 31 = .ok (.iinc 2 1, 3) := by decide +kernel
theorem dX7_openZones_34 : decode cX7_openZones 34 = .ok (.goto (-30), 3) := by decide +kernel
theorem dX7_openZones_37 : decode cX7_openZones 37 = .ok (.iload_n 1, 1) := by decide +kernel
theorem dX7_openZones_38 : decode cX7_openZones 38 = .ok (.ireturn, 1) := by decide +kernel
theorem dX7_open_0 : decode cX7_open 0 = .ok (.aload_n 0, 1) := by decide +kernel
theorem dX7_open_1 : decode cX7_open 1 = .ok (.iload_n 1, 1) := by decide +kernel
theorem dX7_open_2 : decode cX7_open 2 = .ok (.invokevirtual 140, 3) := by decide +kernel
theorem dX7_open_5 : decode cX7_open 5 = .ok (.ifCond .eq 13, 3) := by decide +kernel
theorem dX7_open_8 : decode cX7_open 8 = .ok (.iload_n 2, 1) := by decide +kernel
theorem dX7_open_9 : decode cX7_open 9 = .ok (.i2l, 1) := by decide +kernel
theorem dX7_open_10 : decode cX7_open 10 = .ok (.lconst 0, 1) := by decide +kernel
theorem dX7_open_11 : decode cX7_open 11 = .ok (.lconst 1, 1) := by decide +kernel
theorem dX7_open_12 : decode cX7_open 12 = .ok (.invokestatic 30, 3) := by decide +kernel
theorem dX7_open_15 : decode cX7_open 15 = .ok (.ifCond .ne 6, 3) := by decide +kernel
theorem dX7_open_18 : decode cX7_open 18 = .ok (.ldc 62, 2) := by decide +kernel
theorem dX7_open_20 : decode cX7_open 20 = .ok (.ireturn, 1) := by decide +kernel
theorem dX7_open_21 : decode cX7_open 21 = .ok (.aload_n 0, 1) := by decide +kernel
theorem dX7_open_22 : decode cX7_open 22 = .ok (.iload_n 1, 1) := by decide +kernel
theorem dX7_open_23 : decode cX7_open 23 = .ok (.invokevirtual 137, 3) := by decide +kernel
theorem dX7_open_26 : decode cX7_open 26 = .ok (.iload_n 2, 1) := by decide +kernel
theorem dX7_open_27 : decode cX7_open 27 = .ok (.iconst 1, 1) := by decide +kernel
theorem dX7_open_28 : decode cX7_open 28 = .ok (.if_icmp .ne 7, 3) := by decide +kernel
theorem dX7_open_31 : decode cX7_open 31 = .ok (.iconst 1, 1) := by decide +kernel
theorem dX7_open_32 : decode cX7_open 32 = .ok (.goto 4, 3) := by decide +kernel
theorem dX7_open_35 : decode cX7_open 35 = .ok (.iconst 0, 1) := by decide +kernel
theorem dX7_open_36 : decode cX7_open 36 = .ok (.if_icmp .ne 6, 3) := by decide +kernel
theorem dX7_open_39 : decode cX7_open 39 = .ok (.ldc 123, 2) := by decide +kernel
theorem dX7_open_41 : decode cX7_open 41 = .ok (.ireturn, 1) := by decide +kernel
theorem dX7_open_42 : decode cX7_open 42 = .ok (.aload_n 0, 1) := by decide +kernel
theorem dX7_open_43 : decode cX7_open 43 = .ok (.invokevirtual 63, 3) := by decide +kernel
theorem dX7_open_46 : decode cX7_open 46 = .ok (.aload_n 0, 1) := by decide +kernel
theorem dX7_open_47 : decode cX7_open 47 = .ok (.getfield 7, 3) := by decide +kernel
theorem dX7_open_50 : decode cX7_open 50 = .ok (.bipush 87, 2) := by decide +kernel
theorem dX7_open_52 : decode cX7_open 52 = .ok (.iconst 2, 1) := by decide +kernel
theorem dX7_open_53 : decode cX7_open 53 = .ok (.iload_n 1, 1) := by decide +kernel
theorem dX7_open_54 : decode cX7_open 54 = .ok (.imul, 1) := by decide +kernel
theorem dX7_open_55 : decode cX7_open 55 = .ok (.iadd, 1) := by decide +kernel
theorem dX7_open_56 : decode cX7_open 56 = .ok (.iconst 1, 1) := by decide +kernel
theorem dX7_open_57 : decode cX7_open 57 = .ok (.iadd, 1) := by decide +kernel
theorem dX7_open_58 : decode cX7_open 58 = .ok (.iload_n 2, 1) := by decide +kernel
theorem dX7_open_59 : decode cX7_open 59 = .ok (.iastore, 1) := by decide +kernel
theorem dX7_open_60 : decode cX7_open 60 = .ok (.aload_n 0, 1) := by decide +kernel
theorem dX7_open_61 : decode cX7_open 61 = .ok (.invokevirtual 143, 3) := by decide +kernel
theorem dX7_open_64 : decode cX7_open 64 = .ok (.ireturn, 1) := by decide +kernel
theorem dX7_leak_0 : decode cX7_leak 0 = .ok (.iload_n 1, 1) := by decide +kernel
theorem dX7_leak_1 : decode cX7_leak 1 = .ok (.i2l, 1) := by decide +kernel
theorem dX7_leak_2 : decode cX7_leak 2 = .ok (.lconst 0, 1) := by decide +kernel
theorem dX7_leak_3 : decode cX7_leak 3 = .ok (.ldc2_w 40, 3) := by decide +kernel
theorem dX7_leak_6 : decode cX7_leak 6 = .ok (.invokestatic 30, 3) := by decide +kernel
theorem dX7_leak_9 : decode cX7_leak 9 = .ok (.ifCond .ne 6, 3) := by decide +kernel
theorem dX7_leak_12 : decode cX7_leak 12 = .ok (.ldc 62, 2) := by decide +kernel
theorem dX7_leak_14 : decode cX7_leak 14 = .ok (.ireturn, 1) := by decide +kernel
theorem dX7_leak_15 : decode cX7_leak 15 = .ok (.aload_n 0, 1) := by decide +kernel
theorem dX7_leak_16 : decode cX7_leak 16 = .ok (.invokevirtual 63, 3) := by decide +kernel
theorem dX7_leak_19 : decode cX7_leak 19 = .ok (.aload_n 0, 1) := by decide +kernel
theorem dX7_leak_20 : decode cX7_leak 20 = .ok (.getfield 7, 3) := by decide +kernel
theorem dX7_leak_23 : decode cX7_leak 23 = .ok (.bipush 17, 2) := by decide +kernel
theorem dX7_leak_25 : decode cX7_leak 25 = .ok (.iaload, 1) := by decide +kernel
theorem dX7_leak_26 : decode cX7_leak 26 = .ok (.istore_n 2, 1) := by decide +kernel
theorem dX7_leak_27 : decode cX7_leak 27 = .ok (.aload_n 0, 1) := by decide +kernel
theorem dX7_leak_28 : decode cX7_leak 28 = .ok (.getfield 7, 3) := by decide +kernel
theorem dX7_leak_31 : decode cX7_leak 31 = .ok (.bipush 17, 2) := by decide +kernel
theorem dX7_leak_33 : decode cX7_leak 33 = .ok (.iload_n 1, 1) := by decide +kernel
theorem dX7_leak_34 : decode cX7_leak 34 = .ok (.iastore, 1) := by decide +kernel
theorem dX7_leak_35 : decode cX7_leak 35 = .ok (.iload_n 2, 1) := by decide +kernel
theorem dX7_leak_36 : decode cX7_leak 36 = .ok (.ireturn, 1) := by decide +kernel
theorem dX7_programme_0 : decode cX7_programme 0 = .ok (.aload_n 0, 1) := by decide +kernel
theorem dX7_programme_1 : decode cX7_programme 1 = .ok (.iload_n 1, 1) := by decide +kernel
theorem dX7_programme_2 : decode cX7_programme 2 = .ok (.invokevirtual 140, 3) := by decide +kernel
theorem dX7_programme_5 : decode cX7_programme 5 = .ok (.ifCond .eq 32, 3) := by decide +kernel
theorem dX7_programme_8 : decode cX7_programme 8 = .ok (.iload_n 2, 1) := by decide +kernel
theorem dX7_programme_9 : decode cX7_programme 9 = .ok (.i2l, 1) := by decide +kernel
theorem dX7_programme_10 : decode cX7_programme 10 = .ok (.lconst 0, 1) := by decide +kernel
theorem dX7_programme_11 : decode cX7_programme 11 = .ok (.ldc2_w 46, 3) := by decide +kernel
theorem dX7_programme_14 : decode cX7_programme 14 = .ok (.invokestatic 30, 3) := by decide +kernel
theorem dX7_programme_17 : decode cX7_programme 17 = .ok (.ifCond .eq 20, 3) := by decide +kernel
theorem dX7_programme_20 : decode cX7_programme 20 = .ok (.iload_n 3, 1) := by decide +kernel
theorem dX7_programme_21 : decode cX7_programme 21 = .ok (.i2l, 1) := by decide +kernel
theorem dX7_programme_22 : decode cX7_programme 22 = .ok (.lconst 0, 1) := by decide +kernel
theorem dX7_programme_23 : decode cX7_programme 23 = .ok (.ldc2_w 46, 3) := by decide +kernel
theorem dX7_programme_26 : decode cX7_programme 26 = .ok (.invokestatic 30, 3) := by decide +kernel
theorem dX7_programme_29 : decode cX7_programme 29 = .ok (.ifCond .eq 8, 3) := by decide +kernel
theorem dX7_programme_32 : decode cX7_programme 32 = .ok (.iload_n 2, 1) := by decide +kernel
theorem dX7_programme_33 : decode cX7_programme 33 = .ok (.iload_n 3, 1) := by decide +kernel
theorem dX7_programme_34 : decode cX7_programme 34 = .ok (.if_icmp .ne 6, 3) := by decide +kernel
theorem dX7_programme_37 : decode cX7_programme 37 = .ok (.ldc 62, 2) := by decide +kernel
theorem dX7_programme_39 : decode cX7_programme 39 = .ok (.ireturn, 1) := by decide +kernel
theorem dX7_programme_40 : decode cX7_programme 40 = .ok (.aload_n 0, 1) := by decide +kernel
theorem dX7_programme_41 : decode cX7_programme 41 = .ok (.getfield 7, 3) := by decide +kernel
theorem dX7_programme_44 : decode cX7_programme 44 = .ok (.bipush 16, 2) := by decide +kernel
theorem dX7_programme_46 : decode cX7_programme 46 = .ok (.iaload, 1) := by decide +kernel
theorem dX7_programme_47 : decode cX7_programme 47 = .ok (.bipush 8, 2) := by decide +kernel
theorem dX7_programme_49 : decode cX7_programme 49 = .ok (.if_icmp .ne 6, 3) := by decide +kernel
theorem dX7_programme_52 : decode cX7_programme 52 = .ok (.ldc 73, 2) := by decide +kernel
theorem dX7_programme_54 : decode cX7_programme 54 = .ok (.ireturn, 1) := by decide +kernel
theorem dX7_programme_55 : decode cX7_programme 55 = .ok (.aload_n 0, 1) := by decide +kernel
theorem dX7_programme_56 : decode cX7_programme 56 = .ok (.invokevirtual 63, 3) := by decide +kernel
theorem dX7_programme_59 : decode cX7_programme 59 = .ok (.bipush 103, 2) := by decide +kernel
theorem dX7_programme_61 : decode cX7_programme 61 = .ok (.iconst 3, 1) := by decide +kernel
theorem dX7_programme_62 : decode cX7_programme 62 = .ok (.aload_n 0, 1) := by decide +kernel
theorem dX7_programme_63 : decode cX7_programme 63 = .ok (.getfield 7, 3) := by decide +kernel
theorem dX7_programme_66 : decode cX7_programme 66 = .ok (.bipush 16, 2) := by decide +kernel
theorem dX7_programme_68 : decode cX7_programme 68 = .ok (.iaload, 1) := by decide +kernel
theorem dX7_programme_69 : decode cX7_programme 69 = .ok (.imul, 1) := by decide +kernel
theorem dX7_programme_70 : decode cX7_programme 70 = .ok (.iadd, 1) := by decide +kernel
theorem dX7_programme_71 : decode cX7_programme 71 = .ok (.istore 4, 2) := by decide +kernel
theorem dX7_programme_73 : decode cX7_programme 73 = .ok (.aload_n 0, 1) := by decide +kernel
theorem dX7_programme_74 : decode cX7_programme 74 = .ok (.getfield 7, 3) := by decide +kernel
theorem dX7_programme_77 : decode cX7_programme 77 = .ok (.iload 4, 2) := by decide +kernel
theorem dX7_programme_79 : decode cX7_programme 79 = .ok (.iload_n 1, 1) := by decide +kernel
theorem dX7_programme_80 : decode cX7_programme 80 = .ok (.iastore, 1) := by decide +kernel
theorem dX7_programme_81 : decode cX7_programme 81 = .ok (.aload_n 0, 1) := by decide +kernel
theorem dX7_programme_82 : decode cX7_programme 82 = .ok (.getfield 7, 3) := by decide +kernel
theorem dX7_programme_85 : decode cX7_programme 85 = .ok (.iload 4, 2) := by decide +kernel
theorem dX7_programme_87 : decode cX7_programme 87 = .ok (.iconst 1, 1) := by decide +kernel
theorem dX7_programme_88 : decode cX7_programme 88 = .ok (.iadd, 1) := by decide +kernel
theorem dX7_programme_89 : decode cX7_programme 89 = .ok (.iload_n 2, 1) := by decide +kernel
theorem dX7_programme_90 : decode cX7_programme 90 = .ok (.iastore, 1) := by decide +kernel
theorem dX7_programme_91 : decode cX7_programme 91 = .ok (.aload_n 0, 1) := by decide +kernel
theorem dX7_programme_92 : decode cX7_programme 92 = .ok (.getfield 7, 3) := by decide +kernel
theorem dX7_programme_95 : decode cX7_programme 95 = .ok (.iload 4, 2) := by decide +kernel
theorem dX7_programme_97 : decode cX7_programme 97 = .ok (.iconst 2, 1) := by decide +kernel
theorem dX7_programme_98 : decode cX7_programme 98 = .ok (.iadd, 1) := by decide +kernel
theorem dX7_programme_99 : decode cX7_programme 99 = .ok (.iload_n 3, 1) := by decide +kernel
theorem dX7_programme_100 : decode cX7_programme 100 = .ok (.iastore, 1) := by decide +kernel
theorem dX7_programme_101 : decode cX7_programme 101 = .ok (.aload_n 0, 1) := by decide +kernel
theorem dX7_programme_102 : decode cX7_programme 102 = .ok (.getfield 7, 3) := by decide +kernel
theorem dX7_programme_105 : decode cX7_programme 105 = .ok (.bipush 16, 2) := by decide +kernel
theorem dX7_programme_107 : decode cX7_programme 107 = .ok (.dup2, 1) := by decide +kernel
theorem dX7_programme_108 : decode cX7_programme 108 = .ok (.iaload, 1) := by decide +kernel
theorem dX7_programme_109 : decode cX7_programme 109 = .ok (.iconst 1, 1) := by decide +kernel
theorem dX7_programme_110 : decode cX7_programme 110 = .ok (.iadd, 1) := by decide +kernel
theorem dX7_programme_111 : decode cX7_programme 111 = .ok (.iastore, 1) := by decide +kernel
theorem dX7_programme_112 : decode cX7_programme 112 = .ok (.aload_n 0, 1) := by decide +kernel
theorem dX7_programme_113 : decode cX7_programme 113 = .ok (.getfield 7, 3) := by decide +kernel
theorem dX7_programme_116 : decode cX7_programme 116 = .ok (.bipush 16, 2) := by decide +kernel
theorem dX7_programme_118 : decode cX7_programme 118 = .ok (.iaload, 1) := by decide +kernel
theorem dX7_programme_119 : decode cX7_programme 119 = .ok (.ireturn, 1) := by decide +kernel
theorem dX7_takes_0 : decode cX7_takes 0 = .ok (.aload_n 0, 1) := by decide +kernel
theorem dX7_takes_1 : decode cX7_takes 1 = .ok (.iload_n 1, 1) := by decide +kernel
theorem dX7_takes_2 : decode cX7_takes 2 = .ok (.invokevirtual 137, 3) := by decide +kernel
theorem dX7_takes_5 : decode cX7_takes 5 = .ok (.ifCond .eq 28, 3) := by decide +kernel
theorem dX7_takes_8 : decode cX7_takes 8 = .ok (.aload_n 0, 1) := by decide +kernel
theorem dX7_takes_9 : decode cX7_takes 9 = .ok (.getfield 7, 3) := by decide +kernel
theorem dX7_takes_12 : decode cX7_takes 12 = .ok (.bipush 87, 2) := by decide +kernel
theorem dX7_takes_14 : decode cX7_takes 14 = .ok (.iconst 2, 1) := by decide +kernel
theorem dX7_takes_15 : decode cX7_takes 15 = .ok (.iload_n 1, 1) := by decide +kernel
theorem dX7_takes_16 : decode cX7_takes 16 = .ok (.imul, 1) := by decide +kernel
theorem dX7_takes_17 : decode cX7_takes 17 = .ok (.iadd, 1) := by decide +kernel
theorem dX7_takes_18 : decode cX7_takes 18 = .ok (.iaload, 1) := by decide +kernel
theorem dX7_takes_19 : decode cX7_takes 19 = .ok (.aload_n 0, 1) := by decide +kernel
theorem dX7_takes_20 : decode cX7_takes 20 = .ok (.getfield 7, 3) := by decide +kernel
theorem dX7_takes_23 : decode cX7_takes 23 = .ok (.iconst 1, 1) := by decide +kernel
theorem dX7_takes_24 : decode cX7_takes 24 = .ok (.iaload, 1) := by decide +kernel
theorem dX7_takes_25 : decode cX7_takes 25 = .ok (.imul, 1) := by decide +kernel
theorem dX7_takes_26 : decode cX7_takes 26 = .ok (.sipush 400, 3) := by decide +kernel
theorem dX7_takes_29 : decode cX7_takes 29 = .ok (.idiv, 1) := by decide +kernel
theorem dX7_takes_30 : decode cX7_takes 30 = .ok (.goto 4, 3) := by decide +kernel
theorem dX7_takes_33 : decode cX7_takes 33 = .ok (.iconst 0, 1) := by decide +kernel
theorem dX7_takes_34 : decode cX7_takes 34 = .ok (.ireturn, 1) := by decide +kernel
theorem dX7_zoneOf_0 : decode cX7_zoneOf 0 = .ok (.aload_n 0, 1) := by decide +kernel
theorem dX7_zoneOf_1 : decode cX7_zoneOf 1 = .ok (.iload_n 1, 1) := by decide +kernel
theorem dX7_zoneOf_2 : decode cX7_zoneOf 2 = .ok (.invokevirtual 140, 3) := by decide +kernel
theorem dX7_zoneOf_5 : decode cX7_zoneOf 5 = .ok (.ifCond .eq 15, 3) := by decide +kernel
theorem dX7_zoneOf_8 : decode cX7_zoneOf 8 = .ok (.iload_n 2, 1) := by decide +kernel
theorem dX7_zoneOf_9 : decode cX7_zoneOf 9 = .ok (.i2l, 1) := by decide +kernel
theorem dX7_zoneOf_10 : decode cX7_zoneOf 10 = .ok (.lconst 0, 1) := by decide +kernel
theorem dX7_zoneOf_11 : decode cX7_zoneOf 11 = .ok (.ldc2_w 146, 3) := by decide +kernel
theorem dX7_zoneOf_14 : decode cX7_zoneOf 14 = .ok (.invokestatic 30, 3) := by decide +kernel
theorem dX7_zoneOf_17 : decode cX7_zoneOf 17 = .ok (.ifCond .ne 6, 3) := by decide +kernel
theorem dX7_zoneOf_20 : decode cX7_zoneOf 20 = .ok (.ldc 62, 2) := by decide +kernel
theorem dX7_zoneOf_22 : decode cX7_zoneOf 22 = .ok (.ireturn, 1) := by decide +kernel
theorem dX7_zoneOf_23 : decode cX7_zoneOf 23 = .ok (.iconst 0, 1) := by decide +kernel
theorem dX7_zoneOf_24 : decode cX7_zoneOf 24 = .ok (.istore_n 3, 1) := by decide +kernel
theorem dX7_zoneOf_25 : decode cX7_zoneOf 25 = .ok (.iconst 0, 1) := by decide +kernel
theorem dX7_zoneOf_26 : decode cX7_zoneOf 26 = .ok (.istore 4, 2) := by decide +kernel
theorem dX7_zoneOf_28 : decode cX7_zoneOf 28 = .ok (.iload 4, 2) := by decide +kernel
theorem dX7_zoneOf_30 : decode cX7_zoneOf 30 = .ok (.aload_n 0, 1) := by decide +kernel
theorem dX7_zoneOf_31 : decode cX7_zoneOf 31 = .ok (.getfield 7, 3) := by decide +kernel
theorem dX7_zoneOf_34 : decode cX7_zoneOf 34 = .ok (.bipush 16, 2) := by decide +kernel
theorem dX7_zoneOf_36 : decode cX7_zoneOf 36 = .ok (.iaload, 1) := by decide +kernel
theorem dX7_zoneOf_37 : decode cX7_zoneOf 37 = .ok (.if_icmp .ge 33, 3) := by decide +kernel
theorem dX7_zoneOf_40 : decode cX7_zoneOf 40 = .ok (.iload_n 3, 1) := by decide +kernel
theorem dX7_zoneOf_41 : decode cX7_zoneOf 41 = .ok (.aload_n 0, 1) := by decide +kernel
theorem dX7_zoneOf_42 : decode cX7_zoneOf 42 = .ok (.getfield 7, 3) := by decide +kernel
theorem dX7_zoneOf_45 : decode cX7_zoneOf 45 = .ok (.bipush 103, 2) := by decide +kernel
theorem dX7_zoneOf_47 : decode cX7_zoneOf 47 = .ok (.iconst 3, 1) := by decide +kernel
theorem dX7_zoneOf_48 : decode cX7_zoneOf 48 = .ok (.iload 4, 2) := by decide +kernel
theorem dX7_zoneOf_50 : decode cX7_zoneOf 50 = .ok (.imul, 1) := by decide +kernel
theorem dX7_zoneOf_51 : decode cX7_zoneOf 51 = .ok (.iadd, 1) := by decide +kernel
theorem dX7_zoneOf_52 : decode cX7_zoneOf 52 = .ok (.iaload, 1) := by decide +kernel
theorem dX7_zoneOf_53 : decode cX7_zoneOf 53 = .ok (.iload_n 1, 1) := by decide +kernel
theorem dX7_zoneOf_54 : decode cX7_zoneOf 54 = .ok (.if_icmp .ne 7, 3) := by decide +kernel
theorem dX7_zoneOf_57 : decode cX7_zoneOf 57 = .ok (.iconst 1, 1) := by decide +kernel
theorem dX7_zoneOf_58 : decode cX7_zoneOf 58 = .ok (.goto 4, 3) := by decide +kernel
theorem dX7_zoneOf_61 : decode cX7_zoneOf 61 = .ok (.iconst 0, 1) := by decide +kernel
theorem dX7_zoneOf_62 : decode cX7_zoneOf 62 = .ok (.iadd, 1) := by decide +kernel
theorem dX7_zoneOf_63 : decode cX7_zoneOf 63 = .ok (.istore_n 3, 1) := by decide +kernel
theorem dX7_zoneOf_64 : decode cX7_zoneOf 64 = .ok (.iinc 4 1, 3) := by decide +kernel
theorem dX7_zoneOf_67 : decode cX7_zoneOf 67 = .ok (.goto (-39), 3) := by decide +kernel
theorem dX7_zoneOf_70 : decode cX7_zoneOf 70 = .ok (.iload_n 2, 1) := by decide +kernel
theorem dX7_zoneOf_71 : decode cX7_zoneOf 71 = .ok (.iconst 2, 1) := by decide +kernel
theorem dX7_zoneOf_72 : decode cX7_zoneOf 72 = .ok (.if_icmp .ge 19, 3) := by decide +kernel
theorem dX7_zoneOf_75 : decode cX7_zoneOf 75 = .ok (.aload_n 0, 1) := by decide +kernel
theorem dX7_zoneOf_76 : decode cX7_zoneOf 76 = .ok (.getfield 7, 3) := by decide +kernel
theorem dX7_zoneOf_79 : decode cX7_zoneOf 79 = .ok (.bipush 87, 2) := by decide +kernel
theorem dX7_zoneOf_81 : decode cX7_zoneOf 81 = .ok (.iconst 2, 1) := by decide +kernel
theorem dX7_zoneOf_82 : decode cX7_zoneOf 82 = .ok (.iload_n 1, 1) := by decide +kernel
theorem dX7_zoneOf_83 : decode cX7_zoneOf 83 = .ok (.imul, 1) := by decide +kernel
theorem dX7_zoneOf_84 : decode cX7_zoneOf 84 = .ok (.iadd, 1) := by decide +kernel
theorem dX7_zoneOf_85 : decode cX7_zoneOf 85 = .ok (.iload_n 2, 1) := by decide +kernel
theorem dX7_zoneOf_86 : decode cX7_zoneOf 86 = .ok (.iadd, 1) := by decide +kernel
theorem dX7_zoneOf_87 : decode cX7_zoneOf 87 = .ok (.iaload, 1) := by decide +kernel
theorem dX7_zoneOf_88 : decode cX7_zoneOf 88 = .ok (.goto 17, 3) := by decide +kernel
theorem dX7_zoneOf_91 : decode cX7_zoneOf 91 = .ok (.iload_n 2, 1) := by decide +kernel
theorem dX7_zoneOf_92 : decode cX7_zoneOf 92 = .ok (.iconst 2, 1) := by decide +kernel
theorem dX7_zoneOf_93 : decode cX7_zoneOf 93 = .ok (.if_icmp .ne 11, 3) := by decide +kernel
theorem dX7_zoneOf_96 : decode cX7_zoneOf 96 = .ok (.aload_n 0, 1) := by decide +kernel
theorem dX7_zoneOf_97 : decode cX7_zoneOf 97 = .ok (.iload_n 1, 1) := by decide +kernel
theorem dX7_zoneOf_98 : decode cX7_zoneOf 98 = .ok (.invokevirtual 148, 3) := by decide +kernel
theorem dX7_zoneOf_101 : decode cX7_zoneOf 101 = .ok (.goto 4, 3) := by decide +kernel
theorem dX7_zoneOf_104 : decode cX7_zoneOf 104 = .ok (.iload_n 3, 1) := by decide +kernel
theorem dX7_zoneOf_105 : decode cX7_zoneOf 105 = .ok (.ireturn, 1) := by decide +kernel
theorem dX7_fill_0 : decode cX7_fill 0 = .ok (.iload_n 1, 1) := by decide +kernel
theorem dX7_fill_1 : decode cX7_fill 1 = .ok (.i2l, 1) := by decide +kernel
theorem dX7_fill_2 : decode cX7_fill 2 = .ok (.lconst 0, 1) := by decide +kernel
theorem dX7_fill_3 : decode cX7_fill 3 = .ok (.ldc2_w 151, 3) := by decide +kernel
theorem dX7_fill_6 : decode cX7_fill 6 = .ok (.invokestatic 30, 3) := by decide +kernel
theorem dX7_fill_9 : decode cX7_fill 9 = .ok (.ifCond .ne 6, 3) := by decide +kernel
theorem dX7_fill_12 : decode cX7_fill 12 = .ok (.ldc 62, 2) := by decide +kernel
theorem dX7_fill_14 : decode cX7_fill 14 = .ok (.ireturn, 1) := by decide +kernel
theorem dX7_fill_15 : decode cX7_fill 15 = .ok (.aload_n 0, 1) := by decide +kernel
theorem dX7_fill_16 : decode cX7_fill 16 = .ok (.invokevirtual 63, 3) := by decide +kernel
theorem dX7_fill_19 : decode cX7_fill 19 = .ok (.aload_n 0, 1) := by decide +kernel
theorem dX7_fill_20 : decode cX7_fill 20 = .ok (.getfield 7, 3) := by decide +kernel
theorem dX7_fill_23 : decode cX7_fill 23 = .ok (.iconst 2, 1) := by decide +kernel
theorem dX7_fill_24 : decode cX7_fill 24 = .ok (.iaload, 1) := by decide +kernel
theorem dX7_fill_25 : decode cX7_fill 25 = .ok (.istore_n 2, 1) := by decide +kernel
theorem dX7_fill_26 : decode cX7_fill 26 = .ok (.aload_n 0, 1) := by decide +kernel
theorem dX7_fill_27 : decode cX7_fill 27 = .ok (.getfield 7, 3) := by decide +kernel
theorem dX7_fill_30 : decode cX7_fill 30 = .ok (.iconst 2, 1) := by decide +kernel
theorem dX7_fill_31 : decode cX7_fill 31 = .ok (.iload_n 1, 1) := by decide +kernel
theorem dX7_fill_32 : decode cX7_fill 32 = .ok (.iastore, 1) := by decide +kernel
theorem dX7_fill_33 : decode cX7_fill 33 = .ok (.iload_n 2, 1) := by decide +kernel
theorem dX7_fill_34 : decode cX7_fill 34 = .ok (.ireturn, 1) := by decide +kernel
theorem dX7_resets_0 : decode cX7_resets 0 = .ok (.aload_n 0, 1) := by decide +kernel
theorem dX7_resets_1 : decode cX7_resets 1 = .ok (.getfield 7, 3) := by decide +kernel
theorem dX7_resets_4 : decode cX7_resets 4 = .ok (.bipush 6, 2) := by decide +kernel
theorem dX7_resets_6 : decode cX7_resets 6 = .ok (.iaload, 1) := by decide +kernel
theorem dX7_resets_7 : decode cX7_resets 7 = .ok (.istore_n 1, 1) := by decide +kernel
theorem dX7_resets_8 : decode cX7_resets 8 = .ok (.aload_n 0, 1) := by decide +kernel
theorem dX7_resets_9 : decode cX7_resets 9 = .ok (.getfield 7, 3) := by decide +kernel
theorem dX7_resets_12 : decode cX7_resets 12 = .ok (.bipush 6, 2) := by decide +kernel
theorem dX7_resets_14 : decode cX7_resets 14 = .ok (.iconst 0, 1) := by decide +kernel
theorem dX7_resets_15 : decode cX7_resets 15 = .ok (.iastore, 1) := by decide +kernel
theorem dX7_resets_16 : decode cX7_resets 16 = .ok (.aload_n 0, 1) := by decide +kernel
theorem dX7_resets_17 : decode cX7_resets 17 = .ok (.getfield 7, 3) := by decide +kernel
theorem dX7_resets_20 : decode cX7_resets 20 = .ok (.iconst 5, 1) := by decide +kernel
theorem dX7_resets_21 : decode cX7_resets 21 = .ok (.iaload, 1) := by decide +kernel
theorem dX7_resets_22 : decode cX7_resets 22 = .ok (.iconst 1, 1) := by decide +kernel
theorem dX7_resets_23 : decode cX7_resets 23 = .ok (.if_icmp .ne 31, 3) := by decide +kernel
theorem dX7_resets_26 : decode cX7_resets 26 = .ok (.aload_n 0, 1) := by decide +kernel
theorem dX7_resets_27 : decode cX7_resets 27 = .ok (.getfield 7, 3) := by decide +kernel
theorem dX7_resets_30 : decode cX7_resets 30 = .ok (.iconst 2, 1) := by decide +kernel
theorem dX7_resets_31 : decode cX7_resets 31 = .ok (.iaload, 1) := by decide +kernel
theorem dX7_resets_32 : decode cX7_resets 32 = .ok (.aload_n 0, 1) := by decide +kernel
theorem dX7_resets_33 : decode cX7_resets 33 = .ok (.bipush 12, 2) := by decide +kernel
theorem dX7_resets_35 : decode cX7_resets 35 = .ok (.invokevirtual 66, 3) := by decide +kernel
theorem dX7_resets_38 : decode cX7_resets 38 = .ok (.if_icmp .lt 16, 3) := by decide +kernel
theorem dX7_resets_41 : decode cX7_resets 41 = .ok (.aload_n 0, 1) := by decide +kernel
theorem dX7_resets_42 : decode cX7_resets 42 = .ok (.getfield 7, 3) := by decide +kernel
theorem dX7_resets_45 : decode cX7_resets 45 = .ok (.iconst 5, 1) := by decide +kernel
theorem dX7_resets_46 : decode cX7_resets 46 = .ok (.iconst 0, 1) := by decide +kernel
theorem dX7_resets_47 : decode cX7_resets 47 = .ok (.iastore, 1) := by decide +kernel
theorem dX7_resets_48 : decode cX7_resets 48 = .ok (.aload_n 0, 1) := by decide +kernel
theorem dX7_resets_49 : decode cX7_resets 49 = .ok (.iconst 5, 1) := by decide +kernel
theorem dX7_resets_50 : decode cX7_resets 50 = .ok (.iconst (-1), 1) := by decide +kernel
theorem dX7_resets_51 : decode cX7_resets 51 = .ok (.invokevirtual 105, 3) := by decide +kernel
theorem dX7_resets_54 : decode cX7_resets 54 = .ok (.iload_n 1, 1) := by decide +kernel
theorem dX7_resets_55 : decode cX7_resets 55 = .ok (.ireturn, 1) := by decide +kernel
theorem dX7_reset_0 : decode cX7_reset 0 = .ok (.aload_n 0, 1) := by decide +kernel
theorem dX7_reset_1 : decode cX7_reset 1 = .ok (.getfield 7, 3) := by decide +kernel
theorem dX7_reset_4 : decode cX7_reset 4 = .ok (.bipush 6, 2) := by decide +kernel
theorem dX7_reset_6 : decode cX7_reset 6 = .ok (.iaload, 1) := by decide +kernel
theorem dX7_reset_7 : decode cX7_reset 7 = .ok (.ifCond .ne 6, 3) := by decide +kernel
theorem dX7_reset_10 : decode cX7_reset 10 = .ok (.ldc 123, 2) := by decide +kernel
theorem dX7_reset_12 : decode cX7_reset 12 = .ok (.ireturn, 1) := by decide +kernel
theorem dX7_reset_13 : decode cX7_reset 13 = .ok (.aload_n 0, 1) := by decide +kernel
theorem dX7_reset_14 : decode cX7_reset 14 = .ok (.invokevirtual 63, 3) := by decide +kernel
theorem dX7_reset_17 : decode cX7_reset 17 = .ok (.aload_n 0, 1) := by decide +kernel
theorem dX7_reset_18 : decode cX7_reset 18 = .ok (.invokevirtual 153, 3) := by decide +kernel
theorem dX7_reset_21 : decode cX7_reset 21 = .ok (.ireturn, 1) := by decide +kernel
theorem dX7_minuteOfDay_0 : decode cX7_minuteOfDay 0 = .ok (.aload_n 0, 1) := by decide +kernel
theorem dX7_minuteOfDay_1 : decode cX7_minuteOfDay 1 = .ok (.getfield 7, 3) := by decide +kernel
theorem dX7_minuteOfDay_4 : decode cX7_minuteOfDay 4 = .ok (.iconst 0, 1) := by decide +kernel
theorem dX7_minuteOfDay_5 : decode cX7_minuteOfDay 5 = .ok (.iaload, 1) := by decide +kernel
theorem dX7_minuteOfDay_6 : decode cX7_minuteOfDay 6 = .ok (.sipush 1440, 3) := by decide +kernel
theorem dX7_minuteOfDay_9 : decode cX7_minuteOfDay 9 = .ok (.irem, 1) := by decide +kernel
theorem dX7_minuteOfDay_10 : decode cX7_minuteOfDay 10 = .ok (.ireturn, 1) := by decide +kernel
theorem dX7_programmes_0 : decode cX7_programmes 0 = .ok (.aload_n 0, 1) := by decide +kernel
theorem dX7_programmes_1 : decode cX7_programmes 1 = .ok (.invokevirtual 156, 3) := by decide +kernel
theorem dX7_programmes_4 : decode cX7_programmes 4 = .ok (.istore_n 1, 1) := by decide +kernel
theorem dX7_programmes_5 : decode cX7_programmes 5 = .ok (.iconst 0, 1) := by decide +kernel
theorem dX7_programmes_6 : decode cX7_programmes 6 = .ok (.istore_n 2, 1) := by decide +kernel
theorem dX7_programmes_7 : decode cX7_programmes 7 = .ok (.iload_n 2, 1) := by decide +kernel
theorem dX7_programmes_8 : decode cX7_programmes 8 = .ok (.aload_n 0, 1) := by decide +kernel
theorem dX7_programmes_9 : decode cX7_programmes 9 = .ok (.getfield 7, 3) := by decide +kernel
theorem dX7_programmes_12 : decode cX7_programmes 12 = .ok (.bipush 16, 2) := by decide +kernel
theorem dX7_programmes_14 : decode cX7_programmes 14 = .ok (.iaload, 1) := by decide +kernel
theorem dX7_programmes_15 : decode cX7_programmes 15 = .ok (.if_icmp .ge 77, 3) := by decide +kernel
theorem dX7_programmes_18 : decode cX7_programmes 18 = .ok (.bipush 103, 2) := by decide +kernel
theorem dX7_programmes_20 : decode cX7_programmes 20 = .ok (.iconst 3, 1) := by decide +kernel
theorem dX7_programmes_21 : decode cX7_programmes 21 = .ok (.iload_n 2, 1) := by decide +kernel
theorem dX7_programmes_22 : decode cX7_programmes 22 = .ok (.imul, 1) := by decide +kernel
theorem dX7_programmes_23 : decode cX7_programmes 23 = .ok (.iadd, 1) := by decide +kernel
theorem dX7_programmes_24 : decode cX7_programmes 24 = .ok (.istore_n 3, 1) := by decide +kernel
theorem dX7_programmes_25 : decode cX7_programmes 25 = .ok (.bipush 87, 2) := by decide +kernel
theorem dX7_programmes_27 : decode cX7_programmes 27 = .ok (.iconst 2, 1) := by decide +kernel
theorem dX7_programmes_28 : decode cX7_programmes 28 = .ok (.aload_n 0, 1) := by decide +kernel
theorem dX7_programmes_29 : decode cX7_programmes 29 = .ok (.getfield 7, 3) := by decide +kernel
theorem dX7_programmes_32 : decode cX7_programmes 32 = .ok (.iload_n 3, 1) := by decide +kernel
theorem dX7_programmes_33 : decode cX7_programmes 33 = .ok (.iaload, 1) := by decide +kernel
theorem dX7_programmes_34 : decode cX7_programmes 34 = .ok (.imul, 1) := by decide +kernel
theorem dX7_programmes_35 : decode cX7_programmes 35 = .ok (.iadd, 1) := by decide +kernel
theorem dX7_programmes_36 : decode cX7_programmes 36 = .ok (.iconst 1, 1) := by decide +kernel
theorem dX7_programmes_37 : decode cX7_programmes 37 = .ok (.iadd, 1) := by decide +kernel
theorem dX7_programmes_38 : decode cX7_programmes 38 = .ok (.istore 4, 2) := by decide +kernel
theorem dX7_programmes_40 : decode cX7_programmes 40 = .ok (.aload_n 0, 1) := by decide +kernel
theorem dX7_programmes_41 : decode cX7_programmes 41 = .ok (.getfield 7, 3) := by decide +kernel
theorem dX7_programmes_44 : decode cX7_programmes 44 = .ok (.iload 4, 2) := by decide +kernel
theorem dX7_programmes_46 : decode cX7_programmes 46 = .ok (.aload_n 0, 1) := by decide +kernel
theorem dX7_programmes_47 : decode cX7_programmes 47 = .ok (.getfield 7, 3) := by decide +kernel
theorem dX7_programmes_50 : decode cX7_programmes 50 = .ok (.iload_n 3, 1) := by decide +kernel
theorem dX7_programmes_51 : decode cX7_programmes 51 = .ok (.iconst 1, 1) := by decide +kernel
theorem dX7_programmes_52 : decode cX7_programmes 52 = .ok (.iadd, 1) := by decide +kernel
theorem dX7_programmes_53 : decode cX7_programmes 53 = .ok (.iaload, 1) := by decide +kernel
theorem dX7_programmes_54 : decode cX7_programmes 54 = .ok (.iload_n 1, 1) := by decide +kernel
theorem dX7_programmes_55 : decode cX7_programmes 55 = .ok (.if_icmp .ne 7, 3) := by decide +kernel
theorem dX7_programmes_58 : decode cX7_programmes 58 = .ok (.iconst 1, 1) := by decide +kernel
theorem dX7_programmes_59 : decode cX7_programmes 59 = .ok (.goto 26, 3) := by decide +kernel
theorem dX7_programmes_62 : decode cX7_programmes 62 = .ok (.aload_n 0, 1) := by decide +kernel
theorem dX7_programmes_63 : decode cX7_programmes 63 = .ok (.getfield 7, 3) := by decide +kernel
theorem dX7_programmes_66 : decode cX7_programmes 66 = .ok (.iload_n 3, 1) := by decide +kernel
theorem dX7_programmes_67 : decode cX7_programmes 67 = .ok (.iconst 2, 1) := by decide +kernel
theorem dX7_programmes_68 : decode cX7_programmes 68 = .ok (.iadd, 1) := by decide +kernel
theorem dX7_programmes_69 : decode cX7_programmes 69 = .ok (.iaload, 1) := by decide +kernel
theorem dX7_programmes_70 : decode cX7_programmes 70 = .ok (.iload_n 1, 1) := by decide +kernel
theorem dX7_programmes_71 : decode cX7_programmes 71 = .ok (.if_icmp .ne 7, 3) := by decide +kernel
theorem dX7_programmes_74 : decode cX7_programmes 74 = .ok (.iconst 0, 1) := by decide +kernel
theorem dX7_programmes_75 : decode cX7_programmes 75 = .ok (.goto 10, 3) := by decide +kernel
theorem dX7_programmes_78 : decode cX7_programmes 78 = .ok (.aload_n 0, 1) := by decide +kernel
theorem dX7_programmes_79 : decode cX7_programmes 79 = .ok (.getfield 7, 3) := by decide +kernel
theorem dX7_programmes_82 : decode cX7_programmes 82 = .ok (.iload 4, 2) := by decide +kernel
theorem dX7_programmes_84 : decode cX7_programmes 84 = .ok (.iaload, 1) := by decide +kernel
theorem dX7_programmes_85 : decode cX7_programmes 85 = .ok (.iastore, 1) := by decide +kernel
theorem dX7_programmes_86 : decode cX7_programmes 86 = .ok (.iinc 2 1, 3) := by decide +kernel
theorem dX7_programmes_89 : decode cX7_programmes 89 = .ok (.goto (-82), 3) := by decide +kernel
theorem dX7_programmes_92 : decode cX7_programmes 92 = .ok (.return_, 1) := by decide +kernel
theorem dX7_demand_0 : decode cX7_demand 0 = .ok (.aload_n 0, 1) := by decide +kernel
theorem dX7_demand_1 : decode cX7_demand 1 = .ok (.getfield 7, 3) := by decide +kernel
theorem dX7_demand_4 : decode cX7_demand 4 = .ok (.bipush 17, 2) := by decide +kernel
theorem dX7_demand_6 : decode cX7_demand 6 = .ok (.iaload, 1) := by decide +kernel
theorem dX7_demand_7 : decode cX7_demand 7 = .ok (.aload_n 0, 1) := by decide +kernel
theorem dX7_demand_8 : decode cX7_demand 8 = .ok (.getfield 7, 3) := by decide +kernel
theorem dX7_demand_11 : decode cX7_demand 11 = .ok (.iconst 1, 1) := by decide +kernel
theorem dX7_demand_12 : decode cX7_demand 12 = .ok (.iaload, 1) := by decide +kernel
theorem dX7_demand_13 : decode cX7_demand 13 = .ok (.imul, 1) := by decide +kernel
theorem dX7_demand_14 : decode cX7_demand 14 = .ok (.sipush 1000, 3) := by decide +kernel
theorem dX7_demand_17 : decode cX7_demand 17 = .ok (.idiv, 1) := by decide +kernel
theorem dX7_demand_18 : decode cX7_demand 18 = .ok (.istore_n 1, 1) := by decide +kernel
theorem dX7_demand_19 : decode cX7_demand 19 = .ok (.iconst 0, 1) := by decide +kernel
theorem dX7_demand_20 : decode cX7_demand 20 = .ok (.istore_n 2, 1) := by decide +kernel
theorem dX7_demand_21 : decode cX7_demand 21 = .ok (.iload_n 2, 1) := by decide +kernel
theorem dX7_demand_22 : decode cX7_demand 22 = .ok (.aload_n 0, 1) := by decide +kernel
theorem dX7_demand_23 : decode cX7_demand 23 = .ok (.getfield 7, 3) := by decide +kernel
theorem dX7_demand_26 : decode cX7_demand 26 = .ok (.bipush 15, 2) := by decide +kernel
theorem dX7_demand_28 : decode cX7_demand 28 = .ok (.iaload, 1) := by decide +kernel
theorem dX7_demand_29 : decode cX7_demand 29 = .ok (.if_icmp .ge 17, 3) := by decide +kernel
theorem dX7_demand_32 : decode cX7_demand 32 = .ok (.iload_n 1, 1) := by decide +kernel
theorem dX7_demand_33 : decode cX7_demand 33 = .ok (.aload_n 0, 1) := by decide +kernel
theorem dX7_demand_34 : decode cX7_demand 34 = .ok (.iload_n 2, 1) := by decide +kernel
theorem dX7_demand_35 : decode cX7_demand 35 = .ok (.invokevirtual 148, 3) := by decide +kernel
theorem dX7_demand_38 : decode cX7_demand 38 = .ok (.iadd, 1) := by decide +kernel
theorem dX7_demand_39 : decode cX7_demand 39 = .ok (.istore_n 1, 1) := by decide +kernel
theorem dX7_demand_40 : decode cX7_demand 40 = .ok (.iinc 2 1, 3) := by decide +kernel
theorem dX7_demand_43 : decode cX7_demand 43 = .ok (.goto (-22), 3) := by decide +kernel
theorem dX7_demand_46 : decode cX7_demand 46 = .ok (.iload_n 1, 1) := by decide +kernel
theorem dX7_demand_47 : decode cX7_demand 47 = .ok (.ireturn, 1) := by decide +kernel
theorem dX7_within_0 : decode cX7_within 0 = .ok (.iload_n 0, 1) := by decide +kernel
theorem dX7_within_1 : decode cX7_within 1 = .ok (.iload_n 1, 1) := by decide +kernel
theorem dX7_within_2 : decode cX7_within 2 = .ok (.if_icmp .ge 7, 3) := by decide +kernel
theorem dX7_within_5 : decode cX7_within 5 = .ok (.iload_n 1, 1) := by decide +kernel
theorem dX7_within_6 : decode cX7_within 6 = .ok (.goto 13, 3) := by decide +kernel
theorem dX7_within_9 : decode cX7_within 9 = .ok (.iload_n 0, 1) := by decide +kernel
theorem dX7_within_10 : decode cX7_within 10 = .ok (.iload_n 2, 1) := by decide +kernel
theorem dX7_within_11 : decode cX7_within 11 = .ok (.if_icmp .le 7, 3) := by decide +kernel
theorem dX7_within_14 : decode cX7_within 14 = .ok (.iload_n 2, 1) := by decide +kernel
theorem dX7_within_15 : decode cX7_within 15 = .ok (.goto 4, 3) := by decide +kernel
theorem dX7_within_18 : decode cX7_within 18 = .ok (.iload_n 0, 1) := by decide +kernel
theorem dX7_within_19 : decode cX7_within 19 = .ok (.ireturn, 1) := by decide +kernel
theorem dX7_water_0 : decode cX7_water 0 = .ok (.iconst 0, 1) := by decide +kernel
theorem dX7_water_1 : decode cX7_water 1 = .ok (.istore_n 1, 1) := by decide +kernel
theorem dX7_water_2 : decode cX7_water 2 = .ok (.iconst 0, 1) := by decide +kernel
theorem dX7_water_3 : decode cX7_water 3 = .ok (.istore_n 2, 1) := by decide +kernel
theorem dX7_water_4 : decode cX7_water 4 = .ok (.iload_n 2, 1) := by decide +kernel
theorem dX7_water_5 : decode cX7_water 5 = .ok (.aload_n 0, 1) := by decide +kernel
theorem dX7_water_6 : decode cX7_water 6 = .ok (.getfield 7, 3) := by decide +kernel
theorem dX7_water_9 : decode cX7_water 9 = .ok (.bipush 14, 2) := by decide +kernel
theorem dX7_water_11 : decode cX7_water 11 = .ok (.iaload, 1) := by decide +kernel
theorem dX7_water_12 : decode cX7_water 12 = .ok (.if_icmp .ge 67, 3) := by decide +kernel
theorem dX7_water_15 : decode cX7_water 15 = .ok (.aload_n 0, 1) := by decide +kernel
theorem dX7_water_16 : decode cX7_water 16 = .ok (.iload_n 2, 1) := by decide +kernel
theorem dX7_water_17 : decode cX7_water 17 = .ok (.invokevirtual 82, 3) := by decide +kernel
theorem dX7_water_20 : decode cX7_water 20 = .ok (.ifCond .eq 53, 3) := by decide +kernel
theorem dX7_water_23 : decode cX7_water 23 = .ok (.iload_n 1, 1) := by decide +kernel
theorem dX7_water_24 : decode cX7_water 24 = .ok (.aload_n 0, 1) := by decide +kernel
theorem dX7_water_25 : decode cX7_water 25 = .ok (.iload_n 2, 1) := by decide +kernel
theorem dX7_water_26 : decode cX7_water 26 = .ok (.aload_n 0, 1) := by decide +kernel
theorem dX7_water_27 : decode cX7_water 27 = .ok (.iload_n 2, 1) := by decide +kernel
theorem dX7_water_28 : decode cX7_water 28 = .ok (.iconst 4, 1) := by decide +kernel
theorem dX7_water_29 : decode cX7_water 29 = .ok (.invokevirtual 78, 3) := by decide +kernel
theorem dX7_water_32 : decode cX7_water 32 = .ok (.aload_n 0, 1) := by decide +kernel
theorem dX7_water_33 : decode cX7_water 33 = .ok (.getfield 7, 3) := by decide +kernel
theorem dX7_water_36 : decode cX7_water 36 = .ok (.iconst 1, 1) := by decide +kernel
theorem dX7_water_37 : decode cX7_water 37 = .ok (.iaload, 1) := by decide +kernel
theorem dX7_water_38 : decode cX7_water 38 = .ok (.invokevirtual 129, 3) := by decide +kernel
theorem dX7_water_41 : decode cX7_water 41 = .ok (.iadd, 1) := by decide +kernel
theorem dX7_water_42 : decode cX7_water 42 = .ok (.istore_n 1, 1) := by decide +kernel
theorem dX7_water_43 : decode cX7_water 43 = .ok (.aload_n 0, 1) := by decide +kernel
theorem dX7_water_44 : decode cX7_water 44 = .ok (.iload_n 2, 1) := by decide +kernel
theorem dX7_water_45 : decode cX7_water 45 = .ok (.iconst 5, 1) := by decide +kernel
theorem dX7_water_46 : decode cX7_water 46 = .ok (.aload_n 0, 1) := by decide +kernel
theorem dX7_water_47 : decode cX7_water 47 = .ok (.iload_n 2, 1) := by decide +kernel
theorem dX7_water_48 : decode cX7_water 48 = .ok (.iconst 5, 1) := by decide +kernel
theorem dX7_water_49 : decode cX7_water 49 = .ok (.invokevirtual 78, 3) := by decide +kernel
theorem dX7_water_52 : decode cX7_water 52 = .ok (.iconst 1, 1) := by decide +kernel
theorem dX7_water_53 : decode cX7_water 53 = .ok (.iadd, 1) := by decide +kernel
theorem dX7_water_54 : decode cX7_water 54 = .ok (.invokevirtual 74, 3) := by decide +kernel
theorem dX7_water_57 : decode cX7_water 57 = .ok (.aload_n 0, 1) := by decide +kernel
theorem dX7_water_58 : decode cX7_water 58 = .ok (.iload_n 2, 1) := by decide +kernel
theorem dX7_water_59 : decode cX7_water 59 = .ok (.bipush 6, 2) := by decide +kernel
theorem dX7_water_61 : decode cX7_water 61 = .ok (.aload_n 0, 1) := by decide +kernel
theorem dX7_water_62 : decode cX7_water 62 = .ok (.iload_n 2, 1) := by decide +kernel
theorem dX7_water_63 : decode cX7_water 63 = .ok (.bipush 6, 2) := by decide +kernel
theorem dX7_water_65 : decode cX7_water 65 = .ok (.invokevirtual 78, 3) := by decide +kernel
theorem dX7_water_68 : decode cX7_water 68 = .ok (.iconst 1, 1) := by decide +kernel
theorem dX7_water_69 : decode cX7_water 69 = .ok (.iadd, 1) := by decide +kernel
theorem dX7_water_70 : decode cX7_water 70 = .ok (.invokevirtual 74, 3) := by decide +kernel
theorem dX7_water_73 : decode cX7_water 73 = .ok (.iinc 2 1, 3) := by decide +kernel
theorem dX7_water_76 : decode cX7_water 76 = .ok (.goto (-72), 3) := by decide +kernel
theorem dX7_water_79 : decode cX7_water 79 = .ok (.iload_n 1, 1) := by decide +kernel
theorem dX7_water_80 : decode cX7_water 80 = .ok (.aload_n 0, 1) := by decide +kernel
theorem dX7_water_81 : decode cX7_water 81 = .ok (.getfield 7, 3) := by decide +kernel
theorem dX7_water_84 : decode cX7_water 84 = .ok (.iconst 2, 1) := by decide +kernel
theorem dX7_water_85 : decode cX7_water 85 = .ok (.iaload, 1) := by decide +kernel
theorem dX7_water_86 : decode cX7_water 86 = .ok (.if_icmp .le 12, 3) := by decide +kernel
theorem dX7_water_89 : decode cX7_water 89 = .ok (.aload_n 0, 1) := by decide +kernel
theorem dX7_water_90 : decode cX7_water 90 = .ok (.getfield 7, 3) := by decide +kernel
theorem dX7_water_93 : decode cX7_water 93 = .ok (.iconst 2, 1) := by decide +kernel
theorem dX7_water_94 : decode cX7_water 94 = .ok (.iaload, 1) := by decide +kernel
theorem dX7_water_95 : decode cX7_water 95 = .ok (.goto 4, 3) := by decide +kernel
theorem dX7_water_98 : decode cX7_water 98 = .ok (.iload_n 1, 1) := by decide +kernel
theorem dX7_water_99 : decode cX7_water 99 = .ok (.istore_n 1, 1) := by decide +kernel
theorem dX7_water_100 : decode cX7_water 100 = .ok (.aload_n 0, 1) := by decide +kernel
theorem dX7_water_101 : decode cX7_water 101 = .ok (.getfield 7, 3) := by decide +kernel
theorem dX7_water_104 : decode cX7_water 104 = .ok (.iconst 3, 1) := by decide +kernel
theorem dX7_water_105 : decode cX7_water 105 = .ok (.iload_n 1, 1) := by decide +kernel
theorem dX7_water_106 : decode cX7_water 106 = .ok (.iastore, 1) := by decide +kernel
theorem dX7_water_107 : decode cX7_water 107 = .ok (.aload_n 0, 1) := by decide +kernel
theorem dX7_water_108 : decode cX7_water 108 = .ok (.getfield 7, 3) := by decide +kernel
theorem dX7_water_111 : decode cX7_water 111 = .ok (.bipush 13, 2) := by decide +kernel
theorem dX7_water_113 : decode cX7_water 113 = .ok (.dup2, 1) := by decide +kernel
theorem dX7_water_114 : decode cX7_water 114 = .ok (.iaload, 1) := by decide +kernel
theorem dX7_water_115 : decode cX7_water 115 = .ok (.iload_n 1, 1) := by decide +kernel
theorem dX7_water_116 : decode cX7_water 116 = .ok (.iadd, 1) := by decide +kernel
theorem dX7_water_117 : decode cX7_water 117 = .ok (.iastore, 1) := by decide +kernel
theorem dX7_water_118 : decode cX7_water 118 = .ok (.aload_n 0, 1) := by decide +kernel
theorem dX7_water_119 : decode cX7_water 119 = .ok (.getfield 7, 3) := by decide +kernel
theorem dX7_water_122 : decode cX7_water 122 = .ok (.iconst 2, 1) := by decide +kernel
theorem dX7_water_123 : decode cX7_water 123 = .ok (.aload_n 0, 1) := by decide +kernel
theorem dX7_water_124 : decode cX7_water 124 = .ok (.getfield 7, 3) := by decide +kernel
theorem dX7_water_127 : decode cX7_water 127 = .ok (.iconst 2, 1) := by decide +kernel
theorem dX7_water_128 : decode cX7_water 128 = .ok (.iaload, 1) := by decide +kernel
theorem dX7_water_129 : decode cX7_water 129 = .ok (.iload_n 1, 1) := by decide +kernel
theorem dX7_water_130 : decode cX7_water 130 = .ok (.isub, 1) := by decide +kernel
theorem dX7_water_131 : decode cX7_water 131 = .ok (.aload_n 0, 1) := by decide +kernel
theorem dX7_water_132 : decode cX7_water 132 = .ok (.bipush 14, 2) := by decide +kernel
theorem dX7_water_134 : decode cX7_water 134 = .ok (.invokevirtual 66, 3) := by decide +kernel
theorem dX7_water_137 : decode cX7_water 137 = .ok (.iadd, 1) := by decide +kernel
theorem dX7_water_138 : decode cX7_water 138 = .ok (.iconst 0, 1) := by decide +kernel
theorem dX7_water_139 : decode cX7_water 139 = .ok (.sipush 20000, 3) := by decide +kernel
theorem dX7_water_142 : decode cX7_water 142 = .ok (.invokestatic 159, 3) := by decide +kernel
theorem dX7_water_145 : decode cX7_water 145 = .ok (.iastore, 1) := by decide +kernel
theorem dX7_water_146 : decode cX7_water 146 = .ok (.aload_n 0, 1) := by decide +kernel
theorem dX7_water_147 : decode cX7_water 147 = .ok (.getfield 7, 3) := by decide +kernel
theorem dX7_water_150 : decode cX7_water 150 = .ok (.iconst 1, 1) := by decide +kernel
theorem dX7_water_151 : decode cX7_water 151 = .ok (.aload_n 0, 1) := by decide +kernel
theorem dX7_water_152 : decode cX7_water 152 = .ok (.getfield 7, 3) := by decide +kernel
theorem dX7_water_155 : decode cX7_water 155 = .ok (.iconst 1, 1) := by decide +kernel
theorem dX7_water_156 : decode cX7_water 156 = .ok (.iaload, 1) := by decide +kernel
theorem dX7_water_157 : decode cX7_water 157 = .ok (.iload_n 1, 1) := by decide +kernel
theorem dX7_water_158 : decode cX7_water 158 = .ok (.aload_n 0, 1) := by decide +kernel
theorem dX7_water_159 : decode cX7_water 159 = .ok (.invokevirtual 162, 3) := by decide +kernel
theorem dX7_water_162 : decode cX7_water 162 = .ok (.isub, 1) := by decide +kernel
theorem dX7_water_163 : decode cX7_water 163 = .ok (.aload_n 0, 1) := by decide +kernel
theorem dX7_water_164 : decode cX7_water 164 = .ok (.bipush 10, 2) := by decide +kernel
theorem dX7_water_166 : decode cX7_water 166 = .ok (.invokevirtual 66, 3) := by decide +kernel
theorem dX7_water_169 : decode cX7_water 169 = .ok (.idiv, 1) := by decide +kernel
theorem dX7_water_170 : decode cX7_water 170 = .ok (.iadd, 1) := by decide +kernel
theorem dX7_water_171 : decode cX7_water 171 = .ok (.iconst 0, 1) := by decide +kernel
theorem dX7_water_172 : decode cX7_water 172 = .ok (.sipush 2000, 3) := by decide +kernel
theorem dX7_water_175 : decode cX7_water 175 = .ok (.invokestatic 159, 3) := by decide +kernel
theorem dX7_water_178 : decode cX7_water 178 = .ok (.iastore, 1) := by decide +kernel
theorem dX7_water_179 : decode cX7_water 179 = .ok (.return_, 1) := by decide +kernel
theorem dX7_middleNight_0 : decode cX7_middleNight 0 = .ok (.aload_n 0, 1) := by decide +kernel
theorem dX7_middleNight_1 : decode cX7_middleNight 1 = .ok (.getfield 7, 3) := by decide +kernel
theorem dX7_middleNight_4 : decode cX7_middleNight 4 = .ok (.bipush 18, 2) := by decide +kernel
theorem dX7_middleNight_6 : decode cX7_middleNight 6 = .ok (.iaload, 1) := by decide +kernel
theorem dX7_middleNight_7 : decode cX7_middleNight 7 = .ok (.istore_n 1, 1) := by decide +kernel
theorem dX7_middleNight_8 : decode cX7_middleNight 8 = .ok (.iconst 0, 1) := by decide +kernel
theorem dX7_middleNight_9 : decode cX7_middleNight 9 = .ok (.istore_n 2, 1) := by decide +kernel
theorem dX7_middleNight_10 : decode cX7_middleNight 10 = .ok (.iload_n 2, 1) := by decide +kernel
theorem dX7_middleNight_11 : decode cX7_middleNight 11 = .ok (.iload_n 1, 1) := by decide +kernel
theorem dX7_middleNight_12 : decode cX7_middleNight 12 = .ok (.if_icmp .ge 122, 3) := by decide +kernel
theorem dX7_middleNight_15 : decode cX7_middleNight 15 = .ok (.iconst 0, 1) := by decide +kernel
theorem dX7_middleNight_16 : decode cX7_middleNight 16 = .ok (.istore_n 3, 1) := by decide +kernel
theorem dX7_middleNight_17 : decode cX7_middleNight 17 = .ok (.iconst 0, 1) := by decide +kernel
theorem dX7_middleNight_18 : decode cX7_middleNight 18 = .ok (.istore 4, 2) := by decide +kernel
theorem dX7_middleNight_20 : decode cX7_middleNight 20 = .ok (.iconst 0, 1) := by decide +kernel
theorem dX7_middleNight_21 : decode cX7_middleNight 21 = .ok (.istore 5, 2) := by decide +kernel
theorem dX7_middleNight_23 : decode cX7_middleNight 23 = .ok (.iload 5, 2) := by decide +kernel
theorem dX7_middleNight_25 : decode cX7_middleNight 25 = .ok (.iload_n 1, 1) := by decide +kernel
theorem dX7_middleNight_26 : decode cX7_middleNight 26 = .ok (.if_icmp .ge 71, 3) := by decide +kernel
theorem dX7_middleNight_29 : decode cX7_middleNight 29 = .ok (.iload_n 3, 1) := by decide +kernel
theorem dX7_middleNight_30 : decode cX7_middleNight 30 = .ok (.aload_n 0, 1) := by decide +kernel
theorem dX7_middleNight_31 : decode cX7_middleNight 31 = .ok (.getfield 7, 3) := by decide +kernel
theorem dX7_middleNight_34 : decode cX7_middleNight 34 = .ok (.bipush 127, 2) := by decide +kernel
theorem dX7_middleNight_36 : decode cX7_middleNight 36 = .ok (.iload 5, 2) := by decide +kernel
theorem dX7_middleNight_38 : decode cX7_middleNight 38 = .ok (.iadd, 1) := by decide +kernel
theorem dX7_middleNight_39 : decode cX7_middleNight 39 = .ok (.iaload, 1) := by decide +kernel
theorem dX7_middleNight_40 : decode cX7_middleNight 40 = .ok (.aload_n 0, 1) := by decide +kernel
theorem dX7_middleNight_41 : decode cX7_middleNight 41 = .ok (.getfield 7, 3) := by decide +kernel
theorem dX7_middleNight_44 : decode cX7_middleNight 44 = .ok (.bipush 127, 2) := by decide +kernel
theorem dX7_middleNight_46 : decode cX7_middleNight 46 = .ok (.iload_n 2, 1) := by decide +kernel
theorem dX7_middleNight_47 : decode cX7_middleNight 47 = .ok (.iadd, 1) := by decide +kernel
theorem dX7_middleNight_48 : decode cX7_middleNight 48 = .ok (.iaload, 1) := by decide +kernel
theorem dX7_middleNight_49 : decode cX7_middleNight 49 = .ok (.if_icmp .ge 7, 3) := by decide +kernel
theorem dX7_middleNight_52 : decode cX7_middleNight 52 = .ok (.iconst 1, 1) := by decide +kernel
theorem dX7_middleNight_53 : decode cX7_middleNight 53 = .ok (.goto 4, 3) := by decide +kernel
theorem dX7_middleNight_56 : decode cX7_middleNight 56 = .ok (.iconst 0, 1) := by decide +kernel
theorem dX7_middleNight_57 : decode cX7_middleNight 57 = .ok (.iadd, 1) := by decide +kernel
theorem dX7_middleNight_58 : decode cX7_middleNight 58 = .ok (.istore_n 3, 1) := by decide +kernel
theorem dX7_middleNight_59 : decode cX7_middleNight 59 = .ok (.iload 4, 2) := by decide +kernel
theorem dX7_middleNight_61 : decode cX7_middleNight 61 = .ok (.aload_n 0, 1) := by decide +kernel
theorem dX7_middleNight_62 : decode cX7_middleNight 62 = .ok (.getfield 7, 3) := by decide +kernel
theorem dX7_middleNight_65 : decode cX7_middleNight 65 = .ok (.bipush 127, 2) := by decide +kernel
theorem dX7_middleNight_67 : decode cX7_middleNight 67 = .ok (.iload 5, 2) := by decide +kernel
theorem dX7_middleNight_69 : decode cX7_middleNight 69 = .ok (.iadd, 1) := by decide +kernel
theorem dX7_middleNight_70 : decode cX7_middleNight 70 = .ok (.iaload, 1) := by decide +kernel
theorem dX7_middleNight_71 : decode cX7_middleNight 71 = .ok (.aload_n 0, 1) := by decide +kernel
theorem dX7_middleNight_72 : decode cX7_middleNight 72 = .ok (.getfield 7, 3) := by decide +kernel
theorem dX7_middleNight_75 : decode cX7_middleNight 75 = .ok (.bipush 127, 2) := by decide +kernel
theorem dX7_middleNight_77 : decode cX7_middleNight 77 = .ok (.iload_n 2, 1) := by decide +kernel
theorem dX7_middleNight_78 : decode cX7_middleNight 78 = .ok (.iadd, 1) := by decide +kernel
theorem dX7_middleNight_79 : decode cX7_middleNight 79 = .ok (.iaload, 1) := by decide +kernel
theorem dX7_middleNight_80 : decode cX7_middleNight 80 = .ok (.if_icmp .ne 7, 3) := by decide +kernel
theorem dX7_middleNight_83 : decode cX7_middleNight 83 = .ok (.iconst 1, 1) := by decide +kernel
theorem dX7_middleNight_84 : decode cX7_middleNight 84 = .ok (.goto 4, 3) := by decide +kernel
theorem dX7_middleNight_87 : decode cX7_middleNight 87 = .ok (.iconst 0, 1) := by decide +kernel
theorem dX7_middleNight_88 : decode cX7_middleNight 88 = .ok (.iadd, 1) := by decide +kernel
theorem dX7_middleNight_89 : decode cX7_middleNight 89 = .ok (.istore 4, 2) := by decide +kernel
theorem dX7_middleNight_91 : decode cX7_middleNight 91 = .ok (.iinc 5 1, 3) := by decide +kernel
theorem dX7_middleNight_94 : decode cX7_middleNight 94 = .ok (.goto (-71), 3) := by decide +kernel
theorem dX7_middleNight_97 : decode cX7_middleNight 97 = .ok (.iload_n 3, 1) := by decide +kernel
theorem dX7_middleNight_98 : decode cX7_middleNight 98 = .ok (.iload_n 1, 1) := by decide +kernel
theorem dX7_middleNight_99 : decode cX7_middleNight 99 = .ok (.iconst 1, 1) := by decide +kernel
theorem dX7_middleNight_100 : decode cX7_middleNight 100 = .ok (.isub, 1) := by decide +kernel
theorem dX7_middleNight_101 : decode cX7_middleNight 101 = .ok (.iconst 2, 1) := by decide +kernel
theorem dX7_middleNight_102 : decode cX7_middleNight 102 = .ok (.idiv, 1) := by decide +kernel
theorem dX7_middleNight_103 : decode cX7_middleNight 103 = .ok (.if_icmp .gt 25, 3) := by decide +kernel
theorem dX7_middleNight_106 : decode cX7_middleNight 106 = .ok (.iload_n 3, 1) := by decide +kernel
theorem dX7_middleNight_107 : decode cX7_middleNight 107 = .ok (.iload 4, 2) := by decide +kernel
theorem dX7_middleNight_109 : decode cX7_middleNight 109 = .ok (.iadd, 1) := by decide +kernel
theorem dX7_middleNight_110 : decode cX7_middleNight 110 = .ok (.iload_n 1, 1) := by decide +kernel
theorem dX7_middleNight_111 : decode cX7_middleNight 111 = .ok (.iconst 1, 1) := by decide +kernel
theorem dX7_middleNight_112 : decode cX7_middleNight 112 = .ok (.isub, 1) := by decide +kernel
theorem dX7_middleNight_113 : decode cX7_middleNight 113 = .ok (.iconst 2, 1) := by decide +kernel
theorem dX7_middleNight_114 : decode cX7_middleNight 114 = .ok (.idiv, 1) := by decide +kernel
theorem dX7_middleNight_115 : decode cX7_middleNight 115 = .ok (.if_icmp .le 13, 3) := by decide +kernel
theorem dX7_middleNight_118 : decode cX7_middleNight 118 = .ok (.aload_n 0, 1) := by decide +kernel
theorem dX7_middleNight_119 : decode cX7_middleNight 119 = .ok (.getfield 7, 3) := by decide +kernel
theorem dX7_middleNight_122 : decode cX7_middleNight 122 = .ok (.bipush 127, 2) := by decide +kernel
theorem dX7_middleNight_124 : decode cX7_middleNight 124 = .ok (.iload_n 2, 1) := by decide +kernel
theorem dX7_middleNight_125 : decode cX7_middleNight 125 = .ok (.iadd, 1) := by decide +kernel
theorem dX7_middleNight_126 : decode cX7_middleNight 126 = .ok (.iaload, 1) := by decide +kernel
theorem dX7_middleNight_127 : decode cX7_middleNight 127 = .ok (.ireturn, 1) := by decide +kernel
theorem dX7_middleNight_128 : decode cX7_middleNight 128 = .ok (.iinc 2 1, 3) := by decide +kernel
theorem dX7_middleNight_131 : decode cX7_middleNight 131 = .ok (.goto (-121), 3) := by decide +kernel
theorem dX7_middleNight_134 : decode cX7_middleNight 134 = .ok (.iconst 0, 1) := by decide +kernel
theorem dX7_middleNight_135 : decode cX7_middleNight 135 = .ok (.ireturn, 1) := by decide +kernel
theorem dX7_night_0 : decode cX7_night 0 = .ok (.aload_n 0, 1) := by decide +kernel
theorem dX7_night_1 : decode cX7_night 1 = .ok (.invokevirtual 156, 3) := by decide +kernel
theorem dX7_night_4 : decode cX7_night 4 = .ok (.aload_n 0, 1) := by decide +kernel
theorem dX7_night_5 : decode cX7_night 5 = .ok (.bipush 15, 2) := by decide +kernel
theorem dX7_night_7 : decode cX7_night 7 = .ok (.invokevirtual 66, 3) := by decide +kernel
theorem dX7_night_10 : decode cX7_night 10 = .ok (.isub, 1) := by decide +kernel
theorem dX7_night_11 : decode cX7_night 11 = .ok (.sipush 1440, 3) := by decide +kernel
theorem dX7_night_14 : decode cX7_night 14 = .ok (.iadd, 1) := by decide +kernel
theorem dX7_night_15 : decode cX7_night 15 = .ok (.sipush 1440, 3) := by decide +kernel
theorem dX7_night_18 : decode cX7_night 18 = .ok (.irem, 1) := by decide +kernel
theorem dX7_night_19 : decode cX7_night 19 = .ok (.istore_n 1, 1) := by decide +kernel
theorem dX7_night_20 : decode cX7_night 20 = .ok (.iload_n 1, 1) := by decide +kernel
theorem dX7_night_21 : decode cX7_night 21 = .ok (.aload_n 0, 1) := by decide +kernel
theorem dX7_night_22 : decode cX7_night 22 = .ok (.bipush 16, 2) := by decide +kernel
theorem dX7_night_24 : decode cX7_night 24 = .ok (.invokevirtual 66, 3) := by decide +kernel
theorem dX7_night_27 : decode cX7_night 27 = .ok (.if_icmp .lt 4, 3) := by decide +kernel
theorem dX7_night_30 : decode cX7_night 30 = .ok (.return_, 1) := by decide +kernel
theorem dX7_night_31 : decode cX7_night 31 = .ok (.aload_n 0, 1) := by decide +kernel
theorem dX7_night_32 : decode cX7_night 32 = .ok (.getfield 7, 3) := by decide +kernel
theorem dX7_night_35 : decode cX7_night 35 = .ok (.bipush 8, 2) := by decide +kernel
theorem dX7_night_37 : decode cX7_night 37 = .ok (.dup2, 1) := by decide +kernel
theorem dX7_night_38 : decode cX7_night 38 = .ok (.iaload, 1) := by decide +kernel
theorem dX7_night_39 : decode cX7_night 39 = .ok (.aload_n 0, 1) := by decide +kernel
theorem dX7_night_40 : decode cX7_night 40 = .ok (.getfield 7, 3) := by decide +kernel
theorem dX7_night_43 : decode cX7_night 43 = .ok (.iconst 3, 1) := by decide +kernel
theorem dX7_night_44 : decode cX7_night 44 = .ok (.iaload, 1) := by decide +kernel
theorem dX7_night_45 : decode cX7_night 45 = .ok (.iadd, 1) := by decide +kernel
theorem dX7_night_46 : decode cX7_night 46 = .ok (.iastore, 1) := by decide +kernel
theorem dX7_night_47 : decode cX7_night 47 = .ok (.iload_n 1, 1) := by decide +kernel
theorem dX7_night_48 : decode cX7_night 48 = .ok (.aload_n 0, 1) := by decide +kernel
theorem dX7_night_49 : decode cX7_night 49 = .ok (.bipush 16, 2) := by decide +kernel
theorem dX7_night_51 : decode cX7_night 51 = .ok (.invokevirtual 66, 3) := by decide +kernel
theorem dX7_night_54 : decode cX7_night 54 = .ok (.iconst 1, 1) := by decide +kernel
theorem dX7_night_55 : decode cX7_night 55 = .ok (.isub, 1) := by decide +kernel
theorem dX7_night_56 : decode cX7_night 56 = .ok (.if_icmp .ge 4, 3) := by decide +kernel
theorem dX7_night_59 : decode cX7_night 59 = .ok (.return_, 1) := by decide +kernel
theorem dX7_night_60 : decode cX7_night 60 = .ok (.aload_n 0, 1) := by decide +kernel
theorem dX7_night_61 : decode cX7_night 61 = .ok (.getfield 7, 3) := by decide +kernel
theorem dX7_night_64 : decode cX7_night 64 = .ok (.bipush 18, 2) := by decide +kernel
theorem dX7_night_66 : decode cX7_night 66 = .ok (.iaload, 1) := by decide +kernel
theorem dX7_night_67 : decode cX7_night 67 = .ok (.iconst 3, 1) := by decide +kernel
theorem dX7_night_68 : decode cX7_night 68 = .ok (.if_icmp .lt 42, 3) := by decide +kernel
theorem dX7_night_71 : decode cX7_night 71 = .ok (.aload_n 0, 1) := by decide +kernel
theorem dX7_night_72 : decode cX7_night 72 = .ok (.getfield 7, 3) := by decide +kernel
theorem dX7_night_75 : decode cX7_night 75 = .ok (.bipush 8, 2) := by decide +kernel
theorem dX7_night_77 : decode cX7_night 77 = .ok (.iaload, 1) := by decide +kernel
theorem dX7_night_78 : decode cX7_night 78 = .ok (.aload_n 0, 1) := by decide +kernel
theorem dX7_night_79 : decode cX7_night 79 = .ok (.invokevirtual 165, 3) := by decide +kernel
theorem dX7_night_82 : decode cX7_night 82 = .ok (.aload_n 0, 1) := by decide +kernel
theorem dX7_night_83 : decode cX7_night 83 = .ok (.bipush 17, 2) := by decide +kernel
theorem dX7_night_85 : decode cX7_night 85 = .ok (.invokevirtual 66, 3) := by decide +kernel
theorem dX7_night_88 : decode cX7_night 88 = .ok (.iadd, 1) := by decide +kernel
theorem dX7_night_89 : decode cX7_night 89 = .ok (.if_icmp .le 21, 3) := by decide +kernel
theorem dX7_night_92 : decode cX7_night 92 = .ok (.aload_n 0, 1) := by decide +kernel
theorem dX7_night_93 : decode cX7_night 93 = .ok (.getfield 7, 3) := by decide +kernel
theorem dX7_night_96 : decode cX7_night 96 = .ok (.bipush 9, 2) := by decide +kernel
theorem dX7_night_98 : decode cX7_night 98 = .ok (.dup2, 1) := by decide +kernel
theorem dX7_night_99 : decode cX7_night 99 = .ok (.iaload, 1) := by decide +kernel
theorem dX7_night_100 : decode cX7_night 100 = .ok (.iconst 1, 1) := by decide +kernel
theorem dX7_night_101 : decode cX7_night 101 = .ok (.iadd, 1) := by decide +kernel
theorem dX7_night_102 : decode cX7_night 102 = .ok (.iastore, 1) := by decide +kernel
theorem dX7_night_103 : decode cX7_night 103 = .ok (.aload_n 0, 1) := by decide +kernel
theorem dX7_night_104 : decode cX7_night 104 = .ok (.bipush 6, 2) := by decide +kernel
theorem dX7_night_106 : decode cX7_night 106 = .ok (.iconst (-1), 1) := by decide +kernel
theorem dX7_night_107 : decode cX7_night 107 = .ok (.invokevirtual 105, 3) := by decide +kernel
theorem dX7_night_110 : decode cX7_night 110 = .ok (.bipush 6, 2) := by decide +kernel
theorem dX7_night_112 : decode cX7_night 112 = .ok (.istore_n 2, 1) := by decide +kernel
theorem dX7_night_113 : decode cX7_night 113 = .ok (.iload_n 2, 1) := by decide +kernel
theorem dX7_night_114 : decode cX7_night 114 = .ok (.ifCond .le 29, 3) := by decide +kernel
theorem dX7_night_117 : decode cX7_night 117 = .ok (.aload_n 0, 1) := by decide +kernel
theorem dX7_night_118 : decode cX7_night 118 = .ok (.getfield 7, 3) := by decide +kernel
theorem dX7_night_121 : decode cX7_night 121 = .ok (.bipush 127, 2) := by decide +kernel
theorem dX7_night_123 : decode cX7_night 123 = .ok (.iload_n 2, 1) := by decide +kernel
theorem dX7_night_124 : decode cX7_night 124 = .ok (.iadd, 1) := by decide +kernel
theorem dX7_night_125 : decode cX7_night 125 = .ok (.aload_n 0, 1) := by decide +kernel
theorem dX7_night_126 : decode cX7_night 126 = .ok (.getfield 7, 3) := by decide +kernel
theorem dX7_night_129 : decode cX7_night 129 = .ok (.bipush 127, 2) := by decide +kernel
theorem dX7_night_131 : decode cX7_night 131 = .ok (.iload_n 2, 1) := by decide +kernel
theorem dX7_night_132 : decode cX7_night 132 = .ok (.iadd, 1) := by decide +kernel
theorem dX7_night_133 : decode cX7_night 133 = .ok (.iconst 1, 1) := by decide +kernel
theorem dX7_night_134 : decode cX7_night 134 = .ok (.isub, 1) := by decide +kernel
theorem dX7_night_135 : decode cX7_night 135 = .ok (.iaload, 1) := by decide +kernel
theorem dX7_night_136 : decode cX7_night 136 = .ok (.iastore, 1) := by decide +kernel
theorem dX7_night_137 : decode cX7_night 137 = .ok (.iinc 2 (-1), 3) := by decide +kernel
theorem dX7_night_140 : decode cX7_night 140 = .ok (.goto (-27), 3) := by decide +kernel
theorem dX7_night_143 : decode cX7_night 143 = .ok (.aload_n 0, 1) := by decide +kernel
theorem dX7_night_144 : decode cX7_night 144 = .ok (.getfield 7, 3) := by decide +kernel
theorem dX7_night_147 : decode cX7_night 147 = .ok (.bipush 127, 2) := by decide +kernel
theorem dX7_night_149 : decode cX7_night 149 = .ok (.aload_n 0, 1) := by decide +kernel
theorem dX7_night_150 : decode cX7_night 150 = .ok (.getfield 7, 3) := by decide +kernel
theorem dX7_night_153 : decode cX7_night 153 = .ok (.bipush 8, 2) := by decide +kernel
theorem dX7_night_155 : decode cX7_night 155 = .ok (.iaload, 1) := by decide +kernel
theorem dX7_night_156 : decode cX7_night 156 = .ok (.iastore, 1) := by decide +kernel
theorem dX7_night_157 : decode cX7_night 157 = .ok (.aload_n 0, 1) := by decide +kernel
theorem dX7_night_158 : decode cX7_night 158 = .ok (.getfield 7, 3) := by decide +kernel
theorem dX7_night_161 : decode cX7_night 161 = .ok (.bipush 8, 2) := by decide +kernel
theorem dX7_night_163 : decode cX7_night 163 = .ok (.iconst 0, 1) := by decide +kernel
theorem dX7_night_164 : decode cX7_night 164 = .ok (.iastore, 1) := by decide +kernel
theorem dX7_night_165 : decode cX7_night 165 = .ok (.aload_n 0, 1) := by decide +kernel
theorem dX7_night_166 : decode cX7_night 166 = .ok (.getfield 7, 3) := by decide +kernel
theorem dX7_night_169 : decode cX7_night 169 = .ok (.bipush 18, 2) := by decide +kernel
theorem dX7_night_171 : decode cX7_night 171 = .ok (.dup2, 1) := by decide +kernel
theorem dX7_night_172 : decode cX7_night 172 = .ok (.iaload, 1) := by decide +kernel
theorem dX7_night_173 : decode cX7_night 173 = .ok (.aload_n 0, 1) := by decide +kernel
theorem dX7_night_174 : decode cX7_night 174 = .ok (.getfield 7, 3) := by decide +kernel
theorem dX7_night_177 : decode cX7_night 177 = .ok (.bipush 18, 2) := by decide +kernel
theorem dX7_night_179 : decode cX7_night 179 = .ok (.iaload, 1) := by decide +kernel
theorem dX7_night_180 : decode cX7_night 180 = .ok (.bipush 7, 2) := by decide +kernel
theorem dX7_night_182 : decode cX7_night 182 = .ok (.if_icmp .ge 7, 3) := by decide +kernel
theorem dX7_night_185 : decode cX7_night 185 = .ok (.iconst 1, 1) := by decide +kernel
theorem dX7_night_186 : decode cX7_night 186 = .ok (.goto 4, 3) := by decide +kernel
theorem dX7_night_189 : decode cX7_night 189 = .ok (.iconst 0, 1) := by decide +kernel
theorem dX7_night_190 : decode cX7_night 190 = .ok (.iadd, 1) := by decide +kernel
theorem dX7_night_191 : decode cX7_night 191 = .ok (.iastore, 1) := by decide +kernel
theorem dX7_night_192 : decode cX7_night 192 = .ok (.return_, 1) := by decide +kernel
theorem dX7_dryness_0 : decode cX7_dryness 0 = .ok (.aload_n 0, 1) := by decide +kernel
theorem dX7_dryness_1 : decode cX7_dryness 1 = .ok (.getfield 7, 3) := by decide +kernel
theorem dX7_dryness_4 : decode cX7_dryness 4 = .ok (.bipush 7, 2) := by decide +kernel
theorem dX7_dryness_6 : decode cX7_dryness 6 = .ok (.aload_n 0, 1) := by decide +kernel
theorem dX7_dryness_7 : decode cX7_dryness 7 = .ok (.getfield 7, 3) := by decide +kernel
theorem dX7_dryness_10 : decode cX7_dryness 10 = .ok (.iconst 2, 1) := by decide +kernel
theorem dX7_dryness_11 : decode cX7_dryness 11 = .ok (.iaload, 1) := by decide +kernel
theorem dX7_dryness_12 : decode cX7_dryness 12 = .ok (.aload_n 0, 1) := by decide +kernel
theorem dX7_dryness_13 : decode cX7_dryness 13 = .ok (.bipush 11, 2) := by decide +kernel
theorem dX7_dryness_15 : decode cX7_dryness 15 = .ok (.invokevirtual 66, 3) := by decide +kernel
theorem dX7_dryness_18 : decode cX7_dryness 18 = .ok (.if_icmp .ge 15, 3) := by decide +kernel
theorem dX7_dryness_21 : decode cX7_dryness 21 = .ok (.aload_n 0, 1) := by decide +kernel
theorem dX7_dryness_22 : decode cX7_dryness 22 = .ok (.getfield 7, 3) := by decide +kernel
theorem dX7_dryness_25 : decode cX7_dryness 25 = .ok (.bipush 7, 2) := by decide +kernel
theorem dX7_dryness_27 : decode cX7_dryness 27 = .ok (.iaload, 1) := by decide +kernel
theorem dX7_dryness_28 : decode cX7_dryness 28 = .ok (.iconst 1, 1) := by decide +kernel
theorem dX7_dryness_29 : decode cX7_dryness 29 = .ok (.iadd, 1) := by decide +kernel
theorem dX7_dryness_30 : decode cX7_dryness 30 = .ok (.goto 4, 3) := by decide +kernel
theorem dX7_dryness_33 : decode cX7_dryness 33 = .ok (.iconst 0, 1) := by decide +kernel
theorem dX7_dryness_34 : decode cX7_dryness 34 = .ok (.iastore, 1) := by decide +kernel
theorem dX7_dryness_35 : decode cX7_dryness 35 = .ok (.aload_n 0, 1) := by decide +kernel
theorem dX7_dryness_36 : decode cX7_dryness 36 = .ok (.getfield 7, 3) := by decide +kernel
theorem dX7_dryness_39 : decode cX7_dryness 39 = .ok (.bipush 7, 2) := by decide +kernel
theorem dX7_dryness_41 : decode cX7_dryness 41 = .ok (.iaload, 1) := by decide +kernel
theorem dX7_dryness_42 : decode cX7_dryness 42 = .ok (.aload_n 0, 1) := by decide +kernel
theorem dX7_dryness_43 : decode cX7_dryness 43 = .ok (.bipush 13, 2) := by decide +kernel
theorem dX7_dryness_45 : decode cX7_dryness 45 = .ok (.invokevirtual 66, 3) := by decide +kernel
theorem dX7_dryness_48 : decode cX7_dryness 48 = .ok (.if_icmp .lt 68, 3) := by decide +kernel
theorem dX7_dryness_51 : decode cX7_dryness 51 = .ok (.aload_n 0, 1) := by decide +kernel
theorem dX7_dryness_52 : decode cX7_dryness 52 = .ok (.getfield 7, 3) := by decide +kernel
theorem dX7_dryness_55 : decode cX7_dryness 55 = .ok (.iconst 5, 1) := by decide +kernel
theorem dX7_dryness_56 : decode cX7_dryness 56 = .ok (.iaload, 1) := by decide +kernel
theorem dX7_dryness_57 : decode cX7_dryness 57 = .ok (.ifCond .ne 59, 3) := by decide +kernel
theorem dX7_dryness_60 : decode cX7_dryness 60 = .ok (.aload_n 0, 1) := by decide +kernel
theorem dX7_dryness_61 : decode cX7_dryness 61 = .ok (.getfield 7, 3) := by decide +kernel
theorem dX7_dryness_64 : decode cX7_dryness 64 = .ok (.iconst 5, 1) := by decide +kernel
theorem dX7_dryness_65 : decode cX7_dryness 65 = .ok (.iconst 1, 1) := by decide +kernel
theorem dX7_dryness_66 : decode cX7_dryness 66 = .ok (.iastore, 1) := by decide +kernel
theorem dX7_dryness_67 : decode cX7_dryness 67 = .ok (.iconst 0, 1) := by decide +kernel
theorem dX7_dryness_68 : decode cX7_dryness 68 = .ok (.istore_n 1, 1) := by decide +kernel
theorem dX7_dryness_69 : decode cX7_dryness 69 = .ok (.iload_n 1, 1) := by decide +kernel
theorem dX7_dryness_70 : decode cX7_dryness 70 = .ok (.aload_n 0, 1) := by decide +kernel
theorem dX7_dryness_71 : decode cX7_dryness 71 = .ok (.getfield 7, 3) := by decide +kernel
theorem dX7_dryness_74 : decode cX7_dryness 74 = .ok (.bipush 14, 2) := by decide +kernel
theorem dX7_dryness_76 : decode cX7_dryness 76 = .ok (.iaload, 1) := by decide +kernel
theorem dX7_dryness_77 : decode cX7_dryness 77 = .ok (.if_icmp .ge 22, 3) := by decide +kernel
theorem dX7_dryness_80 : decode cX7_dryness 80 = .ok (.aload_n 0, 1) := by decide +kernel
theorem dX7_dryness_81 : decode cX7_dryness 81 = .ok (.iload_n 1, 1) := by decide +kernel
theorem dX7_dryness_82 : decode cX7_dryness 82 = .ok (.invokevirtual 82, 3) := by decide +kernel
theorem dX7_dryness_85 : decode cX7_dryness 85 = .ok (.ifCond .eq 8, 3) := by decide +kernel
theorem dX7_dryness_88 : decode cX7_dryness 88 = .ok (.aload_n 0, 1) := by decide +kernel
theorem dX7_dryness_89 : decode cX7_dryness 89 = .ok (.iload_n 1, 1) := by decide +kernel
theorem dX7_dryness_90 : decode cX7_dryness 90 = .ok (.invokevirtual 116, 3) := by decide +kernel
theorem dX7_dryness_93 : decode cX7_dryness 93 = .ok (.iinc 1 1, 3) := by decide +kernel
theorem dX7_dryness_96 : decode cX7_dryness 96 = .ok (.goto (-27), 3) := by decide +kernel
theorem dX7_dryness_99 : decode cX7_dryness 99 = .ok (.aload_n 0, 1) := by decide +kernel
theorem dX7_dryness_100 : decode cX7_dryness 100 = .ok (.getfield 7, 3) := by decide +kernel
theorem dX7_dryness_103 : decode cX7_dryness 103 = .ok (.bipush 6, 2) := by decide +kernel
theorem dX7_dryness_105 : decode cX7_dryness 105 = .ok (.dup2, 1) := by decide +kernel
theorem dX7_dryness_106 : decode cX7_dryness 106 = .ok (.iaload, 1) := by decide +kernel
theorem dX7_dryness_107 : decode cX7_dryness 107 = .ok (.iconst 1, 1) := by decide +kernel
theorem dX7_dryness_108 : decode cX7_dryness 108 = .ok (.iadd, 1) := by decide +kernel
theorem dX7_dryness_109 : decode cX7_dryness 109 = .ok (.iastore, 1) := by decide +kernel
theorem dX7_dryness_110 : decode cX7_dryness 110 = .ok (.aload_n 0, 1) := by decide +kernel
theorem dX7_dryness_111 : decode cX7_dryness 111 = .ok (.iconst 4, 1) := by decide +kernel
theorem dX7_dryness_112 : decode cX7_dryness 112 = .ok (.iconst (-1), 1) := by decide +kernel
theorem dX7_dryness_113 : decode cX7_dryness 113 = .ok (.invokevirtual 105, 3) := by decide +kernel
theorem dX7_dryness_116 : decode cX7_dryness 116 = .ok (.aload_n 0, 1) := by decide +kernel
theorem dX7_dryness_117 : decode cX7_dryness 117 = .ok (.getfield 7, 3) := by decide +kernel
theorem dX7_dryness_120 : decode cX7_dryness 120 = .ok (.iconst 2, 1) := by decide +kernel
theorem dX7_dryness_121 : decode cX7_dryness 121 = .ok (.iaload, 1) := by decide +kernel
theorem dX7_dryness_122 : decode cX7_dryness 122 = .ok (.aload_n 0, 1) := by decide +kernel
theorem dX7_dryness_123 : decode cX7_dryness 123 = .ok (.bipush 12, 2) := by decide +kernel
theorem dX7_dryness_125 : decode cX7_dryness 125 = .ok (.invokevirtual 66, 3) := by decide +kernel
theorem dX7_dryness_128 : decode cX7_dryness 128 = .ok (.if_icmp .lt 37, 3) := by decide +kernel
theorem dX7_dryness_131 : decode cX7_dryness 131 = .ok (.aload_n 0, 1) := by decide +kernel
theorem dX7_dryness_132 : decode cX7_dryness 132 = .ok (.getfield 7, 3) := by decide +kernel
theorem dX7_dryness_135 : decode cX7_dryness 135 = .ok (.iconst 5, 1) := by decide +kernel
theorem dX7_dryness_136 : decode cX7_dryness 136 = .ok (.iaload, 1) := by decide +kernel
theorem dX7_dryness_137 : decode cX7_dryness 137 = .ok (.iconst 1, 1) := by decide +kernel
theorem dX7_dryness_138 : decode cX7_dryness 138 = .ok (.if_icmp .ne 27, 3) := by decide +kernel
theorem dX7_dryness_141 : decode cX7_dryness 141 = .ok (.aload_n 0, 1) := by decide +kernel
theorem dX7_dryness_142 : decode cX7_dryness 142 = .ok (.getfield 7, 3) := by decide +kernel
theorem dX7_dryness_145 : decode cX7_dryness 145 = .ok (.bipush 6, 2) := by decide +kernel
theorem dX7_dryness_147 : decode cX7_dryness 147 = .ok (.iaload, 1) := by decide +kernel
theorem dX7_dryness_148 : decode cX7_dryness 148 = .ok (.iconst 3, 1) := by decide +kernel
theorem dX7_dryness_149 : decode cX7_dryness 149 = .ok (.if_icmp .ge 16, 3) := by decide +kernel
theorem dX7_dryness_152 : decode cX7_dryness 152 = .ok (.aload_n 0, 1) := by decide +kernel
theorem dX7_dryness_153 : decode cX7_dryness 153 = .ok (.getfield 7, 3) := by decide +kernel
theorem dX7_dryness_156 : decode cX7_dryness 156 = .ok (.iconst 5, 1) := by decide +kernel
theorem dX7_dryness_157 : decode cX7_dryness 157 = .ok (.iconst 0, 1) := by decide +kernel
theorem dX7_dryness_158 : decode cX7_dryness 158 = .ok (.iastore, 1) := by decide +kernel
theorem dX7_dryness_159 : decode cX7_dryness 159 = .ok (.aload_n 0, 1) := by decide +kernel
theorem dX7_dryness_160 : decode cX7_dryness 160 = .ok (.iconst 5, 1) := by decide +kernel
theorem dX7_dryness_161 : decode cX7_dryness 161 = .ok (.iconst (-1), 1) := by decide +kernel
theorem dX7_dryness_162 : decode cX7_dryness 162 = .ok (.invokevirtual 105, 3) := by decide +kernel
theorem dX7_dryness_165 : decode cX7_dryness 165 = .ok (.return_, 1) := by decide +kernel
theorem dX7_speedOfVariable_0 : decode cX7_speedOfVariable 0 = .ok (.aload_n 0, 1) := by decide +kernel
theorem dX7_speedOfVariable_1 : decode cX7_speedOfVariable 1 = .ok (.aload_n 0, 1) := by decide +kernel
theorem dX7_speedOfVariable_2 : decode cX7_speedOfVariable 2 = .ok (.getfield 7, 3) := by decide +kernel
theorem dX7_speedOfVariable_5 : decode cX7_speedOfVariable 5 = .ok (.iconst 4, 1) := by decide +kernel
theorem dX7_speedOfVariable_6 : decode cX7_speedOfVariable 6 = .ok (.iaload, 1) := by decide +kernel
theorem dX7_speedOfVariable_7 : decode cX7_speedOfVariable 7 = .ok (.iconst 4, 1) := by decide +kernel
theorem dX7_speedOfVariable_8 : decode cX7_speedOfVariable 8 = .ok (.invokevirtual 78, 3) := by decide +kernel
theorem dX7_speedOfVariable_11 : decode cX7_speedOfVariable 11 = .ok (.ireturn, 1) := by decide +kernel
theorem dX7_regulate_0 : decode cX7_regulate 0 = .ok (.aload_n 0, 1) := by decide +kernel
theorem dX7_regulate_1 : decode cX7_regulate 1 = .ok (.getfield 7, 3) := by decide +kernel
theorem dX7_regulate_4 : decode cX7_regulate 4 = .ok (.iconst 4, 1) := by decide +kernel
theorem dX7_regulate_5 : decode cX7_regulate 5 = .ok (.iaload, 1) := by decide +kernel
theorem dX7_regulate_6 : decode cX7_regulate 6 = .ok (.istore_n 1, 1) := by decide +kernel
theorem dX7_regulate_7 : decode cX7_regulate 7 = .ok (.iload_n 1, 1) := by decide +kernel
theorem dX7_regulate_8 : decode cX7_regulate 8 = .ok (.iconst (-1), 1) := by decide +kernel
theorem dX7_regulate_9 : decode cX7_regulate 9 = .ok (.if_icmp .eq 64, 3) := by decide +kernel
theorem dX7_regulate_12 : decode cX7_regulate 12 = .ok (.aload_n 0, 1) := by decide +kernel
theorem dX7_regulate_13 : decode cX7_regulate 13 = .ok (.iconst 0, 1) := by decide +kernel
theorem dX7_regulate_14 : decode cX7_regulate 14 = .ok (.invokevirtual 66, 3) := by decide +kernel
theorem dX7_regulate_17 : decode cX7_regulate 17 = .ok (.aload_n 0, 1) := by decide +kernel
theorem dX7_regulate_18 : decode cX7_regulate 18 = .ok (.getfield 7, 3) := by decide +kernel
theorem dX7_regulate_21 : decode cX7_regulate 21 = .ok (.iconst 1, 1) := by decide +kernel
theorem dX7_regulate_22 : decode cX7_regulate 22 = .ok (.iaload, 1) := by decide +kernel
theorem dX7_regulate_23 : decode cX7_regulate 23 = .ok (.isub, 1) := by decide +kernel
theorem dX7_regulate_24 : decode cX7_regulate 24 = .ok (.aload_n 0, 1) := by decide +kernel
theorem dX7_regulate_25 : decode cX7_regulate 25 = .ok (.iconst 2, 1) := by decide +kernel
theorem dX7_regulate_26 : decode cX7_regulate 26 = .ok (.invokevirtual 66, 3) := by decide +kernel
theorem dX7_regulate_29 : decode cX7_regulate 29 = .ok (.imul, 1) := by decide +kernel
theorem dX7_regulate_30 : decode cX7_regulate 30 = .ok (.bipush 100, 2) := by decide +kernel
theorem dX7_regulate_32 : decode cX7_regulate 32 = .ok (.idiv, 1) := by decide +kernel
theorem dX7_regulate_33 : decode cX7_regulate 33 = .ok (.aload_n 0, 1) := by decide +kernel
theorem dX7_regulate_34 : decode cX7_regulate 34 = .ok (.iconst 3, 1) := by decide +kernel
theorem dX7_regulate_35 : decode cX7_regulate 35 = .ok (.invokevirtual 66, 3) := by decide +kernel
theorem dX7_regulate_38 : decode cX7_regulate 38 = .ok (.ineg, 1) := by decide +kernel
theorem dX7_regulate_39 : decode cX7_regulate 39 = .ok (.aload_n 0, 1) := by decide +kernel
theorem dX7_regulate_40 : decode cX7_regulate 40 = .ok (.iconst 3, 1) := by decide +kernel
theorem dX7_regulate_41 : decode cX7_regulate 41 = .ok (.invokevirtual 66, 3) := by decide +kernel
theorem dX7_regulate_44 : decode cX7_regulate 44 = .ok (.invokestatic 159, 3) := by decide +kernel
theorem dX7_regulate_47 : decode cX7_regulate 47 = .ok (.istore_n 2, 1) := by decide +kernel
theorem dX7_regulate_48 : decode cX7_regulate 48 = .ok (.aload_n 0, 1) := by decide +kernel
theorem dX7_regulate_49 : decode cX7_regulate 49 = .ok (.iload_n 1, 1) := by decide +kernel
theorem dX7_regulate_50 : decode cX7_regulate 50 = .ok (.iconst 4, 1) := by decide +kernel
theorem dX7_regulate_51 : decode cX7_regulate 51 = .ok (.aload_n 0, 1) := by decide +kernel
theorem dX7_regulate_52 : decode cX7_regulate 52 = .ok (.iload_n 1, 1) := by decide +kernel
theorem dX7_regulate_53 : decode cX7_regulate 53 = .ok (.iconst 4, 1) := by decide +kernel
theorem dX7_regulate_54 : decode cX7_regulate 54 = .ok (.invokevirtual 78, 3) := by decide +kernel
theorem dX7_regulate_57 : decode cX7_regulate 57 = .ok (.iload_n 2, 1) := by decide +kernel
theorem dX7_regulate_58 : decode cX7_regulate 58 = .ok (.iadd, 1) := by decide +kernel
theorem dX7_regulate_59 : decode cX7_regulate 59 = .ok (.aload_n 0, 1) := by decide +kernel
theorem dX7_regulate_60 : decode cX7_regulate 60 = .ok (.iconst 4, 1) := by decide +kernel
theorem dX7_regulate_61 : decode cX7_regulate 61 = .ok (.invokevirtual 66, 3) := by decide +kernel
theorem dX7_regulate_64 : decode cX7_regulate 64 = .ok (.sipush 1000, 3) := by decide +kernel
theorem dX7_regulate_67 : decode cX7_regulate 67 = .ok (.invokestatic 159, 3) := by decide +kernel
theorem dX7_regulate_70 : decode cX7_regulate 70 = .ok (.invokevirtual 74, 3) := by decide +kernel
theorem dX7_regulate_73 : decode cX7_regulate 73 = .ok (.return_, 1) := by decide +kernel
theorem dX7_counts_0 : decode cX7_counts 0 = .ok (.aload_n 0, 1) := by decide +kernel
theorem dX7_counts_1 : decode cX7_counts 1 = .ok (.getfield 7, 3) := by decide +kernel
theorem dX7_counts_4 : decode cX7_counts 4 = .ok (.iload_n 1, 1) := by decide +kernel
theorem dX7_counts_5 : decode cX7_counts 5 = .ok (.iload_n 2, 1) := by decide +kernel
theorem dX7_counts_6 : decode cX7_counts 6 = .ok (.ifCond .eq 14, 3) := by decide +kernel
theorem dX7_counts_9 : decode cX7_counts 9 = .ok (.aload_n 0, 1) := by decide +kernel
theorem dX7_counts_10 : decode cX7_counts 10 = .ok (.getfield 7, 3) := by decide +kernel
theorem dX7_counts_13 : decode cX7_counts 13 = .ok (.iload_n 1, 1) := by decide +kernel
theorem dX7_counts_14 : decode cX7_counts 14 = .ok (.iaload, 1) := by decide +kernel
theorem dX7_counts_15 : decode cX7_counts 15 = .ok (.iconst 1, 1) := by decide +kernel
theorem dX7_counts_16 : decode cX7_counts 16 = .ok (.iadd, 1) := by decide +kernel
theorem dX7_counts_17 : decode cX7_counts 17 = .ok (.goto 4, 3) := by decide +kernel
theorem dX7_counts_20 : decode cX7_counts 20 = .ok (.iconst 0, 1) := by decide +kernel
theorem dX7_counts_21 : decode cX7_counts 21 = .ok (.iastore, 1) := by decide +kernel
theorem dX7_counts_22 : decode cX7_counts 22 = .ok (.return_, 1) := by decide +kernel
theorem dX7_countAll_0 : decode cX7_countAll 0 = .ok (.aload_n 0, 1) := by decide +kernel
theorem dX7_countAll_1 : decode cX7_countAll 1 = .ok (.invokevirtual 92, 3) := by decide +kernel
theorem dX7_countAll_4 : decode cX7_countAll 4 = .ok (.ifCond .le 7, 3) := by decide +kernel
theorem dX7_countAll_7 : decode cX7_countAll 7 = .ok (.iconst 1, 1) := by decide +kernel
theorem dX7_countAll_8 : decode cX7_countAll 8 = .ok (.goto 4, 3) := by decide +kernel
theorem dX7_countAll_11 : decode cX7_countAll 11 = .ok (.iconst 0, 1) := by decide +kernel
theorem dX7_countAll_12 : decode cX7_countAll 12 = .ok (.istore_n 1, 1) := by decide +kernel
theorem dX7_countAll_13 : decode cX7_countAll 13 = .ok (.aload_n 0, 1) := by decide +kernel
theorem dX7_countAll_14 : decode cX7_countAll 14 = .ok (.getfield 7, 3) := by decide +kernel
theorem dX7_countAll_17 : decode cX7_countAll 17 = .ok (.iconst 4, 1) := by decide +kernel
theorem dX7_countAll_18 : decode cX7_countAll 18 = .ok (.iaload, 1) := by decide +kernel
theorem dX7_countAll_19 : decode cX7_countAll 19 = .ok (.iconst (-1), 1) := by decide +kernel
theorem dX7_countAll_20 : decode cX7_countAll 20 = .ok (.if_icmp .eq 13, 3) := by decide +kernel
theorem dX7_countAll_23 : decode cX7_countAll 23 = .ok (.aload_n 0, 1) := by decide +kernel
theorem dX7_countAll_24 : decode cX7_countAll 24 = .ok (.invokevirtual 168, 3) := by decide +kernel
theorem dX7_countAll_27 : decode cX7_countAll 27 = .ok (.sipush 1000, 3) := by decide +kernel
theorem dX7_countAll_30 : decode cX7_countAll 30 = .ok (.if_icmp .ne 7, 3) := by decide +kernel
theorem dX7_countAll_33 : decode cX7_countAll 33 = .ok (.iconst 1, 1) := by decide +kernel
theorem dX7_countAll_34 : decode cX7_countAll 34 = .ok (.goto 4, 3) := by decide +kernel
theorem dX7_countAll_37 : decode cX7_countAll 37 = .ok (.iconst 0, 1) := by decide +kernel
theorem dX7_countAll_38 : decode cX7_countAll 38 = .ok (.istore_n 2, 1) := by decide +kernel
theorem dX7_countAll_39 : decode cX7_countAll 39 = .ok (.aload_n 0, 1) := by decide +kernel
theorem dX7_countAll_40 : decode cX7_countAll 40 = .ok (.getfield 7, 3) := by decide +kernel
theorem dX7_countAll_43 : decode cX7_countAll 43 = .ok (.iconst 4, 1) := by decide +kernel
theorem dX7_countAll_44 : decode cX7_countAll 44 = .ok (.iaload, 1) := by decide +kernel
theorem dX7_countAll_45 : decode cX7_countAll 45 = .ok (.iconst (-1), 1) := by decide +kernel
theorem dX7_countAll_46 : decode cX7_countAll 46 = .ok (.if_icmp .eq 15, 3) := by decide +kernel
theorem dX7_countAll_49 : decode cX7_countAll 49 = .ok (.aload_n 0, 1) := by decide +kernel
theorem dX7_countAll_50 : decode cX7_countAll 50 = .ok (.invokevirtual 168, 3) := by decide +kernel
theorem dX7_countAll_53 : decode cX7_countAll 53 = .ok (.aload_n 0, 1) := by decide +kernel
theorem dX7_countAll_54 : decode cX7_countAll 54 = .ok (.iconst 4, 1) := by decide +kernel
theorem dX7_countAll_55 : decode cX7_countAll 55 = .ok (.invokevirtual 66, 3) := by decide +kernel
theorem dX7_countAll_58 : decode cX7_countAll 58 = .ok (.if_icmp .ne 7, 3) := by decide +kernel
theorem dX7_countAll_61 : decode cX7_countAll 61 = .ok (.iconst 1, 1) := by decide +kernel
theorem dX7_countAll_62 : decode cX7_countAll 62 = .ok (.goto 4, 3) := by decide +kernel
theorem dX7_countAll_65 : decode cX7_countAll 65 = .ok (.iconst 0, 1) := by decide +kernel
theorem dX7_countAll_66 : decode cX7_countAll 66 = .ok (.istore_n 3, 1) := by decide +kernel
theorem dX7_countAll_67 : decode cX7_countAll 67 = .ok (.aload_n 0, 1) := by decide +kernel
theorem dX7_countAll_68 : decode cX7_countAll 68 = .ok (.invokevirtual 92, 3) := by decide +kernel
theorem dX7_countAll_71 : decode cX7_countAll 71 = .ok (.iconst 1, 1) := by decide +kernel
theorem dX7_countAll_72 : decode cX7_countAll 72 = .ok (.if_icmp .ne 17, 3) := by decide +kernel
theorem dX7_countAll_75 : decode cX7_countAll 75 = .ok (.aload_n 0, 1) := by decide +kernel
theorem dX7_countAll_76 : decode cX7_countAll 76 = .ok (.getfield 7, 3) := by decide +kernel
theorem dX7_countAll_79 : decode cX7_countAll 79 = .ok (.iconst 4, 1) := by decide +kernel
theorem dX7_countAll_80 : decode cX7_countAll 80 = .ok (.iaload, 1) := by decide +kernel
theorem dX7_countAll_81 : decode cX7_countAll 81 = .ok (.iconst (-1), 1) := by decide +kernel
theorem dX7_countAll_82 : decode cX7_countAll 82 = .ok (.if_icmp .eq 7, 3) := by decide +kernel
theorem dX7_countAll_85 : decode cX7_countAll 85 = .ok (.iconst 1, 1) := by decide +kernel
theorem dX7_countAll_86 : decode cX7_countAll 86 = .ok (.goto 4, 3) := by decide +kernel
theorem dX7_countAll_89 : decode cX7_countAll 89 = .ok (.iconst 0, 1) := by decide +kernel
theorem dX7_countAll_90 : decode cX7_countAll 90 = .ok (.istore 4, 2) := by decide +kernel
theorem dX7_countAll_92 : decode cX7_countAll 92 = .ok (.aload_n 0, 1) := by decide +kernel
theorem dX7_countAll_93 : decode cX7_countAll 93 = .ok (.bipush 10, 2) := by decide +kernel
theorem dX7_countAll_95 : decode cX7_countAll 95 = .ok (.iload_n 1, 1) := by decide +kernel
theorem dX7_countAll_96 : decode cX7_countAll 96 = .ok (.ifCond .eq 31, 3) := by decide +kernel
theorem dX7_countAll_99 : decode cX7_countAll 99 = .ok (.iload_n 2, 1) := by decide +kernel
theorem dX7_countAll_100 : decode cX7_countAll 100 = .ok (.ifCond .eq 27, 3) := by decide +kernel
theorem dX7_countAll_103 : decode cX7_countAll 103 = .ok (.aload_n 0, 1) := by decide +kernel
theorem dX7_countAll_104 : decode cX7_countAll 104 = .ok (.getfield 7, 3) := by decide +kernel
theorem dX7_countAll_107 : decode cX7_countAll 107 = .ok (.iconst 1, 1) := by decide +kernel
theorem dX7_countAll_108 : decode cX7_countAll 108 = .ok (.iaload, 1) := by decide +kernel
theorem dX7_countAll_109 : decode cX7_countAll 109 = .ok (.aload_n 0, 1) := by decide +kernel
theorem dX7_countAll_110 : decode cX7_countAll 110 = .ok (.iconst 0, 1) := by decide +kernel
theorem dX7_countAll_111 : decode cX7_countAll 111 = .ok (.invokevirtual 66, 3) := by decide +kernel
theorem dX7_countAll_114 : decode cX7_countAll 114 = .ok (.aload_n 0, 1) := by decide +kernel
theorem dX7_countAll_115 : decode cX7_countAll 115 = .ok (.iconst 1, 1) := by decide +kernel
theorem dX7_countAll_116 : decode cX7_countAll 116 = .ok (.invokevirtual 66, 3) := by decide +kernel
theorem dX7_countAll_119 : decode cX7_countAll 119 = .ok (.isub, 1) := by decide +kernel
theorem dX7_countAll_120 : decode cX7_countAll 120 = .ok (.if_icmp .ge 7, 3) := by decide +kernel
theorem dX7_countAll_123 : decode cX7_countAll 123 = .ok (.iconst 1, 1) := by decide +kernel
theorem dX7_countAll_124 : decode cX7_countAll 124 = .ok (.goto 4, 3) := by decide +kernel
theorem dX7_countAll_127 : decode cX7_countAll 127 = .ok (.iconst 0, 1) := by decide +kernel
theorem dX7_countAll_128 : decode cX7_countAll 128 = .ok (.invokevirtual 171, 3) := by decide +kernel
theorem dX7_countAll_131 : decode cX7_countAll 131 = .ok (.aload_n 0, 1) := by decide +kernel
theorem dX7_countAll_132 : decode cX7_countAll 132 = .ok (.bipush 11, 2) := by decide +kernel
theorem dX7_countAll_134 : decode cX7_countAll 134 = .ok (.iload_n 1, 1) := by decide +kernel
theorem dX7_countAll_135 : decode cX7_countAll 135 = .ok (.ifCond .eq 31, 3) := by decide +kernel
theorem dX7_countAll_138 : decode cX7_countAll 138 = .ok (.iload_n 3, 1) := by decide +kernel
theorem dX7_countAll_139 : decode cX7_countAll 139 = .ok (.ifCond .eq 27, 3) := by decide +kernel
theorem dX7_countAll_142 : decode cX7_countAll 142 = .ok (.aload_n 0, 1) := by decide +kernel
theorem dX7_countAll_143 : decode cX7_countAll 143 = .ok (.getfield 7, 3) := by decide +kernel
theorem dX7_countAll_146 : decode cX7_countAll 146 = .ok (.iconst 1, 1) := by decide +kernel
theorem dX7_countAll_147 : decode cX7_countAll 147 = .ok (.iaload, 1) := by decide +kernel
theorem dX7_countAll_148 : decode cX7_countAll 148 = .ok (.aload_n 0, 1) := by decide +kernel
theorem dX7_countAll_149 : decode cX7_countAll 149 = .ok (.iconst 0, 1) := by decide +kernel
theorem dX7_countAll_150 : decode cX7_countAll 150 = .ok (.invokevirtual 66, 3) := by decide +kernel
theorem dX7_countAll_153 : decode cX7_countAll 153 = .ok (.aload_n 0, 1) := by decide +kernel
theorem dX7_countAll_154 : decode cX7_countAll 154 = .ok (.iconst 1, 1) := by decide +kernel
theorem dX7_countAll_155 : decode cX7_countAll 155 = .ok (.invokevirtual 66, 3) := by decide +kernel
theorem dX7_countAll_158 : decode cX7_countAll 158 = .ok (.iadd, 1) := by decide +kernel
theorem dX7_countAll_159 : decode cX7_countAll 159 = .ok (.if_icmp .le 7, 3) := by decide +kernel
theorem dX7_countAll_162 : decode cX7_countAll 162 = .ok (.iconst 1, 1) := by decide +kernel
theorem dX7_countAll_163 : decode cX7_countAll 163 = .ok (.goto 4, 3) := by decide +kernel
theorem dX7_countAll_166 : decode cX7_countAll 166 = .ok (.iconst 0, 1) := by decide +kernel
theorem dX7_countAll_167 : decode cX7_countAll 167 = .ok (.invokevirtual 171, 3) := by decide +kernel
theorem dX7_countAll_170 : decode cX7_countAll 170 = .ok (.aload_n 0, 1) := by decide +kernel
theorem dX7_countAll_171 : decode cX7_countAll 171 = .ok (.bipush 12, 2) := by decide +kernel
theorem dX7_countAll_173 : decode cX7_countAll 173 = .ok (.iload 4, 2) := by decide +kernel
theorem dX7_countAll_175 : decode cX7_countAll 175 = .ok (.ifCond .eq 26, 3) := by decide +kernel
theorem dX7_countAll_178 : decode cX7_countAll 178 = .ok (.iload_n 3, 1) := by decide +kernel
theorem dX7_countAll_179 : decode cX7_countAll 179 = .ok (.ifCond .eq 22, 3) := by decide +kernel
theorem dX7_countAll_182 : decode cX7_countAll 182 = .ok (.aload_n 0, 1) := by decide +kernel
theorem dX7_countAll_183 : decode cX7_countAll 183 = .ok (.getfield 7, 3) := by decide +kernel
theorem dX7_countAll_186 : decode cX7_countAll 186 = .ok (.iconst 3, 1) := by decide +kernel
theorem dX7_countAll_187 : decode cX7_countAll 187 = .ok (.iaload, 1) := by decide +kernel
theorem dX7_countAll_188 : decode cX7_countAll 188 = .ok (.aload_n 0, 1) := by decide +kernel
theorem dX7_countAll_189 : decode cX7_countAll 189 = .ok (.bipush 7, 2) := by decide +kernel
theorem dX7_countAll_191 : decode cX7_countAll 191 = .ok (.invokevirtual 66, 3) := by decide +kernel
theorem dX7_countAll_194 : decode cX7_countAll 194 = .ok (.if_icmp .ge 7, 3) := by decide +kernel
theorem dX7_countAll_197 : decode cX7_countAll 197 = .ok (.iconst 1, 1) := by decide +kernel
theorem dX7_countAll_198 : decode cX7_countAll 198 = .ok (.goto 4, 3) := by decide +kernel
theorem dX7_countAll_201 : decode cX7_countAll 201 = .ok (.iconst 0, 1) := by decide +kernel
theorem dX7_countAll_202 : decode cX7_countAll 202 = .ok (.invokevirtual 171, 3) := by decide +kernel
theorem dX7_countAll_205 : decode cX7_countAll 205 = .ok (.return_, 1) := by decide +kernel
theorem dX7_beginAnew_0 : decode cX7_beginAnew 0 = .ok (.aload_n 0, 1) := by decide +kernel
theorem dX7_beginAnew_1 : decode cX7_beginAnew 1 = .ok (.getfield 7, 3) := by decide +kernel
theorem dX7_beginAnew_4 : decode cX7_beginAnew 4 = .ok (.bipush 10, 2) := by decide +kernel

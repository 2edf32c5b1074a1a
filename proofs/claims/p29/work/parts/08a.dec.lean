/-! decode rows -/
theorem dX0_init_0 : decode cX0_init 0 = .ok (.aload_n 0, 1) := by decide +kernel
theorem dX0_init_1 : decode cX0_init 1 = .ok (.invokespecial 3, 3) := by decide +kernel
theorem dX0_init_4 : decode cX0_init 4 = .ok (.aload_n 0, 1) := by decide +kernel
theorem dX0_init_5 : decode cX0_init 5 = .ok (.bipush 12, 2) := by decide +kernel
theorem dX0_init_7 : decode cX0_init 7 = .ok (.newarray .int, 2) := by decide +kernel
theorem dX0_init_9 : decode cX0_init 9 = .ok (.putfield 11, 3) := by decide +kernel
theorem dX0_init_12 : decode cX0_init 12 = .ok (.aload_n 0, 1) := by decide +kernel
theorem dX0_init_13 : decode cX0_init 13 = .ok (.bipush 12, 2) := by decide +kernel
theorem dX0_init_15 : decode cX0_init 15 = .ok (.newarray .int, 2) := by decide +kernel
theorem dX0_init_17 : decode cX0_init 17 = .ok (.putfield 15, 3) := by decide +kernel
theorem dX0_init_20 : decode cX0_init 20 = .ok (.aload_n 0, 1) := by decide +kernel
theorem dX0_init_21 : decode cX0_init 21 = .ok (.bipush 12, 2) := by decide +kernel
theorem dX0_init_23 : decode cX0_init 23 = .ok (.newarray .int, 2) := by decide +kernel
theorem dX0_init_25 : decode cX0_init 25 = .ok (.putfield 18, 3) := by decide +kernel
theorem dX0_init_28 : decode cX0_init 28 = .ok (.aload_n 0, 1) := by decide +kernel
theorem dX0_init_29 : decode cX0_init 29 = .ok (.bipush 8, 2) := by decide +kernel
theorem dX0_init_31 : decode cX0_init 31 = .ok (.newarray .int, 2) := by decide +kernel
theorem dX0_init_33 : decode cX0_init 33 = .ok (.putfield 21, 3) := by decide +kernel
theorem dX0_init_36 : decode cX0_init 36 = .ok (.return_, 1) := by decide +kernel
theorem dX0_copyFrom_0 : decode cX0_copyFrom 0 = .ok (.aload_n 1, 1) := by decide +kernel
theorem dX0_copyFrom_1 : decode cX0_copyFrom 1 = .ok (.getfield 11, 3) := by decide +kernel
theorem dX0_copyFrom_4 : decode cX0_copyFrom 4 = .ok (.iconst 0, 1) := by decide +kernel
theorem dX0_copyFrom_5 : decode cX0_copyFrom 5 = .ok (.aload_n 0, 1) := by decide +kernel
theorem dX0_copyFrom_6 : decode cX0_copyFrom 6 = .ok (.getfield 11, 3) := by decide +kernel
theorem dX0_copyFrom_9 : decode cX0_copyFrom 9 = .ok (.iconst 0, 1) := by decide +kernel
theorem dX0_copyFrom_10 : decode cX0_copyFrom 10 = .ok (.bipush 12, 2) := by decide +kernel
theorem dX0_copyFrom_12 : decode cX0_copyFrom 12 = .ok (.invokestatic 24, 3) := by decide +kernel
theorem dX0_copyFrom_15 : decode cX0_copyFrom 15 = .ok (.aload_n 1, 1) := by decide +kernel
theorem dX0_copyFrom_16 : decode cX0_copyFrom 16 = .ok (.getfield 15, 3) := by decide +kernel
theorem dX0_copyFrom_19 : decode cX0_copyFrom 19 = .ok (.iconst 0, 1) := by decide +kernel
theorem dX0_copyFrom_20 : decode cX0_copyFrom 20 = .ok (.aload_n 0, 1) := by decide +kernel
theorem dX0_copyFrom_21 : decode cX0_copyFrom 21 = .ok (.getfield 15, 3) := by decide +kernel
theorem dX0_copyFrom_24 : decode cX0_copyFrom 24 = .ok (.iconst 0, 1) := by decide +kernel
theorem dX0_copyFrom_25 : decode cX0_copyFrom 25 = .ok (.bipush 12, 2) := by decide +kernel
theorem dX0_copyFrom_27 : decode cX0_copyFrom 27 = .ok (.invokestatic 24, 3) := by decide +kernel
theorem dX0_copyFrom_30 : decode cX0_copyFrom 30 = .ok (.aload_n 1, 1) := by decide +kernel
theorem dX0_copyFrom_31 : decode cX0_copyFrom 31 = .ok (.getfield 18, 3) := by decide +kernel
theorem dX0_copyFrom_34 : decode cX0_copyFrom 34 = .ok (.iconst 0, 1) := by decide +kernel
theorem dX0_copyFrom_35 : decode cX0_copyFrom 35 = .ok (.aload_n 0, 1) := by decide +kernel
theorem dX0_copyFrom_36 : decode cX0_copyFrom 36 = .ok (.getfield 18, 3) := by decide +kernel
theorem dX0_copyFrom_39 : decode cX0_copyFrom 39 = .ok (.iconst 0, 1) := by decide +kernel
theorem dX0_copyFrom_40 : decode cX0_copyFrom 40 = .ok (.bipush 12, 2) := by decide +kernel
theorem dX0_copyFrom_42 : decode cX0_copyFrom 42 = .ok (.invokestatic 24, 3) := by decide +kernel
theorem dX0_copyFrom_45 : decode cX0_copyFrom 45 = .ok (.aload_n 1, 1) := by decide +kernel
theorem dX0_copyFrom_46 : decode cX0_copyFrom 46 = .ok (.getfield 21, 3) := by decide +kernel
theorem dX0_copyFrom_49 : decode cX0_copyFrom 49 = .ok (.iconst 0, 1) := by decide +kernel
theorem dX0_copyFrom_50 : decode cX0_copyFrom 50 = .ok (.aload_n 0, 1) := by decide +kernel
theorem dX0_copyFrom_51 : decode cX0_copyFrom 51 = .ok (.getfield 21, 3) := by decide +kernel
theorem dX0_copyFrom_54 : decode cX0_copyFrom 54 = .ok (.iconst 0, 1) := by decide +kernel
theorem dX0_copyFrom_55 : decode cX0_copyFrom 55 = .ok (.bipush 8, 2) := by decide +kernel
theorem dX0_copyFrom_57 : decode cX0_copyFrom 57 = .ok (.invokestatic 24, 3) := by decide +kernel
theorem dX0_copyFrom_60 : decode cX0_copyFrom 60 = .ok (.aload_n 0, 1) := by decide +kernel
theorem dX0_copyFrom_61 : decode cX0_copyFrom 61 = .ok (.aload_n 1, 1) := by decide +kernel
theorem dX0_copyFrom_62 : decode cX0_copyFrom 62 = .ok (.getfield 30, 3) := by decide +kernel
theorem dX0_copyFrom_65 : decode cX0_copyFrom 65 = .ok (.putfield 30, 3) := by decide +kernel
theorem dX0_copyFrom_68 : decode cX0_copyFrom 68 = .ok (.return_, 1) := by decide +kernel
theorem dX0_add_0 : decode cX0_add 0 = .ok (.iload_n 1, 1) := by decide +kernel
theorem dX0_add_1 : decode cX0_add 1 = .ok (.ifCond .lt 16, 3) := by decide +kernel
theorem dX0_add_4 : decode cX0_add 4 = .ok (.iload_n 1, 1) := by decide +kernel
theorem dX0_add_5 : decode cX0_add 5 = .ok (.bipush 8, 2) := by decide +kernel
theorem dX0_add_7 : decode cX0_add 7 = .ok (.if_icmp .ge 10, 3) := by decide +kernel
theorem dX0_add_10 : decode cX0_add 10 = .ok (.aload_n 0, 1) := by decide +kernel
theorem dX0_add_11 : decode cX0_add 11 = .ok (.getfield 30, 3) := by decide +kernel
theorem dX0_add_14 : decode cX0_add 14 = .ok (.ifCond .ge 4, 3) := by decide +kernel
theorem dX0_add_17 : decode cX0_add 17 = .ok (.return_, 1) := by decide +kernel
theorem dX0_add_18 : decode cX0_add 18 = .ok (.aload_n 0, 1) := by decide +kernel
theorem dX0_add_19 : decode cX0_add 19 = .ok (.getfield 30, 3) := by decide +kernel
theorem dX0_add_22 : decode cX0_add 22 = .ok (.bipush 12, 2) := by decide +kernel
theorem dX0_add_24 : decode cX0_add 24 = .ok (.irem, 1) := by decide +kernel
theorem dX0_add_25 : decode cX0_add 25 = .ok (.istore 4, 2) := by decide +kernel
theorem dX0_add_27 : decode cX0_add 27 = .ok (.aload_n 0, 1) := by decide +kernel
theorem dX0_add_28 : decode cX0_add 28 = .ok (.getfield 11, 3) := by decide +kernel
theorem dX0_add_31 : decode cX0_add 31 = .ok (.iload 4, 2) := by decide +kernel
theorem dX0_add_33 : decode cX0_add 33 = .ok (.iload_n 1, 1) := by decide +kernel
theorem dX0_add_34 : decode cX0_add 34 = .ok (.iastore, 1) := by decide +kernel
theorem dX0_add_35 : decode cX0_add 35 = .ok (.aload_n 0, 1) := by decide +kernel
theorem dX0_add_36 : decode cX0_add 36 = .ok (.getfield 15, 3) := by decide +kernel
theorem dX0_add_39 : decode cX0_add 39 = .ok (.iload 4, 2) := by decide +kernel
theorem dX0_add_41 : decode cX0_add 41 = .ok (.iload_n 2, 1) := by decide +kernel
theorem dX0_add_42 : decode cX0_add 42 = .ok (.iastore, 1) := by decide +kernel
theorem dX0_add_43 : decode cX0_add 43 = .ok (.aload_n 0, 1) := by decide +kernel
theorem dX0_add_44 : decode cX0_add 44 = .ok (.getfield 18, 3) := by decide +kernel
theorem dX0_add_47 : decode cX0_add 47 = .ok (.iload 4, 2) := by decide +kernel
theorem dX0_add_49 : decode cX0_add 49 = .ok (.iload_n 3, 1) := by decide +kernel
theorem dX0_add_50 : decode cX0_add 50 = .ok (.iastore, 1) := by decide +kernel
theorem dX0_add_51 : decode cX0_add 51 = .ok (.aload_n 0, 1) := by decide +kernel
theorem dX0_add_52 : decode cX0_add 52 = .ok (.getfield 21, 3) := by decide +kernel
theorem dX0_add_55 : decode cX0_add 55 = .ok (.iload_n 1, 1) := by decide +kernel
theorem dX0_add_56 : decode cX0_add 56 = .ok (.iload_n 2, 1) := by decide +kernel
theorem dX0_add_57 : decode cX0_add 57 = .ok (.iastore, 1) := by decide +kernel
theorem dX0_add_58 : decode cX0_add 58 = .ok (.aload_n 0, 1) := by decide +kernel
theorem dX0_add_59 : decode cX0_add 59 = .ok (.dup, 1) := by decide +kernel
theorem dX0_add_60 : decode cX0_add 60 = .ok (.getfield 30, 3) := by decide +kernel
theorem dX0_add_63 : decode cX0_add 63 = .ok (.iconst 1, 1) := by decide +kernel
theorem dX0_add_64 : decode cX0_add 64 = .ok (.iadd, 1) := by decide +kernel
theorem dX0_add_65 : decode cX0_add 65 = .ok (.putfield 30, 3) := by decide +kernel
theorem dX0_add_68 : decode cX0_add 68 = .ok (.return_, 1) := by decide +kernel
theorem dX0_kept_0 : decode cX0_kept 0 = .ok (.bipush 12, 2) := by decide +kernel
theorem dX0_kept_2 : decode cX0_kept 2 = .ok (.aload_n 0, 1) := by decide +kernel
theorem dX0_kept_3 : decode cX0_kept 3 = .ok (.getfield 30, 3) := by decide +kernel
theorem dX0_kept_6 : decode cX0_kept 6 = .ok (.invokestatic 34, 3) := by decide +kernel
theorem dX0_kept_9 : decode cX0_kept 9 = .ok (.ireturn, 1) := by decide +kernel
theorem dX0_rowOf_0 : decode cX0_rowOf 0 = .ok (.iload_n 1, 1) := by decide +kernel
theorem dX0_rowOf_1 : decode cX0_rowOf 1 = .ok (.ifCond .lt 25, 3) := by decide +kernel
theorem dX0_rowOf_4 : decode cX0_rowOf 4 = .ok (.iload_n 1, 1) := by decide +kernel
theorem dX0_rowOf_5 : decode cX0_rowOf 5 = .ok (.aload_n 0, 1) := by decide +kernel
theorem dX0_rowOf_6 : decode cX0_rowOf 6 = .ok (.invokevirtual 40, 3) := by decide +kernel
theorem dX0_rowOf_9 : decode cX0_rowOf 9 = .ok (.if_icmp .ge 17, 3) := by decide +kernel
theorem dX0_rowOf_12 : decode cX0_rowOf 12 = .ok (.aload_n 0, 1) := by decide +kernel
theorem dX0_rowOf_13 : decode cX0_rowOf 13 = .ok (.getfield 30, 3) := by decide +kernel
theorem dX0_rowOf_16 : decode cX0_rowOf 16 = .ok (.iconst 1, 1) := by decide +kernel
theorem dX0_rowOf_17 : decode cX0_rowOf 17 = .ok (.isub, 1) := by decide +kernel
theorem dX0_rowOf_18 : decode cX0_rowOf 18 = .ok (.iload_n 1, 1) := by decide +kernel
theorem dX0_rowOf_19 : decode cX0_rowOf 19 = .ok (.isub, 1) := by decide +kernel
theorem dX0_rowOf_20 : decode cX0_rowOf 20 = .ok (.bipush 12, 2) := by decide +kernel
theorem dX0_rowOf_22 : decode cX0_rowOf 22 = .ok (.irem, 1) := by decide +kernel
theorem dX0_rowOf_23 : decode cX0_rowOf 23 = .ok (.goto 4, 3) := by decide +kernel
theorem dX0_rowOf_26 : decode cX0_rowOf 26 = .ok (.iconst (-1), 1) := by decide +kernel
theorem dX0_rowOf_27 : decode cX0_rowOf 27 = .ok (.ireturn, 1) := by decide +kernel
theorem dX1_init_0 : decode cX1_init 0 = .ok (.aload_n 0, 1) := by decide +kernel
theorem dX1_init_1 : decode cX1_init 1 = .ok (.invokespecial 1, 3) := by decide +kernel
theorem dX1_init_4 : decode cX1_init 4 = .ok (.aload_n 0, 1) := by decide +kernel
theorem dX1_init_5 : decode cX1_init 5 = .ok (.bipush 7, 2) := by decide +kernel
theorem dX1_init_7 : decode cX1_init 7 = .ok (.newarray .int, 2) := by decide +kernel
theorem dX1_init_9 : decode cX1_init 9 = .ok (.putfield 9, 3) := by decide +kernel
theorem dX1_init_12 : decode cX1_init 12 = .ok (.return_, 1) := by decide +kernel
theorem dX1_copyFrom_0 : decode cX1_copyFrom 0 = .ok (.aload_n 1, 1) := by decide +kernel
theorem dX1_copyFrom_1 : decode cX1_copyFrom 1 = .ok (.getfield 9, 3) := by decide +kernel
theorem dX1_copyFrom_4 : decode cX1_copyFrom 4 = .ok (.iconst 0, 1) := by decide +kernel
theorem dX1_copyFrom_5 : decode cX1_copyFrom 5 = .ok (.aload_n 0, 1) := by decide +kernel
theorem dX1_copyFrom_6 : decode cX1_copyFrom 6 = .ok (.getfield 9, 3) := by decide +kernel
theorem dX1_copyFrom_9 : decode cX1_copyFrom 9 = .ok (.iconst 0, 1) := by decide +kernel
theorem dX1_copyFrom_10 : decode cX1_copyFrom 10 = .ok (.bipush 7, 2) := by decide +kernel
theorem dX1_copyFrom_12 : decode cX1_copyFrom 12 = .ok (.invokestatic 13, 3) := by decide +kernel
theorem dX1_copyFrom_15 : decode cX1_copyFrom 15 = .ok (.aload_n 0, 1) := by decide +kernel
theorem dX1_copyFrom_16 : decode cX1_copyFrom 16 = .ok (.aload_n 1, 1) := by decide +kernel
theorem dX1_copyFrom_17 : decode cX1_copyFrom 17 = .ok (.getfield 19, 3) := by decide +kernel
theorem dX1_copyFrom_20 : decode cX1_copyFrom 20 = .ok (.putfield 19, 3) := by decide +kernel
theorem dX1_copyFrom_23 : decode cX1_copyFrom 23 = .ok (.aload_n 0, 1) := by decide +kernel
theorem dX1_copyFrom_24 : decode cX1_copyFrom 24 = .ok (.aload_n 1, 1) := by decide +kernel
theorem dX1_copyFrom_25 : decode cX1_copyFrom 25 = .ok (.getfield 23, 3) := by decide +kernel
theorem dX1_copyFrom_28 : decode cX1_copyFrom 28 = .ok (.putfield 23, 3) := by decide +kernel
theorem dX1_copyFrom_31 : decode cX1_copyFrom 31 = .ok (.aload_n 0, 1) := by decide +kernel
theorem dX1_copyFrom_32 : decode cX1_copyFrom 32 = .ok (.aload_n 1, 1) := by decide +kernel
theorem dX1_copyFrom_33 : decode cX1_copyFrom 33 = .ok (.getfield 26, 3) := by decide +kernel
theorem dX1_copyFrom_36 : decode cX1_copyFrom 36 = .ok (.putfield 26, 3) := by decide +kernel
theorem dX1_copyFrom_39 : decode cX1_copyFrom 39 = .ok (.return_, 1) := by decide +kernel
theorem dX1_tellLeak_0 : decode cX1_tellLeak 0 = .ok (.aload_n 0, 1) := by decide +kernel
theorem dX1_tellLeak_1 : decode cX1_tellLeak 1 = .ok (.getfield 19, 3) := by decide +kernel
theorem dX1_tellLeak_4 : decode cX1_tellLeak 4 = .ok (.iconst 3, 1) := by decide +kernel
theorem dX1_tellLeak_5 : decode cX1_tellLeak 5 = .ok (.if_icmp .lt 20, 3) := by decide +kernel
theorem dX1_tellLeak_8 : decode cX1_tellLeak 8 = .ok (.aload_n 0, 1) := by decide +kernel
theorem dX1_tellLeak_9 : decode cX1_tellLeak 9 = .ok (.getfield 23, 3) := by decide +kernel
theorem dX1_tellLeak_12 : decode cX1_tellLeak 12 = .ok (.aload_n 0, 1) := by decide +kernel
theorem dX1_tellLeak_13 : decode cX1_tellLeak 13 = .ok (.invokevirtual 29, 3) := by decide +kernel
theorem dX1_tellLeak_16 : decode cX1_tellLeak 16 = .ok (.iload_n 1, 1) := by decide +kernel
theorem dX1_tellLeak_17 : decode cX1_tellLeak 17 = .ok (.iadd, 1) := by decide +kernel
theorem dX1_tellLeak_18 : decode cX1_tellLeak 18 = .ok (.if_icmp .le 7, 3) := by decide +kernel
theorem dX1_tellLeak_21 : decode cX1_tellLeak 21 = .ok (.iconst 1, 1) := by decide +kernel
theorem dX1_tellLeak_22 : decode cX1_tellLeak 22 = .ok (.goto 4, 3) := by decide +kernel
theorem dX1_tellLeak_25 : decode cX1_tellLeak 25 = .ok (.iconst 0, 1) := by decide +kernel
theorem dX1_tellLeak_26 : decode cX1_tellLeak 26 = .ok (.ireturn, 1) := by decide +kernel
theorem dX1_middle_0 : decode cX1_middle 0 = .ok (.iconst 0, 1) := by decide +kernel
theorem dX1_middle_1 : decode cX1_middle 1 = .ok (.istore_n 1, 1) := by decide +kernel
theorem dX1_middle_2 : decode cX1_middle 2 = .ok (.iload_n 1, 1) := by decide +kernel
theorem dX1_middle_3 : decode cX1_middle 3 = .ok (.aload_n 0, 1) := by decide +kernel
theorem dX1_middle_4 : decode cX1_middle 4 = .ok (.getfield 19, 3) := by decide +kernel
theorem dX1_middle_7 : decode cX1_middle 7 = .ok (.if_icmp .ge 101, 3) := by decide +kernel
theorem dX1_middle_10 : decode cX1_middle 10 = .ok (.iconst 0, 1) := by decide +kernel
theorem dX1_middle_11 : decode cX1_middle 11 = .ok (.istore_n 2, 1) := by decide +kernel
theorem dX1_middle_12 : decode cX1_middle 12 = .ok (.iconst 0, 1) := by decide +kernel
theorem dX1_middle_13 : decode cX1_middle 13 = .ok (.istore_n 3, 1) := by decide +kernel
theorem dX1_middle_14 : decode cX1_middle 14 = .ok (.iload_n 3, 1) := by decide +kernel
theorem dX1_middle_15 : decode cX1_middle 15 = .ok (.aload_n 0, 1) := by decide +kernel
theorem dX1_middle_16 : decode cX1_middle 16 = .ok (.getfield 19, 3) := by decide +kernel
theorem dX1_middle_19 : decode cX1_middle 19 = .ok (.if_icmp .ge 64, 3) := by decide +kernel
theorem dX1_middle_22 : decode cX1_middle 22 = .ok (.aload_n 0, 1) := by decide +kernel
theorem dX1_middle_23 : decode cX1_middle 23 = .ok (.getfield 9, 3) := by decide +kernel
theorem dX1_middle_26 : decode cX1_middle 26 = .ok (.iload_n 3, 1) := by decide +kernel
theorem dX1_middle_27 : decode cX1_middle 27 = .ok (.iaload, 1) := by decide +kernel
theorem dX1_middle_28 : decode cX1_middle 28 = .ok (.aload_n 0, 1) := by decide +kernel
theorem dX1_middle_29 : decode cX1_middle 29 = .ok (.getfield 9, 3) := by decide +kernel
theorem dX1_middle_32 : decode cX1_middle 32 = .ok (.iload_n 1, 1) := by decide +kernel
theorem dX1_middle_33 : decode cX1_middle 33 = .ok (.iaload, 1) := by decide +kernel
theorem dX1_middle_34 : decode cX1_middle 34 = .ok (.if_icmp .lt 23, 3) := by decide +kernel
theorem dX1_middle_37 : decode cX1_middle 37 = .ok (.aload_n 0, 1) := by decide +kernel
theorem dX1_middle_38 : decode cX1_middle 38 = .ok (.getfield 9, 3) := by decide +kernel
theorem dX1_middle_41 : decode cX1_middle 41 = .ok (.iload_n 3, 1) := by decide +kernel
theorem dX1_middle_42 : decode cX1_middle 42 = .ok (.iaload, 1) := by decide +kernel
theorem dX1_middle_43 : decode cX1_middle 43 = .ok (.aload_n 0, 1) := by decide +kernel
theorem dX1_middle_44 : decode cX1_middle 44 = .ok (.getfield 9, 3) := by decide +kernel
theorem dX1_middle_47 : decode cX1_middle 47 = .ok (.iload_n 1, 1) := by decide +kernel
theorem dX1_middle_48 : decode cX1_middle 48 = .ok (.iaload, 1) := by decide +kernel
theorem dX1_middle_49 : decode cX1_middle 49 = .ok (.if_icmp .ne 12, 3) := by decide +kernel
theorem dX1_middle_52 : decode cX1_middle 52 = .ok (.iload_n 3, 1) := by decide +kernel
theorem dX1_middle_53 : decode cX1_middle 53 = .ok (.iload_n 1, 1) := by decide +kernel
theorem dX1_middle_54 : decode cX1_middle 54 = .ok (.if_icmp .ge 7, 3) := by decide +kernel
theorem dX1_middle_57 : decode cX1_middle 57 = .ok (.iconst 1, 1) := by decide +kernel
theorem dX1_middle_58 : decode cX1_middle 58 = .ok (.goto 4, 3) := by decide +kernel
theorem dX1_middle_61 : decode cX1_middle 61 = .ok (.iconst 0, 1) := by decide +kernel
theorem dX1_middle_62 : decode cX1_middle 62 = .ok (.istore 4, 2) := by decide +kernel
theorem dX1_middle_64 : decode cX1_middle 64 = .ok (.iload_n 2, 1) := by decide +kernel
theorem dX1_middle_65 : decode cX1_middle 65 = .ok (.iload 4, 2) := by decide +kernel
theorem dX1_middle_67 : decode cX1_middle 67 = .ok (.ifCond .eq 7, 3) := by decide +kernel
theorem dX1_middle_70 : decode cX1_middle 70 = .ok (.iconst 1, 1) := by decide +kernel
theorem dX1_middle_71 : decode cX1_middle 71 = .ok (.goto 4, 3) := by decide +kernel
theorem dX1_middle_74 : decode cX1_middle 74 = .ok (.iconst 0, 1) := by decide +kernel
theorem dX1_middle_75 : decode cX1_middle 75 = .ok (.iadd, 1) := by decide +kernel
theorem dX1_middle_76 : decode cX1_middle 76 = .ok (.istore_n 2, 1) := by decide +kernel
theorem dX1_middle_77 : decode cX1_middle 77 = .ok (.iinc 3 1, 3) := by decide +kernel
theorem dX1_middle_80 : decode cX1_middle 80 = .ok (.goto (-66), 3) := by decide +kernel
theorem dX1_middle_83 : decode cX1_middle 83 = .ok (.iload_n 2, 1) := by decide +kernel
theorem dX1_middle_84 : decode cX1_middle 84 = .ok (.aload_n 0, 1) := by decide +kernel
theorem dX1_middle_85 : decode cX1_middle 85 = .ok (.getfield 19, 3) := by decide +kernel
theorem dX1_middle_88 : decode cX1_middle 88 = .ok (.iconst 1, 1) := by decide +kernel
theorem dX1_middle_89 : decode cX1_middle 89 = .ok (.isub, 1) := by decide +kernel
theorem dX1_middle_90 : decode cX1_middle 90 = .ok (.iconst 2, 1) := by decide +kernel
theorem dX1_middle_91 : decode cX1_middle 91 = .ok (.idiv, 1) := by decide +kernel
theorem dX1_middle_92 : decode cX1_middle 92 = .ok (.if_icmp .ne 10, 3) := by decide +kernel
theorem dX1_middle_95 : decode cX1_middle 95 = .ok (.aload_n 0, 1) := by decide +kernel
theorem dX1_middle_96 : decode cX1_middle 96 = .ok (.getfield 9, 3) := by decide +kernel
theorem dX1_middle_99 : decode cX1_middle 99 = .ok (.iload_n 1, 1) := by decide +kernel
theorem dX1_middle_100 : decode cX1_middle 100 = .ok (.iaload, 1) := by decide +kernel
theorem dX1_middle_101 : decode cX1_middle 101 = .ok (.ireturn, 1) := by decide +kernel
theorem dX1_middle_102 : decode cX1_middle 102 = .ok (.iinc 1 1, 3) := by decide +kernel
theorem dX1_middle_105 : decode cX1_middle 105 = .ok (.goto (-103), 3) := by decide +kernel
theorem dX1_middle_108 : decode cX1_middle 108 = .ok (.iconst 0, 1) := by decide +kernel
theorem dX1_middle_109 : decode cX1_middle 109 = .ok (.ireturn, 1) := by decide +kernel
theorem dX1_note_0 : decode cX1_note 0 = .ok (.bipush 6, 2) := by decide +kernel
theorem dX1_note_2 : decode cX1_note 2 = .ok (.istore_n 1, 1) := by decide +kernel
theorem dX1_note_3 : decode cX1_note 3 = .ok (.iload_n 1, 1) := by decide +kernel
theorem dX1_note_4 : decode cX1_note 4 = .ok (.ifCond .le 23, 3) := by decide +kernel
theorem dX1_note_7 : decode cX1_note 7 = .ok (.aload_n 0, 1) := by decide +kernel
theorem dX1_note_8 : decode cX1_note 8 = .ok (.getfield 9, 3) := by decide +kernel
theorem dX1_note_11 : decode cX1_note 11 = .ok (.iload_n 1, 1) := by decide +kernel
theorem dX1_note_12 : decode cX1_note 12 = .ok (.aload_n 0, 1) := by decide +kernel
theorem dX1_note_13 : decode cX1_note 13 = .ok (.getfield 9, 3) := by decide +kernel
theorem dX1_note_16 : decode cX1_note 16 = .ok (.iload_n 1, 1) := by decide +kernel
theorem dX1_note_17 : decode cX1_note 17 = .ok (.iconst 1, 1) := by decide +kernel
theorem dX1_note_18 : decode cX1_note 18 = .ok (.isub, 1) := by decide +kernel
theorem dX1_note_19 : decode cX1_note 19 = .ok (.iaload, 1) := by decide +kernel
theorem dX1_note_20 : decode cX1_note 20 = .ok (.iastore, 1) := by decide +kernel
theorem dX1_note_21 : decode cX1_note 21 = .ok (.iinc 1 (-1), 3) := by decide +kernel
theorem dX1_note_24 : decode cX1_note 24 = .ok (.goto (-21), 3) := by decide +kernel
theorem dX1_note_27 : decode cX1_note 27 = .ok (.aload_n 0, 1) := by decide +kernel
theorem dX1_note_28 : decode cX1_note 28 = .ok (.getfield 9, 3) := by decide +kernel
theorem dX1_note_31 : decode cX1_note 31 = .ok (.iconst 0, 1) := by decide +kernel
theorem dX1_note_32 : decode cX1_note 32 = .ok (.aload_n 0, 1) := by decide +kernel
theorem dX1_note_33 : decode cX1_note 33 = .ok (.getfield 23, 3) := by decide +kernel
theorem dX1_note_36 : decode cX1_note 36 = .ok (.iastore, 1) := by decide +kernel
theorem dX1_note_37 : decode cX1_note 37 = .ok (.aload_n 0, 1) := by decide +kernel
theorem dX1_note_38 : decode cX1_note 38 = .ok (.bipush 7, 2) := by decide +kernel
theorem dX1_note_40 : decode cX1_note 40 = .ok (.aload_n 0, 1) := by decide +kernel
theorem dX1_note_41 : decode cX1_note 41 = .ok (.getfield 19, 3) := by decide +kernel
theorem dX1_note_44 : decode cX1_note 44 = .ok (.iconst 1, 1) := by decide +kernel
theorem dX1_note_45 : decode cX1_note 45 = .ok (.iadd, 1) := by decide +kernel
theorem dX1_note_46 : decode cX1_note 46 = .ok (.invokestatic 33, 3) := by decide +kernel
theorem dX1_note_49 : decode cX1_note 49 = .ok (.putfield 19, 3) := by decide +kernel
theorem dX1_note_52 : decode cX1_note 52 = .ok (.aload_n 0, 1) := by decide +kernel
theorem dX1_note_53 : decode cX1_note 53 = .ok (.iconst 0, 1) := by decide +kernel
theorem dX1_note_54 : decode cX1_note 54 = .ok (.putfield 23, 3) := by decide +kernel
theorem dX1_note_57 : decode cX1_note 57 = .ok (.return_, 1) := by decide +kernel
theorem dX2_init_0 : decode cX2_init 0 = .ok (.aload_n 0, 1) := by decide +kernel
theorem dX2_init_1 : decode cX2_init 1 = .ok (.invokespecial 1, 3) := by decide +kernel
theorem dX2_init_4 : decode cX2_init 4 = .ok (.aload_n 0, 1) := by decide +kernel
theorem dX2_init_5 : decode cX2_init 5 = .ok (.bipush 60, 2) := by decide +kernel
theorem dX2_init_7 : decode cX2_init 7 = .ok (.newarray .char, 2) := by decide +kernel
theorem dX2_init_9 : decode cX2_init 9 = .ok (.putfield 9, 3) := by decide +kernel
theorem dX2_init_12 : decode cX2_init 12 = .ok (.return_, 1) := by decide +kernel
theorem dX5_init_0 : decode cX5_init 0 = .ok (.aload_n 0, 1) := by decide +kernel
theorem dX5_init_1 : decode cX5_init 1 = .ok (.invokespecial 3, 3) := by decide +kernel
theorem dX5_init_4 : decode cX5_init 4 = .ok (.aload_n 0, 1) := by decide +kernel
theorem dX5_init_5 : decode cX5_init 5 = .ok (.bipush 8, 2) := by decide +kernel
theorem dX5_init_7 : decode cX5_init 7 = .ok (.newarray .int, 2) := by decide +kernel
theorem dX5_init_9 : decode cX5_init 9 = .ok (.putfield 11, 3) := by decide +kernel
theorem dX5_init_12 : decode cX5_init 12 = .ok (.aload_n 0, 1) := by decide +kernel
theorem dX5_init_13 : decode cX5_init 13 = .ok (.bipush 8, 2) := by decide +kernel
theorem dX5_init_15 : decode cX5_init 15 = .ok (.newarray .boolean, 2) := by decide +kernel
theorem dX5_init_17 : decode cX5_init 17 = .ok (.putfield 15, 3) := by decide +kernel
theorem dX5_init_20 : decode cX5_init 20 = .ok (.aload_n 0, 1) := by decide +kernel
theorem dX5_init_21 : decode cX5_init 21 = .ok (.bipush 8, 2) := by decide +kernel
theorem dX5_init_23 : decode cX5_init 23 = .ok (.newarray .int, 2) := by decide +kernel
theorem dX5_init_25 : decode cX5_init 25 = .ok (.putfield 19, 3) := by decide +kernel
theorem dX5_init_28 : decode cX5_init 28 = .ok (.aload_n 0, 1) := by decide +kernel
theorem dX5_init_29 : decode cX5_init 29 = .ok (.bipush 8, 2) := by decide +kernel
theorem dX5_init_31 : decode cX5_init 31 = .ok (.newarray .int, 2) := by decide +kernel
theorem dX5_init_33 : decode cX5_init 33 = .ok (.putfield 22, 3) := by decide +kernel
theorem dX5_init_36 : decode cX5_init 36 = .ok (.aload_n 0, 1) := by decide +kernel
theorem dX5_init_37 : decode cX5_init 37 = .ok (.bipush 8, 2) := by decide +kernel
theorem dX5_init_39 : decode cX5_init 39 = .ok (.newarray .int, 2) := by decide +kernel
theorem dX5_init_41 : decode cX5_init 41 = .ok (.putfield 25, 3) := by decide +kernel
theorem dX5_init_44 : decode cX5_init 44 = .ok (.return_, 1) := by decide +kernel
theorem dX5_copyFrom_0 : decode cX5_copyFrom 0 = .ok (.aload_n 1, 1) := by decide +kernel
theorem dX5_copyFrom_1 : decode cX5_copyFrom 1 = .ok (.getfield 11, 3) := by decide +kernel
theorem dX5_copyFrom_4 : decode cX5_copyFrom 4 = .ok (.iconst 0, 1) := by decide +kernel
theorem dX5_copyFrom_5 : decode cX5_copyFrom 5 = .ok (.aload_n 0, 1) := by decide +kernel
theorem dX5_copyFrom_6 : decode cX5_copyFrom 6 = .ok (.getfield 11, 3) := by decide +kernel
theorem dX5_copyFrom_9 : decode cX5_copyFrom 9 = .ok (.iconst 0, 1) := by decide +kernel
theorem dX5_copyFrom_10 : decode cX5_copyFrom 10 = .ok (.bipush 8, 2) := by decide +kernel
theorem dX5_copyFrom_12 : decode cX5_copyFrom 12 = .ok (.invokestatic 28, 3) := by decide +kernel
theorem dX5_copyFrom_15 : decode cX5_copyFrom 15 = .ok (.aload_n 1, 1) := by decide +kernel
theorem dX5_copyFrom_16 : decode cX5_copyFrom 16 = .ok (.getfield 15, 3) := by decide +kernel
theorem dX5_copyFrom_19 : decode cX5_copyFrom 19 = .ok (.iconst 0, 1) := by decide +kernel
theorem dX5_copyFrom_20 : decode cX5_copyFrom 20 = .ok (.aload_n 0, 1) := by decide +kernel
theorem dX5_copyFrom_21 : decode cX5_copyFrom 21 = .ok (.getfield 15, 3) := by decide +kernel
theorem dX5_copyFrom_24 : decode cX5_copyFrom 24 = .ok (.iconst 0, 1) := by decide +kernel
theorem dX5_copyFrom_25 : decode cX5_copyFrom 25 = .ok (.bipush 8, 2) := by decide +kernel
theorem dX5_copyFrom_27 : decode cX5_copyFrom 27 = .ok (.invokestatic 28, 3) := by decide +kernel
theorem dX5_copyFrom_30 : decode cX5_copyFrom 30 = .ok (.aload_n 0, 1) := by decide +kernel
theorem dX5_copyFrom_31 : decode cX5_copyFrom 31 = .ok (.aload_n 1, 1) := by decide +kernel
theorem dX5_copyFrom_32 : decode cX5_copyFrom 32 = .ok (.getfield 34, 3) := by decide +kernel
theorem dX5_copyFrom_35 : decode cX5_copyFrom 35 = .ok (.putfield 34, 3) := by decide +kernel
theorem dX5_copyFrom_38 : decode cX5_copyFrom 38 = .ok (.aload_n 1, 1) := by decide +kernel
theorem dX5_copyFrom_39 : decode cX5_copyFrom 39 = .ok (.getfield 19, 3) := by decide +kernel
theorem dX5_copyFrom_42 : decode cX5_copyFrom 42 = .ok (.iconst 0, 1) := by decide +kernel
theorem dX5_copyFrom_43 : decode cX5_copyFrom 43 = .ok (.aload_n 0, 1) := by decide +kernel
theorem dX5_copyFrom_44 : decode cX5_copyFrom 44 = .ok (.getfield 19, 3) := by decide +kernel
theorem dX5_copyFrom_47 : decode cX5_copyFrom 47 = .ok (.iconst 0, 1) := by decide +kernel
theorem dX5_copyFrom_48 : decode cX5_copyFrom 48 = .ok (.bipush 8, 2) := by decide +kernel
theorem dX5_copyFrom_50 : decode cX5_copyFrom 50 = .ok (.invokestatic 28, 3) := by decide +kernel
theorem dX5_copyFrom_53 : decode cX5_copyFrom 53 = .ok (.aload_n 1, 1) := by decide +kernel
theorem dX5_copyFrom_54 : decode cX5_copyFrom 54 = .ok (.getfield 22, 3) := by decide +kernel
theorem dX5_copyFrom_57 : decode cX5_copyFrom 57 = .ok (.iconst 0, 1) := by decide +kernel
theorem dX5_copyFrom_58 : decode cX5_copyFrom 58 = .ok (.aload_n 0, 1) := by decide +kernel
theorem dX5_copyFrom_59 : decode cX5_copyFrom 59 = .ok (.getfield 22, 3) := by decide +kernel
theorem dX5_copyFrom_62 : decode cX5_copyFrom 62 = .ok (.iconst 0, 1) := by decide +kernel
theorem dX5_copyFrom_63 : decode cX5_copyFrom 63 = .ok (.bipush 8, 2) := by decide +kernel
theorem dX5_copyFrom_65 : decode cX5_copyFrom 65 = .ok (.invokestatic 28, 3) := by decide +kernel
theorem dX5_copyFrom_68 : decode cX5_copyFrom 68 = .ok (.aload_n 1, 1) := by decide +kernel
theorem dX5_copyFrom_69 : decode cX5_copyFrom 69 = .ok (.getfield 25, 3) := by decide +kernel
theorem dX5_copyFrom_72 : decode cX5_copyFrom 72 = .ok (.iconst 0, 1) := by decide +kernel
theorem dX5_copyFrom_73 : decode cX5_copyFrom 73 = .ok (.aload_n 0, 1) := by decide +kernel
theorem dX5_copyFrom_74 : decode cX5_copyFrom 74 = .ok (.getfield 25, 3) := by decide +kernel
theorem dX5_copyFrom_77 : decode cX5_copyFrom 77 = .ok (.iconst 0, 1) := by decide +kernel
theorem dX5_copyFrom_78 : decode cX5_copyFrom 78 = .ok (.bipush 8, 2) := by decide +kernel
theorem dX5_copyFrom_80 : decode cX5_copyFrom 80 = .ok (.invokestatic 28, 3) := by decide +kernel
theorem dX5_copyFrom_83 : decode cX5_copyFrom 83 = .ok (.aload_n 0, 1) := by decide +kernel
theorem dX5_copyFrom_84 : decode cX5_copyFrom 84 = .ok (.aload_n 1, 1) := by decide +kernel
theorem dX5_copyFrom_85 : decode cX5_copyFrom 85 = .ok (.getfield 38, 3) := by decide +kernel
theorem dX5_copyFrom_88 : decode cX5_copyFrom 88 = .ok (.putfield 38, 3) := by decide +kernel
theorem dX5_copyFrom_91 : decode cX5_copyFrom 91 = .ok (.return_, 1) := by decide +kernel
theorem dX5_add_0 : decode cX5_add 0 = .ok (.aload_n 0, 1) := by decide +kernel
theorem dX5_add_1 : decode cX5_add 1 = .ok (.getfield 34, 3) := by decide +kernel
theorem dX5_add_4 : decode cX5_add 4 = .ok (.bipush 8, 2) := by decide +kernel
theorem dX5_add_6 : decode cX5_add 6 = .ok (.if_icmp .lt 5, 3) := by decide +kernel
theorem dX5_add_9 : decode cX5_add 9 = .ok (.iconst (-1), 1) := by decide +kernel
theorem dX5_add_10 : decode cX5_add 10 = .ok (.ireturn, 1) := by decide +kernel
theorem dX5_add_11 : decode cX5_add 11 = .ok (.aload_n 0, 1) := by decide +kernel
theorem dX5_add_12 : decode cX5_add 12 = .ok (.getfield 11, 3) := by decide +kernel
theorem dX5_add_15 : decode cX5_add 15 = .ok (.aload_n 0, 1) := by decide +kernel
theorem dX5_add_16 : decode cX5_add 16 = .ok (.getfield 34, 3) := by decide +kernel
theorem dX5_add_19 : decode cX5_add 19 = .ok (.iload_n 1, 1) := by decide +kernel
theorem dX5_add_20 : decode cX5_add 20 = .ok (.iastore, 1) := by decide +kernel
theorem dX5_add_21 : decode cX5_add 21 = .ok (.aload_n 0, 1) := by decide +kernel
theorem dX5_add_22 : decode cX5_add 22 = .ok (.dup, 1) := by decide +kernel
theorem dX5_add_23 : decode cX5_add 23 = .ok (.getfield 34, 3) := by decide +kernel
theorem dX5_add_26 : decode cX5_add 26 = .ok (.iconst 1, 1) := by decide +kernel
theorem dX5_add_27 : decode cX5_add 27 = .ok (.iadd, 1) := by decide +kernel
theorem dX5_add_28 : decode cX5_add 28 = .ok (.putfield 34, 3) := by decide +kernel
theorem dX5_add_31 : decode cX5_add 31 = .ok (.aload_n 0, 1) := by decide +kernel
theorem dX5_add_32 : decode cX5_add 32 = .ok (.getfield 34, 3) := by decide +kernel
theorem dX5_add_35 : decode cX5_add 35 = .ok (.iconst 1, 1) := by decide +kernel
theorem dX5_add_36 : decode cX5_add 36 = .ok (.isub, 1) := by decide +kernel
theorem dX5_add_37 : decode cX5_add 37 = .ok (.ireturn, 1) := by decide +kernel
theorem dX5_addProgramme_0 : decode cX5_addProgramme 0 = .ok (.aload_n 0, 1) := by decide +kernel
theorem dX5_addProgramme_1 : decode cX5_addProgramme 1 = .ok (.getfield 38, 3) := by decide +kernel
theorem dX5_addProgramme_4 : decode cX5_addProgramme 4 = .ok (.bipush 8, 2) := by decide +kernel
theorem dX5_addProgramme_6 : decode cX5_addProgramme 6 = .ok (.if_icmp .ge 43, 3) := by decide +kernel
theorem dX5_addProgramme_9 : decode cX5_addProgramme 9 = .ok (.aload_n 0, 1) := by decide +kernel
theorem dX5_addProgramme_10 : decode cX5_addProgramme 10 = .ok (.getfield 19, 3) := by decide +kernel
theorem dX5_addProgramme_13 : decode cX5_addProgramme 13 = .ok (.aload_n 0, 1) := by decide +kernel
theorem dX5_addProgramme_14 : decode cX5_addProgramme 14 = .ok (.getfield 38, 3) := by decide +kernel
theorem dX5_addProgramme_17 : decode cX5_addProgramme 17 = .ok (.iload_n 1, 1) := by decide +kernel
theorem dX5_addProgramme_18 : decode cX5_addProgramme 18 = .ok (.iastore, 1) := by decide +kernel
theorem dX5_addProgramme_19 : decode cX5_addProgramme 19 = .ok (.aload_n 0, 1) := by decide +kernel
theorem dX5_addProgramme_20 : decode cX5_addProgramme 20 = .ok (.getfield 22, 3) := by decide +kernel
theorem dX5_addProgramme_23 : decode cX5_addProgramme 23 = .ok (.aload_n 0, 1) := by decide +kernel
theorem dX5_addProgramme_24 : decode cX5_addProgramme 24 = .ok (.getfield 38, 3) := by decide +kernel
theorem dX5_addProgramme_27 : decode cX5_addProgramme 27 = .ok (.iload_n 2, 1) := by decide +kernel
theorem dX5_addProgramme_28 : decode cX5_addProgramme 28 = .ok (.iastore, 1) := by decide +kernel
theorem dX5_addProgramme_29 : decode cX5_addProgramme 29 = .ok (.aload_n 0, 1) := by decide +kernel
theorem dX5_addProgramme_30 : decode cX5_addProgramme 30 = .ok (.getfield 25, 3) := by decide +kernel
theorem dX5_addProgramme_33 : decode cX5_addProgramme 33 = .ok (.aload_n 0, 1) := by decide +kernel
theorem dX5_addProgramme_34 : decode cX5_addProgramme 34 = .ok (.getfield 38, 3) := by decide +kernel
theorem dX5_addProgramme_37 : decode cX5_addProgramme 37 = .ok (.iload_n 3, 1) := by decide +kernel
theorem dX5_addProgramme_38 : decode cX5_addProgramme 38 = .ok (.iastore, 1) := by decide +kernel
theorem dX5_addProgramme_39 : decode cX5_addProgramme 39 = .ok (.aload_n 0, 1) := by decide +kernel
theorem dX5_addProgramme_40 : decode cX5_addProgramme 40 = .ok (.dup, 1) := by decide +kernel
theorem dX5_addProgramme_41 : decode cX5_addProgramme 41 = .ok (.getfield 38, 3) := by decide +kernel
theorem dX5_addProgramme_44 : decode cX5_addProgramme 44 = .ok (.iconst 1, 1) := by decide +kernel
theorem dX5_addProgramme_45 : decode cX5_addProgramme 45 = .ok (.iadd, 1) := by decide +kernel
theorem dX5_addProgramme_46 : decode cX5_addProgramme 46 = .ok (.putfield 38, 3) := by decide +kernel
theorem dX5_addProgramme_49 : decode cX5_addProgramme 49 = .ok (.aload_n 0, 1) := by decide +kernel
theorem dX5_addProgramme_50 : decode cX5_addProgramme 50 = .ok (.getfield 38, 3) := by decide +kernel
theorem dX5_addProgramme_53 : decode cX5_addProgramme 53 = .ok (.ireturn, 1) := by decide +kernel
theorem dX5_has_0 : decode cX5_has 0 = .ok (.iload_n 1, 1) := by decide +kernel
theorem dX5_has_1 : decode cX5_has 1 = .ok (.ifCond .lt 15, 3) := by decide +kernel
theorem dX5_has_4 : decode cX5_has 4 = .ok (.iload_n 1, 1) := by decide +kernel
theorem dX5_has_5 : decode cX5_has 5 = .ok (.aload_n 0, 1) := by decide +kernel
theorem dX5_has_6 : decode cX5_has 6 = .ok (.getfield 34, 3) := by decide +kernel
theorem dX5_has_9 : decode cX5_has 9 = .ok (.if_icmp .ge 7, 3) := by decide +kernel
theorem dX5_has_12 : decode cX5_has 12 = .ok (.iconst 1, 1) := by decide +kernel
theorem dX5_has_13 : decode cX5_has 13 = .ok (.goto 4, 3) := by decide +kernel
theorem dX5_has_16 : decode cX5_has 16 = .ok (.iconst 0, 1) := by decide +kernel
theorem dX5_has_17 : decode cX5_has 17 = .ok (.ireturn, 1) := by decide +kernel
theorem dX5_openOnes_0 : decode cX5_openOnes 0 = .ok (.iconst 0, 1) := by decide +kernel
theorem dX5_openOnes_1 : decode cX5_openOnes 1 = .ok (.istore_n 1, 1) := by decide +kernel
theorem dX5_openOnes_2 : decode cX5_openOnes 2 = .ok (.iconst 0, 1) := by decide +kernel
theorem dX5_openOnes_3 : decode cX5_openOnes 3 = .ok (.istore_n 2, 1) := by decide +kernel
theorem dX5_openOnes_4 : decode cX5_openOnes 4 = .ok (.iload_n 2, 1) := by decide +kernel
theorem dX5_openOnes_5 : decode cX5_openOnes 5 = .ok (.aload_n 0, 1) := by decide +kernel
theorem dX5_openOnes_6 : decode cX5_openOnes 6 = .ok (.getfield 34, 3) := by decide +kernel
theorem dX5_openOnes_9 : decode cX5_openOnes 9 = .ok (.if_icmp .ge 26, 3) := by decide +kernel
theorem dX5_openOnes_12 : decode cX5_openOnes 12 = .ok (.iload_n 1, 1) := by decide +kernel
theorem dX5_openOnes_13 : decode cX5_openOnes 13 = .ok (.aload_n 0, 1) := by decide +kernel
theorem dX5_openOnes_14 : decode cX5_openOnes 14 = .ok (.getfield 15, 3) := by decide +kernel
theorem dX5_openOnes_17 : decode cX5_openOnes 17 = .ok (.iload_n 2, 1) := by decide +kernel
theorem dX5_openOnes_18 : decode cX5_openOnes 18 = .ok (.baload, 1) := by decide +kernel
theorem dX5_openOnes_19 : decode cX5_openOnes 19 = .ok (.ifCond .eq 7, 3) := by decide +kernel
theorem dX5_openOnes_22 : decode cX5_openOnes 22 = .ok (.iconst 1, 1) := by decide +kernel
theorem dX5_openOnes_23 : decode cX5_openOnes 23 = .ok (.goto 4, 3) := by decide +kernel
theorem dX5_openOnes_26 : decode cX5_openOnes 26 = .ok (.iconst 0, 1) := by decide +kernel
theorem dX5_openOnes_27 : decode cX5_openOnes 27 = .ok (.iadd, 1) := by decide +kernel
theorem dX5_openOnes_28 : decode cX5_openOnes 28 = .ok (.istore_n 1, 1) := by decide +kernel
theorem dX5_openOnes_29 : decode cX5_openOnes 29 = .ok (.iinc 2 1, 3) := by decide +kernel
theorem dX5_openOnes_32 : decode cX5_openOnes 32 = .ok (.goto (-28), 3) := by decide +kernel
theorem dX5_openOnes_35 : decode cX5_openOnes 35 = .ok (.iload_n 1, 1) := by decide +kernel
theorem dX5_openOnes_36 : decode cX5_openOnes 36 = .ok (.ireturn, 1) := by decide +kernel
theorem dX5_programmesOf_0 : decode cX5_programmesOf 0 = .ok (.iconst 0, 1) := by decide +kernel
theorem dX5_programmesOf_1 : decode cX5_programmesOf 1 = .ok (.istore_n 2, 1) := by decide +kernel
theorem dX5_programmesOf_2 : decode cX5_programmesOf 2 = .ok (.iconst 0, 1) := by decide +kernel
theorem dX5_programmesOf_3 : decode cX5_programmesOf 3 = .ok (.istore_n 3, 1) := by decide +kernel
theorem dX5_programmesOf_4 : decode cX5_programmesOf 4 = .ok (.iload_n 3, 1) := by decide +kernel
theorem dX5_programmesOf_5 : decode cX5_programmesOf 5 = .ok (.aload_n 0, 1) := by decide +kernel
theorem dX5_programmesOf_6 : decode cX5_programmesOf 6 = .ok (.getfield 38, 3) := by decide +kernel
theorem dX5_programmesOf_9 : decode cX5_programmesOf 9 = .ok (.if_icmp .ge 27, 3) := by decide +kernel
theorem dX5_programmesOf_12 : decode cX5_programmesOf 12 = .ok (.iload_n 2, 1) := by decide +kernel
theorem dX5_programmesOf_13 : decode cX5_programmesOf 13 = .ok (.aload_n 0, 1) := by decide +kernel
theorem dX5_programmesOf_14 : decode cX5_programmesOf 14 = .ok (.getfield 19, 3) := by decide +kernel
theorem dX5_programmesOf_17 : decode cX5_programmesOf 17 = .ok (.iload_n 3, 1) := by decide +kernel
theorem dX5_programmesOf_18 : decode cX5_programmesOf 18 = .ok (.iaload, 1) := by decide +kernel
theorem dX5_programmesOf_19 : decode cX5_programmesOf 19 = .ok (.iload_n 1, 1) := by decide +kernel
theorem dX5_programmesOf_20 : decode cX5_programmesOf 20 = .ok (.if_icmp .ne 7, 3) := by decide +kernel
theorem dX5_programmesOf_23 : decode cX5_programmesOf 23 = .ok (.iconst 1, 1) := by decide +kernel
theorem dX5_programmesOf_24 : decode cX5_programmesOf 24 = .ok (.goto 4, 3) := by decide +kernel
theorem dX5_programmesOf_27 : decode cX5_programmesOf 27 = .ok (.iconst 0, 1) := by decide +kernel
theorem dX5_programmesOf_28 : decode cX5_programmesOf 28 = .ok (.iadd, 1) := by decide +kernel
theorem dX5_programmesOf_29 : decode cX5_programmesOf 29 = .ok (.istore_n 2, 1) := by decide +kernel
theorem dX5_programmesOf_30 : decode cX5_programmesOf 30 = .ok (.iinc 3 1, 3) := by decide +kernel
theorem dX5_programmesOf_33 : decode cX5_programmesOf 33 = .ok (.goto (-29), 3) := by decide +kernel
theorem dX5_programmesOf_36 : decode cX5_programmesOf 36 = .ok (.iload_n 2, 1) := by decide +kernel
theorem dX5_programmesOf_37 : decode cX5_programmesOf 37 = .ok (.ireturn, 1) := by decide +kernel
theorem dX5_takenBy_0 : decode cX5_takenBy 0 = .ok (.aload_n 0, 1) := by decide +kernel
theorem dX5_takenBy_1 : decode cX5_takenBy 1 = .ok (.getfield 15, 3) := by decide +kernel
theorem dX5_takenBy_4 : decode cX5_takenBy 4 = .ok (.iload_n 1, 1) := by decide +kernel
theorem dX5_takenBy_5 : decode cX5_takenBy 5 = .ok (.baload, 1) := by decide +kernel
theorem dX5_takenBy_6 : decode cX5_takenBy 6 = .ok (.ifCond .eq 18, 3) := by decide +kernel
theorem dX5_takenBy_9 : decode cX5_takenBy 9 = .ok (.aload_n 0, 1) := by decide +kernel
theorem dX5_takenBy_10 : decode cX5_takenBy 10 = .ok (.getfield 11, 3) := by decide +kernel
theorem dX5_takenBy_13 : decode cX5_takenBy 13 = .ok (.iload_n 1, 1) := by decide +kernel
theorem dX5_takenBy_14 : decode cX5_takenBy 14 = .ok (.iaload, 1) := by decide +kernel
theorem dX5_takenBy_15 : decode cX5_takenBy 15 = .ok (.iload_n 2, 1) := by decide +kernel
theorem dX5_takenBy_16 : decode cX5_takenBy 16 = .ok (.imul, 1) := by decide +kernel
theorem dX5_takenBy_17 : decode cX5_takenBy 17 = .ok (.sipush 400, 3) := by decide +kernel
theorem dX5_takenBy_20 : decode cX5_takenBy 20 = .ok (.idiv, 1) := by decide +kernel
theorem dX5_takenBy_21 : decode cX5_takenBy 21 = .ok (.goto 4, 3) := by decide +kernel
theorem dX5_takenBy_24 : decode cX5_takenBy 24 = .ok (.iconst 0, 1) := by decide +kernel
theorem dX5_takenBy_25 : decode cX5_takenBy 25 = .ok (.ireturn, 1) := by decide +kernel
theorem dX5_taken_0 : decode cX5_taken 0 = .ok (.iconst 0, 1) := by decide +kernel
theorem dX5_taken_1 : decode cX5_taken 1 = .ok (.istore_n 2, 1) := by decide +kernel
theorem dX5_taken_2 : decode cX5_taken 2 = .ok (.iconst 0, 1) := by decide +kernel
theorem dX5_taken_3 : decode cX5_taken 3 = .ok (.istore_n 3, 1) := by decide +kernel
theorem dX5_taken_4 : decode cX5_taken 4 = .ok (.iload_n 3, 1) := by decide +kernel
theorem dX5_taken_5 : decode cX5_taken 5 = .ok (.aload_n 0, 1) := by decide +kernel
theorem dX5_taken_6 : decode cX5_taken 6 = .ok (.getfield 34, 3) := by decide +kernel
theorem dX5_taken_9 : decode cX5_taken 9 = .ok (.if_icmp .ge 18, 3) := by decide +kernel
theorem dX5_taken_12 : decode cX5_taken 12 = .ok (.iload_n 2, 1) := by decide +kernel
theorem dX5_taken_13 : decode cX5_taken 13 = .ok (.aload_n 0, 1) := by decide +kernel
theorem dX5_taken_14 : decode cX5_taken 14 = .ok (.iload_n 3, 1) := by decide +kernel
theorem dX5_taken_15 : decode cX5_taken 15 = .ok (.iload_n 1, 1) := by decide +kernel
theorem dX5_taken_16 : decode cX5_taken 16 = .ok (.invokevirtual 41, 3) := by decide +kernel
theorem dX5_taken_19 : decode cX5_taken 19 = .ok (.iadd, 1) := by decide +kernel
theorem dX5_taken_20 : decode cX5_taken 20 = .ok (.istore_n 2, 1) := by decide +kernel
theorem dX5_taken_21 : decode cX5_taken 21 = .ok (.iinc 3 1, 3) := by decide +kernel
theorem dX5_taken_24 : decode cX5_taken 24 = .ok (.goto (-20), 3) := by decide +kernel
theorem dX5_taken_27 : decode cX5_taken 27 = .ok (.iload_n 2, 1) := by decide +kernel
theorem dX5_taken_28 : decode cX5_taken 28 = .ok (.ireturn, 1) := by decide +kernel
theorem dX5_keepProgrammes_0 : decode cX5_keepProgrammes 0 = .ok (.iconst 0, 1) := by decide +kernel
theorem dX5_keepProgrammes_1 : decode cX5_keepProgrammes 1 = .ok (.istore_n 2, 1) := by decide +kernel
theorem dX5_keepProgrammes_2 : decode cX5_keepProgrammes 2 = .ok (.iload_n 2, 1) := by decide +kernel
theorem dX5_keepProgrammes_3 : decode cX5_keepProgrammes 3 = .ok (.aload_n 0, 1) := by decide +kernel
theorem dX5_keepProgrammes_4 : decode cX5_keepProgrammes 4 = .ok (.getfield 38, 3) := by decide +kernel
theorem dX5_keepProgrammes_7 : decode cX5_keepProgrammes 7 = .ok (.if_icmp .ge 64, 3) := by decide +kernel
theorem dX5_keepProgrammes_10 : decode cX5_keepProgrammes 10 = .ok (.aload_n 0, 1) := by decide +kernel
theorem dX5_keepProgrammes_11 : decode cX5_keepProgrammes 11 = .ok (.getfield 19, 3) := by decide +kernel
theorem dX5_keepProgrammes_14 : decode cX5_keepProgrammes 14 = .ok (.iload_n 2, 1) := by decide +kernel
theorem dX5_keepProgrammes_15 : decode cX5_keepProgrammes 15 = .ok (.iaload, 1) := by decide +kernel
theorem dX5_keepProgrammes_16 : decode cX5_keepProgrammes 16 = .ok (.istore_n 3, 1) := by decide +kernel
theorem dX5_keepProgrammes_17 : decode cX5_keepProgrammes 17 = .ok (.aload_n 0, 1) := by decide +kernel
theorem dX5_keepProgrammes_18 : decode cX5_keepProgrammes 18 = .ok (.iload_n 3, 1) := by decide +kernel
theorem dX5_keepProgrammes_19 : decode cX5_keepProgrammes 19 = .ok (.invokevirtual 45, 3) := by decide +kernel
theorem dX5_keepProgrammes_22 : decode cX5_keepProgrammes 22 = .ok (.ifCond .ne 6, 3) := by decide +kernel
theorem dX5_keepProgrammes_25 : decode cX5_keepProgrammes 25 = .ok (.goto 40, 3) := by decide +kernel
theorem dX5_keepProgrammes_28 : decode cX5_keepProgrammes 28 = .ok (.aload_n 0, 1) := by decide +kernel
theorem dX5_keepProgrammes_29 : decode cX5_keepProgrammes 29 = .ok (.getfield 22, 3) := by decide +kernel
theorem dX5_keepProgrammes_32 : decode cX5_keepProgrammes 32 = .ok (.iload_n 2, 1) := by decide +kernel
theorem dX5_keepProgrammes_33 : decode cX5_keepProgrammes 33 = .ok (.iaload, 1) := by decide +kernel
theorem dX5_keepProgrammes_34 : decode cX5_keepProgrammes 34 = .ok (.iload_n 1, 1) := by decide +kernel
theorem dX5_keepProgrammes_35 : decode cX5_keepProgrammes 35 = .ok (.if_icmp .ne 13, 3) := by decide +kernel
theorem dX5_keepProgrammes_38 : decode cX5_keepProgrammes 38 = .ok (.aload_n 0, 1) := by decide +kernel
theorem dX5_keepProgrammes_39 : decode cX5_keepProgrammes 39 = .ok (.getfield 15, 3) := by decide +kernel
theorem dX5_keepProgrammes_42 : decode cX5_keepProgrammes 42 = .ok (.iload_n 3, 1) := by decide +kernel
theorem dX5_keepProgrammes_43 : decode cX5_keepProgrammes 43 = .ok (.iconst 1, 1) := by decide +kernel
theorem dX5_keepProgrammes_44 : decode cX5_keepProgrammes 44 = .ok (.bastore, 1) := by decide +kernel
theorem dX5_keepProgrammes_45 : decode cX5_keepProgrammes 45 = .ok (.goto 20, 3) := by decide +kernel
theorem dX5_keepProgrammes_48 : decode cX5_keepProgrammes 48 = .ok (.aload_n 0, 1) := by decide +kernel
theorem dX5_keepProgrammes_49 : decode cX5_keepProgrammes 49 = .ok (.getfield 25, 3) := by decide +kernel
theorem dX5_keepProgrammes_52 : decode cX5_keepProgrammes 52 = .ok (.iload_n 2, 1) := by decide +kernel
theorem dX5_keepProgrammes_53 : decode cX5_keepProgrammes 53 = .ok (.iaload, 1) := by decide +kernel
theorem dX5_keepProgrammes_54 : decode cX5_keepProgrammes 54 = .ok (.iload_n 1, 1) := by decide +kernel
theorem dX5_keepProgrammes_55 : decode cX5_keepProgrammes 55 = .ok (.if_icmp .ne 10, 3) := by decide +kernel
theorem dX5_keepProgrammes_58 : decode cX5_keepProgrammes 58 = .ok (.aload_n 0, 1) := by decide +kernel
theorem dX5_keepProgrammes_59 : decode cX5_keepProgrammes 59 = .ok (.getfield 15, 3) := by decide +kernel
theorem dX5_keepProgrammes_62 : decode cX5_keepProgrammes 62 = .ok (.iload_n 3, 1) := by decide +kernel
theorem dX5_keepProgrammes_63 : decode cX5_keepProgrammes 63 = .ok (.iconst 0, 1) := by decide +kernel
theorem dX5_keepProgrammes_64 : decode cX5_keepProgrammes 64 = .ok (.bastore, 1) := by decide +kernel
theorem dX5_keepProgrammes_65 : decode cX5_keepProgrammes 65 = .ok (.iinc 2 1, 3) := by decide +kernel
theorem dX5_keepProgrammes_68 : decode cX5_keepProgrammes 68 = .ok (.goto (-66), 3) := by decide +kernel
theorem dX5_keepProgrammes_71 : decode cX5_keepProgrammes 71 = .ok (.return_, 1) := by decide +kernel

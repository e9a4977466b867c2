theorem dJ_min_0 : decode cJ_min 0 = .ok (.iload_n 0, 1) := by decide +kernel
theorem dJ_min_1 : decode cJ_min 1 = .ok (.iload_n 1, 1) := by decide +kernel
theorem dJ_min_2 : decode cJ_min 2 = .ok (.if_icmp .gt 7, 3) := by decide +kernel
theorem dJ_min_5 : decode cJ_min 5 = .ok (.iload_n 0, 1) := by decide +kernel
theorem dJ_min_6 : decode cJ_min 6 = .ok (.goto 4, 3) := by decide +kernel
theorem dJ_min_9 : decode cJ_min 9 = .ok (.iload_n 1, 1) := by decide +kernel
theorem dJ_min_10 : decode cJ_min 10 = .ok (.ireturn, 1) := by decide +kernel
theorem dJ_max_0 : decode cJ_max 0 = .ok (.iload_n 0, 1) := by decide +kernel
theorem dJ_max_1 : decode cJ_max 1 = .ok (.iload_n 1, 1) := by decide +kernel
theorem dJ_max_2 : decode cJ_max 2 = .ok (.if_icmp .lt 7, 3) := by decide +kernel
theorem dJ_max_5 : decode cJ_max 5 = .ok (.iload_n 0, 1) := by decide +kernel
theorem dJ_max_6 : decode cJ_max 6 = .ok (.goto 4, 3) := by decide +kernel
theorem dJ_max_9 : decode cJ_max 9 = .ok (.iload_n 1, 1) := by decide +kernel
theorem dJ_max_10 : decode cJ_max 10 = .ok (.ireturn, 1) := by decide +kernel
theorem dJ_fillI_0 : decode cJ_fillI 0 = .ok (.iconst 0, 1) := by decide +kernel
theorem dJ_fillI_1 : decode cJ_fillI 1 = .ok (.istore_n 2, 1) := by decide +kernel
theorem dJ_fillI_2 : decode cJ_fillI 2 = .ok (.aload_n 0, 1) := by decide +kernel
theorem dJ_fillI_3 : decode cJ_fillI 3 = .ok (.arraylength, 1) := by decide +kernel
theorem dJ_fillI_4 : decode cJ_fillI 4 = .ok (.istore_n 3, 1) := by decide +kernel
theorem dJ_fillI_5 : decode cJ_fillI 5 = .ok (.iload_n 2, 1) := by decide +kernel
theorem dJ_fillI_6 : decode cJ_fillI 6 = .ok (.iload_n 3, 1) := by decide +kernel
theorem dJ_fillI_7 : decode cJ_fillI 7 = .ok (.if_icmp .ge 13, 3) := by decide +kernel
theorem dJ_fillI_10 : decode cJ_fillI 10 = .ok (.aload_n 0, 1) := by decide +kernel
theorem dJ_fillI_11 : decode cJ_fillI 11 = .ok (.iload_n 2, 1) := by decide +kernel
theorem dJ_fillI_12 : decode cJ_fillI 12 = .ok (.iload_n 1, 1) := by decide +kernel
theorem dJ_fillI_13 : decode cJ_fillI 13 = .ok (.iastore, 1) := by decide +kernel
theorem dJ_fillI_14 : decode cJ_fillI 14 = .ok (.iinc 2 1, 3) := by decide +kernel
theorem dJ_fillI_17 : decode cJ_fillI 17 = .ok (.goto (-12), 3) := by decide +kernel
theorem dJ_fillI_20 : decode cJ_fillI 20 = .ok (.return_, 1) := by decide +kernel
theorem dJ_fillL_0 : decode cJ_fillL 0 = .ok (.iconst 0, 1) := by decide +kernel
theorem dJ_fillL_1 : decode cJ_fillL 1 = .ok (.istore_n 3, 1) := by decide +kernel
theorem dJ_fillL_2 : decode cJ_fillL 2 = .ok (.aload_n 0, 1) := by decide +kernel
theorem dJ_fillL_3 : decode cJ_fillL 3 = .ok (.arraylength, 1) := by decide +kernel
theorem dJ_fillL_4 : decode cJ_fillL 4 = .ok (.istore 4, 2) := by decide +kernel
theorem dJ_fillL_6 : decode cJ_fillL 6 = .ok (.iload_n 3, 1) := by decide +kernel
theorem dJ_fillL_7 : decode cJ_fillL 7 = .ok (.iload 4, 2) := by decide +kernel
theorem dJ_fillL_9 : decode cJ_fillL 9 = .ok (.if_icmp .ge 13, 3) := by decide +kernel
theorem dJ_fillL_12 : decode cJ_fillL 12 = .ok (.aload_n 0, 1) := by decide +kernel
theorem dJ_fillL_13 : decode cJ_fillL 13 = .ok (.iload_n 3, 1) := by decide +kernel
theorem dJ_fillL_14 : decode cJ_fillL 14 = .ok (.lload_n 1, 1) := by decide +kernel
theorem dJ_fillL_15 : decode cJ_fillL 15 = .ok (.lastore, 1) := by decide +kernel
theorem dJ_fillL_16 : decode cJ_fillL 16 = .ok (.iinc 3 1, 3) := by decide +kernel
theorem dJ_fillL_19 : decode cJ_fillL 19 = .ok (.goto (-13), 3) := by decide +kernel
theorem dJ_fillL_22 : decode cJ_fillL 22 = .ok (.return_, 1) := by decide +kernel
theorem dJ_bits_0 : decode cJ_bits 0 = .ok (.iload_n 0, 1) := by decide +kernel
theorem dJ_bits_1 : decode cJ_bits 1 = .ok (.iload_n 0, 1) := by decide +kernel
theorem dJ_bits_2 : decode cJ_bits 2 = .ok (.iconst 1, 1) := by decide +kernel
theorem dJ_bits_3 : decode cJ_bits 3 = .ok (.iushr, 1) := by decide +kernel
theorem dJ_bits_4 : decode cJ_bits 4 = .ok (.ldc_w 265, 3) := by decide +kernel
theorem dJ_bits_7 : decode cJ_bits 7 = .ok (.iand, 1) := by decide +kernel
theorem dJ_bits_8 : decode cJ_bits 8 = .ok (.isub, 1) := by decide +kernel
theorem dJ_bits_9 : decode cJ_bits 9 = .ok (.istore_n 0, 1) := by decide +kernel
theorem dJ_bits_10 : decode cJ_bits 10 = .ok (.iload_n 0, 1) := by decide +kernel
theorem dJ_bits_11 : decode cJ_bits 11 = .ok (.ldc_w 266, 3) := by decide +kernel
theorem dJ_bits_14 : decode cJ_bits 14 = .ok (.iand, 1) := by decide +kernel
theorem dJ_bits_15 : decode cJ_bits 15 = .ok (.iload_n 0, 1) := by decide +kernel
theorem dJ_bits_16 : decode cJ_bits 16 = .ok (.iconst 2, 1) := by decide +kernel
theorem dJ_bits_17 : decode cJ_bits 17 = .ok (.iushr, 1) := by decide +kernel
theorem dJ_bits_18 : decode cJ_bits 18 = .ok (.ldc_w 266, 3) := by decide +kernel
theorem dJ_bits_21 : decode cJ_bits 21 = .ok (.iand, 1) := by decide +kernel
theorem dJ_bits_22 : decode cJ_bits 22 = .ok (.iadd, 1) := by decide +kernel
theorem dJ_bits_23 : decode cJ_bits 23 = .ok (.istore_n 0, 1) := by decide +kernel
theorem dJ_bits_24 : decode cJ_bits 24 = .ok (.iload_n 0, 1) := by decide +kernel
theorem dJ_bits_25 : decode cJ_bits 25 = .ok (.iload_n 0, 1) := by decide +kernel
theorem dJ_bits_26 : decode cJ_bits 26 = .ok (.iconst 4, 1) := by decide +kernel
theorem dJ_bits_27 : decode cJ_bits 27 = .ok (.iushr, 1) := by decide +kernel
theorem dJ_bits_28 : decode cJ_bits 28 = .ok (.iadd, 1) := by decide +kernel
theorem dJ_bits_29 : decode cJ_bits 29 = .ok (.ldc_w 267, 3) := by decide +kernel
theorem dJ_bits_32 : decode cJ_bits 32 = .ok (.iand, 1) := by decide +kernel
theorem dJ_bits_33 : decode cJ_bits 33 = .ok (.istore_n 0, 1) := by decide +kernel
theorem dJ_bits_34 : decode cJ_bits 34 = .ok (.iload_n 0, 1) := by decide +kernel
theorem dJ_bits_35 : decode cJ_bits 35 = .ok (.iload_n 0, 1) := by decide +kernel
theorem dJ_bits_36 : decode cJ_bits 36 = .ok (.bipush 8, 2) := by decide +kernel
theorem dJ_bits_38 : decode cJ_bits 38 = .ok (.iushr, 1) := by decide +kernel
theorem dJ_bits_39 : decode cJ_bits 39 = .ok (.iadd, 1) := by decide +kernel
theorem dJ_bits_40 : decode cJ_bits 40 = .ok (.istore_n 0, 1) := by decide +kernel
theorem dJ_bits_41 : decode cJ_bits 41 = .ok (.iload_n 0, 1) := by decide +kernel
theorem dJ_bits_42 : decode cJ_bits 42 = .ok (.iload_n 0, 1) := by decide +kernel
theorem dJ_bits_43 : decode cJ_bits 43 = .ok (.bipush 16, 2) := by decide +kernel
theorem dJ_bits_45 : decode cJ_bits 45 = .ok (.iushr, 1) := by decide +kernel
theorem dJ_bits_46 : decode cJ_bits 46 = .ok (.iadd, 1) := by decide +kernel
theorem dJ_bits_47 : decode cJ_bits 47 = .ok (.istore_n 0, 1) := by decide +kernel
theorem dJ_bits_48 : decode cJ_bits 48 = .ok (.iload_n 0, 1) := by decide +kernel
theorem dJ_bits_49 : decode cJ_bits 49 = .ok (.bipush 63, 2) := by decide +kernel
theorem dJ_bits_51 : decode cJ_bits 51 = .ok (.iand, 1) := by decide +kernel
theorem dJ_bits_52 : decode cJ_bits 52 = .ok (.ireturn, 1) := by decide +kernel
theorem dX0_init_0 : decode cX0_init 0 = .ok (.aload_n 0, 1) := by decide +kernel
theorem dX0_init_1 : decode cX0_init 1 = .ok (.invokespecial 3, 3) := by decide +kernel
theorem dX0_init_4 : decode cX0_init 4 = .ok (.aload_n 0, 1) := by decide +kernel
theorem dX0_init_5 : decode cX0_init 5 = .ok (.bipush 10, 2) := by decide +kernel
theorem dX0_init_7 : decode cX0_init 7 = .ok (.anewarray 9, 3) := by decide +kernel
theorem dX0_init_10 : decode cX0_init 10 = .ok (.putfield 11, 3) := by decide +kernel
theorem dX0_init_13 : decode cX0_init 13 = .ok (.aload_n 0, 1) := by decide +kernel
theorem dX0_init_14 : decode cX0_init 14 = .ok (.bipush 10, 2) := by decide +kernel
theorem dX0_init_16 : decode cX0_init 16 = .ok (.newarray .int, 2) := by decide +kernel
theorem dX0_init_18 : decode cX0_init 18 = .ok (.putfield 17, 3) := by decide +kernel
theorem dX0_init_21 : decode cX0_init 21 = .ok (.aload_n 0, 1) := by decide +kernel
theorem dX0_init_22 : decode cX0_init 22 = .ok (.aload_n 1, 1) := by decide +kernel
theorem dX0_init_23 : decode cX0_init 23 = .ok (.putfield 21, 3) := by decide +kernel
theorem dX0_init_26 : decode cX0_init 26 = .ok (.iconst 0, 1) := by decide +kernel
theorem dX0_init_27 : decode cX0_init 27 = .ok (.istore_n 3, 1) := by decide +kernel
theorem dX0_init_28 : decode cX0_init 28 = .ok (.iload_n 3, 1) := by decide +kernel
theorem dX0_init_29 : decode cX0_init 29 = .ok (.bipush 10, 2) := by decide +kernel
theorem dX0_init_31 : decode cX0_init 31 = .ok (.if_icmp .ge 24, 3) := by decide +kernel
theorem dX0_init_34 : decode cX0_init 34 = .ok (.aload_n 0, 1) := by decide +kernel
theorem dX0_init_35 : decode cX0_init 35 = .ok (.getfield 11, 3) := by decide +kernel
theorem dX0_init_38 : decode cX0_init 38 = .ok (.iload_n 3, 1) := by decide +kernel
theorem dX0_init_39 : decode cX0_init 39 = .ok (.new 9, 3) := by decide +kernel
theorem dX0_init_42 : decode cX0_init 42 = .ok (.dup, 1) := by decide +kernel
theorem dX0_init_43 : decode cX0_init 43 = .ok (.aload_n 1, 1) := by decide +kernel
theorem dX0_init_44 : decode cX0_init 44 = .ok (.aload_n 2, 1) := by decide +kernel
theorem dX0_init_45 : decode cX0_init 45 = .ok (.invokespecial 25, 3) := by decide +kernel
theorem dX0_init_48 : decode cX0_init 48 = .ok (.aastore, 1) := by decide +kernel
theorem dX0_init_49 : decode cX0_init 49 = .ok (.iinc 3 1, 3) := by decide +kernel
theorem dX0_init_52 : decode cX0_init 52 = .ok (.goto (-24), 3) := by decide +kernel
theorem dX0_init_55 : decode cX0_init 55 = .ok (.return_, 1) := by decide +kernel
theorem dX0_said_0 : decode cX0_said 0 = .ok (.aload_n 0, 1) := by decide +kernel
theorem dX0_said_1 : decode cX0_said 1 = .ok (.getfield 28, 3) := by decide +kernel
theorem dX0_said_4 : decode cX0_said 4 = .ok (.ireturn, 1) := by decide +kernel
theorem dX0_timesOpen_0 : decode cX0_timesOpen 0 = .ok (.iload_n 1, 1) := by decide +kernel
theorem dX0_timesOpen_1 : decode cX0_timesOpen 1 = .ok (.iconst 0, 1) := by decide +kernel
theorem dX0_timesOpen_2 : decode cX0_timesOpen 2 = .ok (.bipush 9, 2) := by decide +kernel
theorem dX0_timesOpen_4 : decode cX0_timesOpen 4 = .ok (.invokestatic 32, 3) := by decide +kernel
theorem dX0_timesOpen_7 : decode cX0_timesOpen 7 = .ok (.ifCond .eq 12, 3) := by decide +kernel
theorem dX0_timesOpen_10 : decode cX0_timesOpen 10 = .ok (.aload_n 0, 1) := by decide +kernel
theorem dX0_timesOpen_11 : decode cX0_timesOpen 11 = .ok (.getfield 17, 3) := by decide +kernel
theorem dX0_timesOpen_14 : decode cX0_timesOpen 14 = .ok (.iload_n 1, 1) := by decide +kernel
theorem dX0_timesOpen_15 : decode cX0_timesOpen 15 = .ok (.iaload, 1) := by decide +kernel
theorem dX0_timesOpen_16 : decode cX0_timesOpen 16 = .ok (.goto 4, 3) := by decide +kernel
theorem dX0_timesOpen_19 : decode cX0_timesOpen 19 = .ok (.iconst 0, 1) := by decide +kernel
theorem dX0_timesOpen_20 : decode cX0_timesOpen 20 = .ok (.ireturn, 1) := by decide +kernel
theorem dX0_pass_0 : decode cX0_pass 0 = .ok (.aload_n 0, 1) := by decide +kernel
theorem dX0_pass_1 : decode cX0_pass 1 = .ok (.iload_n 1, 1) := by decide +kernel
theorem dX0_pass_2 : decode cX0_pass 2 = .ok (.putfield 36, 3) := by decide +kernel
theorem dX0_pass_5 : decode cX0_pass 5 = .ok (.aload_n 0, 1) := by decide +kernel
theorem dX0_pass_6 : decode cX0_pass 6 = .ok (.iload 4, 2) := by decide +kernel
theorem dX0_pass_8 : decode cX0_pass 8 = .ok (.putfield 39, 3) := by decide +kernel
theorem dX0_pass_11 : decode cX0_pass 11 = .ok (.aload_n 0, 1) := by decide +kernel
theorem dX0_pass_12 : decode cX0_pass 12 = .ok (.iconst 0, 1) := by decide +kernel
theorem dX0_pass_13 : decode cX0_pass 13 = .ok (.putfield 28, 3) := by decide +kernel
theorem dX0_pass_16 : decode cX0_pass 16 = .ok (.aload_n 0, 1) := by decide +kernel
theorem dX0_pass_17 : decode cX0_pass 17 = .ok (.getfield 17, 3) := by decide +kernel
theorem dX0_pass_20 : decode cX0_pass 20 = .ok (.iconst 0, 1) := by decide +kernel
theorem dX0_pass_21 : decode cX0_pass 21 = .ok (.invokestatic 42, 3) := by decide +kernel
theorem dX0_pass_24 : decode cX0_pass 24 = .ok (.iconst 0, 1) := by decide +kernel
theorem dX0_pass_25 : decode cX0_pass 25 = .ok (.istore 5, 2) := by decide +kernel
theorem dX0_pass_27 : decode cX0_pass 27 = .ok (.iload 5, 2) := by decide +kernel
theorem dX0_pass_29 : decode cX0_pass 29 = .ok (.iload_n 2, 1) := by decide +kernel
theorem dX0_pass_30 : decode cX0_pass 30 = .ok (.if_icmp .ge 59, 3) := by decide +kernel
theorem dX0_pass_33 : decode cX0_pass 33 = .ok (.aload_n 0, 1) := by decide +kernel
theorem dX0_pass_34 : decode cX0_pass 34 = .ok (.iload_n 3, 1) := by decide +kernel
theorem dX0_pass_35 : decode cX0_pass 35 = .ok (.invokevirtual 48, 3) := by decide +kernel
theorem dX0_pass_38 : decode cX0_pass 38 = .ok (.iconst 0, 1) := by decide +kernel
theorem dX0_pass_39 : decode cX0_pass 39 = .ok (.istore 6, 2) := by decide +kernel
theorem dX0_pass_41 : decode cX0_pass 41 = .ok (.iload 6, 2) := by decide +kernel
theorem dX0_pass_43 : decode cX0_pass 43 = .ok (.aload_n 0, 1) := by decide +kernel
theorem dX0_pass_44 : decode cX0_pass 44 = .ok (.getfield 21, 3) := by decide +kernel
theorem dX0_pass_47 : decode cX0_pass 47 = .ok (.invokevirtual 52, 3) := by decide +kernel
theorem dX0_pass_50 : decode cX0_pass 50 = .ok (.if_icmp .ge 33, 3) := by decide +kernel
theorem dX0_pass_53 : decode cX0_pass 53 = .ok (.aload_n 0, 1) := by decide +kernel
theorem dX0_pass_54 : decode cX0_pass 54 = .ok (.getfield 11, 3) := by decide +kernel
theorem dX0_pass_57 : decode cX0_pass 57 = .ok (.iload 6, 2) := by decide +kernel
theorem dX0_pass_59 : decode cX0_pass 59 = .ok (.aaload, 1) := by decide +kernel
theorem dX0_pass_60 : decode cX0_pass 60 = .ok (.invokevirtual 58, 3) := by decide +kernel
theorem dX0_pass_63 : decode cX0_pass 63 = .ok (.ifCond .eq 14, 3) := by decide +kernel
theorem dX0_pass_66 : decode cX0_pass 66 = .ok (.aload_n 0, 1) := by decide +kernel
theorem dX0_pass_67 : decode cX0_pass 67 = .ok (.getfield 17, 3) := by decide +kernel
theorem dX0_pass_70 : decode cX0_pass 70 = .ok (.iload 6, 2) := by decide +kernel
theorem dX0_pass_72 : decode cX0_pass 72 = .ok (.dup2, 1) := by decide +kernel
theorem dX0_pass_73 : decode cX0_pass 73 = .ok (.iaload, 1) := by decide +kernel
theorem dX0_pass_74 : decode cX0_pass 74 = .ok (.iconst 1, 1) := by decide +kernel
theorem dX0_pass_75 : decode cX0_pass 75 = .ok (.iadd, 1) := by decide +kernel
theorem dX0_pass_76 : decode cX0_pass 76 = .ok (.iastore, 1) := by decide +kernel
theorem dX0_pass_77 : decode cX0_pass 77 = .ok (.iinc 6 1, 3) := by decide +kernel
theorem dX0_pass_80 : decode cX0_pass 80 = .ok (.goto (-39), 3) := by decide +kernel
theorem dX0_pass_83 : decode cX0_pass 83 = .ok (.iinc 5 1, 3) := by decide +kernel
theorem dX0_pass_86 : decode cX0_pass 86 = .ok (.goto (-59), 3) := by decide +kernel
theorem dX0_pass_89 : decode cX0_pass 89 = .ok (.return_, 1) := by decide +kernel
theorem dX0_passAge_0 : decode cX0_passAge 0 = .ok (.iconst 0, 1) := by decide +kernel
theorem dX0_passAge_1 : decode cX0_passAge 1 = .ok (.istore_n 2, 1) := by decide +kernel
theorem dX0_passAge_2 : decode cX0_passAge 2 = .ok (.iload_n 2, 1) := by decide +kernel
theorem dX0_passAge_3 : decode cX0_passAge 3 = .ok (.aload_n 0, 1) := by decide +kernel
theorem dX0_passAge_4 : decode cX0_passAge 4 = .ok (.getfield 21, 3) := by decide +kernel
theorem dX0_passAge_7 : decode cX0_passAge 7 = .ok (.invokevirtual 52, 3) := by decide +kernel
theorem dX0_passAge_10 : decode cX0_passAge 10 = .ok (.if_icmp .ge 19, 3) := by decide +kernel
theorem dX0_passAge_13 : decode cX0_passAge 13 = .ok (.aload_n 0, 1) := by decide +kernel
theorem dX0_passAge_14 : decode cX0_passAge 14 = .ok (.getfield 11, 3) := by decide +kernel
theorem dX0_passAge_17 : decode cX0_passAge 17 = .ok (.iload_n 2, 1) := by decide +kernel
theorem dX0_passAge_18 : decode cX0_passAge 18 = .ok (.aaload, 1) := by decide +kernel
theorem dX0_passAge_19 : decode cX0_passAge 19 = .ok (.iload_n 2, 1) := by decide +kernel
theorem dX0_passAge_20 : decode cX0_passAge 20 = .ok (.invokevirtual 62, 3) := by decide +kernel
theorem dX0_passAge_23 : decode cX0_passAge 23 = .ok (.iinc 2 1, 3) := by decide +kernel
theorem dX0_passAge_26 : decode cX0_passAge 26 = .ok (.goto (-24), 3) := by decide +kernel
theorem dX0_passAge_29 : decode cX0_passAge 29 = .ok (.aload_n 0, 1) := by decide +kernel
theorem dX0_passAge_30 : decode cX0_passAge 30 = .ok (.aload_n 0, 1) := by decide +kernel
theorem dX0_passAge_31 : decode cX0_passAge 31 = .ok (.getfield 21, 3) := by decide +kernel
theorem dX0_passAge_34 : decode cX0_passAge 34 = .ok (.invokevirtual 65, 3) := by decide +kernel
theorem dX0_passAge_37 : decode cX0_passAge 37 = .ok (.putfield 68, 3) := by decide +kernel
theorem dX0_passAge_40 : decode cX0_passAge 40 = .ok (.iconst 0, 1) := by decide +kernel
theorem dX0_passAge_41 : decode cX0_passAge 41 = .ok (.istore_n 2, 1) := by decide +kernel
theorem dX0_passAge_42 : decode cX0_passAge 42 = .ok (.iload_n 2, 1) := by decide +kernel
theorem dX0_passAge_43 : decode cX0_passAge 43 = .ok (.iload_n 1, 1) := by decide +kernel
theorem dX0_passAge_44 : decode cX0_passAge 44 = .ok (.if_icmp .ge 60, 3) := by decide +kernel
theorem dX0_passAge_47 : decode cX0_passAge 47 = .ok (.aload_n 0, 1) := by decide +kernel
theorem dX0_passAge_48 : decode cX0_passAge 48 = .ok (.aload_n 0, 1) := by decide +kernel
theorem dX0_passAge_49 : decode cX0_passAge 49 = .ok (.getfield 36, 3) := by decide +kernel
theorem dX0_passAge_52 : decode cX0_passAge 52 = .ok (.ldc 70, 2) := by decide +kernel
theorem dX0_passAge_54 : decode cX0_passAge 54 = .ok (.imul, 1) := by decide +kernel
theorem dX0_passAge_55 : decode cX0_passAge 55 = .ok (.sipush 12345, 3) := by decide +kernel
theorem dX0_passAge_58 : decode cX0_passAge 58 = .ok (.iadd, 1) := by decide +kernel
theorem dX0_passAge_59 : decode cX0_passAge 59 = .ok (.putfield 36, 3) := by decide +kernel
theorem dX0_passAge_62 : decode cX0_passAge 62 = .ok (.aload_n 0, 1) := by decide +kernel
theorem dX0_passAge_63 : decode cX0_passAge 63 = .ok (.invokevirtual 71, 3) := by decide +kernel
theorem dX0_passAge_66 : decode cX0_passAge 66 = .ok (.iconst 0, 1) := by decide +kernel
theorem dX0_passAge_67 : decode cX0_passAge 67 = .ok (.istore_n 3, 1) := by decide +kernel
theorem dX0_passAge_68 : decode cX0_passAge 68 = .ok (.iload_n 3, 1) := by decide +kernel
theorem dX0_passAge_69 : decode cX0_passAge 69 = .ok (.aload_n 0, 1) := by decide +kernel
theorem dX0_passAge_70 : decode cX0_passAge 70 = .ok (.getfield 21, 3) := by decide +kernel
theorem dX0_passAge_73 : decode cX0_passAge 73 = .ok (.invokevirtual 52, 3) := by decide +kernel
theorem dX0_passAge_76 : decode cX0_passAge 76 = .ok (.if_icmp .ge 22, 3) := by decide +kernel
theorem dX0_passAge_79 : decode cX0_passAge 79 = .ok (.aload_n 0, 1) := by decide +kernel
theorem dX0_passAge_80 : decode cX0_passAge 80 = .ok (.getfield 11, 3) := by decide +kernel
theorem dX0_passAge_83 : decode cX0_passAge 83 = .ok (.iload_n 3, 1) := by decide +kernel
theorem dX0_passAge_84 : decode cX0_passAge 84 = .ok (.aaload, 1) := by decide +kernel
theorem dX0_passAge_85 : decode cX0_passAge 85 = .ok (.aload_n 0, 1) := by decide +kernel
theorem dX0_passAge_86 : decode cX0_passAge 86 = .ok (.getfield 68, 3) := by decide +kernel
theorem dX0_passAge_89 : decode cX0_passAge 89 = .ok (.invokevirtual 74, 3) := by decide +kernel
theorem dX0_passAge_92 : decode cX0_passAge 92 = .ok (.iinc 3 1, 3) := by decide +kernel
theorem dX0_passAge_95 : decode cX0_passAge 95 = .ok (.goto (-27), 3) := by decide +kernel
theorem dX0_passAge_98 : decode cX0_passAge 98 = .ok (.iinc 2 1, 3) := by decide +kernel
theorem dX0_passAge_101 : decode cX0_passAge 101 = .ok (.goto (-59), 3) := by decide +kernel
theorem dX0_passAge_104 : decode cX0_passAge 104 = .ok (.return_, 1) := by decide +kernel
theorem dX0_openDrawn_0 : decode cX0_openDrawn 0 = .ok (.aload_n 0, 1) := by decide +kernel
theorem dX0_openDrawn_1 : decode cX0_openDrawn 1 = .ok (.getfield 21, 3) := by decide +kernel
theorem dX0_openDrawn_4 : decode cX0_openDrawn 4 = .ok (.invokevirtual 52, 3) := by decide +kernel
theorem dX0_openDrawn_7 : decode cX0_openDrawn 7 = .ok (.ifCond .eq 20, 3) := by decide +kernel
theorem dX0_openDrawn_10 : decode cX0_openDrawn 10 = .ok (.aload_n 0, 1) := by decide +kernel
theorem dX0_openDrawn_11 : decode cX0_openDrawn 11 = .ok (.getfield 36, 3) := by decide +kernel
theorem dX0_openDrawn_14 : decode cX0_openDrawn 14 = .ok (.bipush 16, 2) := by decide +kernel
theorem dX0_openDrawn_16 : decode cX0_openDrawn 16 = .ok (.iushr, 1) := by decide +kernel
theorem dX0_openDrawn_17 : decode cX0_openDrawn 17 = .ok (.bipush 12, 2) := by decide +kernel
theorem dX0_openDrawn_19 : decode cX0_openDrawn 19 = .ok (.irem, 1) := by decide +kernel
theorem dX0_openDrawn_20 : decode cX0_openDrawn 20 = .ok (.aload_n 0, 1) := by decide +kernel
theorem dX0_openDrawn_21 : decode cX0_openDrawn 21 = .ok (.getfield 39, 3) := by decide +kernel
theorem dX0_openDrawn_24 : decode cX0_openDrawn 24 = .ok (.if_icmp .lt 4, 3) := by decide +kernel
theorem dX0_openDrawn_27 : decode cX0_openDrawn 27 = .ok (.return_, 1) := by decide +kernel
theorem dX0_openDrawn_28 : decode cX0_openDrawn 28 = .ok (.aload_n 0, 1) := by decide +kernel
theorem dX0_openDrawn_29 : decode cX0_openDrawn 29 = .ok (.getfield 11, 3) := by decide +kernel
theorem dX0_openDrawn_32 : decode cX0_openDrawn 32 = .ok (.aload_n 0, 1) := by decide +kernel
theorem dX0_openDrawn_33 : decode cX0_openDrawn 33 = .ok (.getfield 36, 3) := by decide +kernel
theorem dX0_openDrawn_36 : decode cX0_openDrawn 36 = .ok (.bipush 8, 2) := by decide +kernel
theorem dX0_openDrawn_38 : decode cX0_openDrawn 38 = .ok (.iushr, 1) := by decide +kernel
theorem dX0_openDrawn_39 : decode cX0_openDrawn 39 = .ok (.aload_n 0, 1) := by decide +kernel
theorem dX0_openDrawn_40 : decode cX0_openDrawn 40 = .ok (.getfield 21, 3) := by decide +kernel
theorem dX0_openDrawn_43 : decode cX0_openDrawn 43 = .ok (.invokevirtual 52, 3) := by decide +kernel
theorem dX0_openDrawn_46 : decode cX0_openDrawn 46 = .ok (.irem, 1) := by decide +kernel
theorem dX0_openDrawn_47 : decode cX0_openDrawn 47 = .ok (.aaload, 1) := by decide +kernel
theorem dX0_openDrawn_48 : decode cX0_openDrawn 48 = .ok (.astore_n 1, 1) := by decide +kernel
theorem dX0_openDrawn_49 : decode cX0_openDrawn 49 = .ok (.aload_n 1, 1) := by decide +kernel
theorem dX0_openDrawn_50 : decode cX0_openDrawn 50 = .ok (.invokevirtual 58, 3) := by decide +kernel
theorem dX0_openDrawn_53 : decode cX0_openDrawn 53 = .ok (.ifCond .eq 4, 3) := by decide +kernel
theorem dX0_openDrawn_56 : decode cX0_openDrawn 56 = .ok (.return_, 1) := by decide +kernel
theorem dX0_openDrawn_57 : decode cX0_openDrawn 57 = .ok (.aload_n 1, 1) := by decide +kernel
theorem dX0_openDrawn_58 : decode cX0_openDrawn 58 = .ok (.invokevirtual 77, 3) := by decide +kernel
theorem dX0_openDrawn_61 : decode cX0_openDrawn 61 = .ok (.aload_n 0, 1) := by decide +kernel
theorem dX0_openDrawn_62 : decode cX0_openDrawn 62 = .ok (.dup, 1) := by decide +kernel
theorem dX0_openDrawn_63 : decode cX0_openDrawn 63 = .ok (.getfield 28, 3) := by decide +kernel
theorem dX0_openDrawn_66 : decode cX0_openDrawn 66 = .ok (.aload_n 1, 1) := by decide +kernel
theorem dX0_openDrawn_67 : decode cX0_openDrawn 67 = .ok (.invokevirtual 80, 3) := by decide +kernel
theorem dX0_openDrawn_70 : decode cX0_openDrawn 70 = .ok (.iadd, 1) := by decide +kernel
theorem dX0_openDrawn_71 : decode cX0_openDrawn 71 = .ok (.putfield 28, 3) := by decide +kernel
theorem dX0_openDrawn_74 : decode cX0_openDrawn 74 = .ok (.aload_n 0, 1) := by decide +kernel
theorem dX0_openDrawn_75 : decode cX0_openDrawn 75 = .ok (.dup, 1) := by decide +kernel
theorem dX0_openDrawn_76 : decode cX0_openDrawn 76 = .ok (.getfield 68, 3) := by decide +kernel
theorem dX0_openDrawn_79 : decode cX0_openDrawn 79 = .ok (.iconst 1, 1) := by decide +kernel
theorem dX0_openDrawn_80 : decode cX0_openDrawn 80 = .ok (.iadd, 1) := by decide +kernel
theorem dX0_openDrawn_81 : decode cX0_openDrawn 81 = .ok (.putfield 68, 3) := by decide +kernel
theorem dX0_openDrawn_84 : decode cX0_openDrawn 84 = .ok (.return_, 1) := by decide +kernel
theorem dX1_init_0 : decode cX1_init 0 = .ok (.aload_n 0, 1) := by decide +kernel
theorem dX1_init_1 : decode cX1_init 1 = .ok (.invokespecial 3, 3) := by decide +kernel
theorem dX1_init_4 : decode cX1_init 4 = .ok (.aload_n 0, 1) := by decide +kernel
theorem dX1_init_5 : decode cX1_init 5 = .ok (.bipush 50, 2) := by decide +kernel
theorem dX1_init_7 : decode cX1_init 7 = .ok (.newarray .int, 2) := by decide +kernel
theorem dX1_init_9 : decode cX1_init 9 = .ok (.putfield 11, 3) := by decide +kernel
theorem dX1_init_12 : decode cX1_init 12 = .ok (.aload_n 0, 1) := by decide +kernel
theorem dX1_init_13 : decode cX1_init 13 = .ok (.bipush 24, 2) := by decide +kernel
theorem dX1_init_15 : decode cX1_init 15 = .ok (.newarray .int, 2) := by decide +kernel
theorem dX1_init_17 : decode cX1_init 17 = .ok (.putfield 15, 3) := by decide +kernel
theorem dX1_init_20 : decode cX1_init 20 = .ok (.return_, 1) := by decide +kernel
theorem dX1_size_0 : decode cX1_size 0 = .ok (.aload_n 0, 1) := by decide +kernel
theorem dX1_size_1 : decode cX1_size 1 = .ok (.getfield 18, 3) := by decide +kernel
theorem dX1_size_4 : decode cX1_size 4 = .ok (.ireturn, 1) := by decide +kernel
theorem dX1_ran_0 : decode cX1_ran 0 = .ok (.aload_n 0, 1) := by decide +kernel
theorem dX1_ran_1 : decode cX1_ran 1 = .ok (.getfield 22, 3) := by decide +kernel
theorem dX1_ran_4 : decode cX1_ran 4 = .ok (.ireturn, 1) := by decide +kernel
theorem dX1_isFull_0 : decode cX1_isFull 0 = .ok (.aload_n 0, 1) := by decide +kernel
theorem dX1_isFull_1 : decode cX1_isFull 1 = .ok (.getfield 18, 3) := by decide +kernel
theorem dX1_isFull_4 : decode cX1_isFull 4 = .ok (.bipush 50, 2) := by decide +kernel
theorem dX1_isFull_6 : decode cX1_isFull 6 = .ok (.if_icmp .lt 7, 3) := by decide +kernel
theorem dX1_isFull_9 : decode cX1_isFull 9 = .ok (.iconst 1, 1) := by decide +kernel
theorem dX1_isFull_10 : decode cX1_isFull 10 = .ok (.goto 4, 3) := by decide +kernel
theorem dX1_isFull_13 : decode cX1_isFull 13 = .ok (.iconst 0, 1) := by decide +kernel
theorem dX1_isFull_14 : decode cX1_isFull 14 = .ok (.ireturn, 1) := by decide +kernel
theorem dX1_has_0 : decode cX1_has 0 = .ok (.iload_n 1, 1) := by decide +kernel
theorem dX1_has_1 : decode cX1_has 1 = .ok (.iconst 0, 1) := by decide +kernel
theorem dX1_has_2 : decode cX1_has 2 = .ok (.aload_n 0, 1) := by decide +kernel
theorem dX1_has_3 : decode cX1_has 3 = .ok (.getfield 18, 3) := by decide +kernel
theorem dX1_has_6 : decode cX1_has 6 = .ok (.iconst 1, 1) := by decide +kernel
theorem dX1_has_7 : decode cX1_has 7 = .ok (.isub, 1) := by decide +kernel
theorem dX1_has_8 : decode cX1_has 8 = .ok (.invokestatic 25, 3) := by decide +kernel
theorem dX1_has_11 : decode cX1_has 11 = .ok (.ireturn, 1) := by decide +kernel
theorem dX1_isKind_0 : decode cX1_isKind 0 = .ok (.iload_n 0, 1) := by decide +kernel
theorem dX1_isKind_1 : decode cX1_isKind 1 = .ok (.iconst 0, 1) := by decide +kernel
theorem dX1_isKind_2 : decode cX1_isKind 2 = .ok (.bipush 7, 2) := by decide +kernel
theorem dX1_isKind_4 : decode cX1_isKind 4 = .ok (.invokestatic 25, 3) := by decide +kernel
theorem dX1_isKind_7 : decode cX1_isKind 7 = .ok (.ireturn, 1) := by decide +kernel
theorem dX1_add_0 : decode cX1_add 0 = .ok (.aload_n 0, 1) := by decide +kernel
theorem dX1_add_1 : decode cX1_add 1 = .ok (.invokevirtual 29, 3) := by decide +kernel
theorem dX1_add_4 : decode cX1_add 4 = .ok (.ifCond .eq 6, 3) := by decide +kernel
theorem dX1_add_7 : decode cX1_add 7 = .ok (.bipush (-3), 2) := by decide +kernel
theorem dX1_add_9 : decode cX1_add 9 = .ok (.ireturn, 1) := by decide +kernel
theorem dX1_add_10 : decode cX1_add 10 = .ok (.aload_n 0, 1) := by decide +kernel
theorem dX1_add_11 : decode cX1_add 11 = .ok (.getfield 11, 3) := by decide +kernel
theorem dX1_add_14 : decode cX1_add 14 = .ok (.aload_n 0, 1) := by decide +kernel
theorem dX1_add_15 : decode cX1_add 15 = .ok (.getfield 18, 3) := by decide +kernel
theorem dX1_add_18 : decode cX1_add 18 = .ok (.iload_n 1, 1) := by decide +kernel
theorem dX1_add_19 : decode cX1_add 19 = .ok (.iastore, 1) := by decide +kernel
theorem dX1_add_20 : decode cX1_add 20 = .ok (.aload_n 0, 1) := by decide +kernel
theorem dX1_add_21 : decode cX1_add 21 = .ok (.dup, 1) := by decide +kernel
theorem dX1_add_22 : decode cX1_add 22 = .ok (.getfield 18, 3) := by decide +kernel
theorem dX1_add_25 : decode cX1_add 25 = .ok (.iconst 1, 1) := by decide +kernel
theorem dX1_add_26 : decode cX1_add 26 = .ok (.iadd, 1) := by decide +kernel
theorem dX1_add_27 : decode cX1_add 27 = .ok (.putfield 18, 3) := by decide +kernel
theorem dX1_add_30 : decode cX1_add 30 = .ok (.aload_n 0, 1) := by decide +kernel
theorem dX1_add_31 : decode cX1_add 31 = .ok (.getfield 18, 3) := by decide +kernel
theorem dX1_add_34 : decode cX1_add 34 = .ok (.iconst 1, 1) := by decide +kernel
theorem dX1_add_35 : decode cX1_add 35 = .ok (.isub, 1) := by decide +kernel
theorem dX1_add_36 : decode cX1_add 36 = .ok (.ireturn, 1) := by decide +kernel
theorem dX1_kindOf_0 : decode cX1_kindOf 0 = .ok (.aload_n 0, 1) := by decide +kernel
theorem dX1_kindOf_1 : decode cX1_kindOf 1 = .ok (.iload_n 1, 1) := by decide +kernel
theorem dX1_kindOf_2 : decode cX1_kindOf 2 = .ok (.invokevirtual 33, 3) := by decide +kernel
theorem dX1_kindOf_5 : decode cX1_kindOf 5 = .ok (.ifCond .eq 12, 3) := by decide +kernel
theorem dX1_kindOf_8 : decode cX1_kindOf 8 = .ok (.aload_n 0, 1) := by decide +kernel
theorem dX1_kindOf_9 : decode cX1_kindOf 9 = .ok (.getfield 11, 3) := by decide +kernel
theorem dX1_kindOf_12 : decode cX1_kindOf 12 = .ok (.iload_n 1, 1) := by decide +kernel
theorem dX1_kindOf_13 : decode cX1_kindOf 13 = .ok (.iaload, 1) := by decide +kernel
theorem dX1_kindOf_14 : decode cX1_kindOf 14 = .ok (.goto 4, 3) := by decide +kernel
theorem dX1_kindOf_17 : decode cX1_kindOf 17 = .ok (.iconst (-1), 1) := by decide +kernel
theorem dX1_kindOf_18 : decode cX1_kindOf 18 = .ok (.ireturn, 1) := by decide +kernel
theorem dX1_isUnder_0 : decode cX1_isUnder 0 = .ok (.iload_n 0, 1) := by decide +kernel
theorem dX1_isUnder_1 : decode cX1_isUnder 1 = .ok (.istore_n 2, 1) := by decide +kernel
theorem dX1_isUnder_2 : decode cX1_isUnder 2 = .ok (.iconst 0, 1) := by decide +kernel
theorem dX1_isUnder_3 : decode cX1_isUnder 3 = .ok (.istore_n 3, 1) := by decide +kernel
theorem dX1_isUnder_4 : decode cX1_isUnder 4 = .ok (.iload_n 3, 1) := by decide +kernel
theorem dX1_isUnder_5 : decode cX1_isUnder 5 = .ok (.bipush 8, 2) := by decide +kernel
theorem dX1_isUnder_7 : decode cX1_isUnder 7 = .ok (.if_icmp .ge 29, 3) := by decide +kernel
theorem dX1_isUnder_10 : decode cX1_isUnder 10 = .ok (.iload_n 2, 1) := by decide +kernel
theorem dX1_isUnder_11 : decode cX1_isUnder 11 = .ok (.invokestatic 37, 3) := by decide +kernel
theorem dX1_isUnder_14 : decode cX1_isUnder 14 = .ok (.ifCond .eq 22, 3) := by decide +kernel
theorem dX1_isUnder_17 : decode cX1_isUnder 17 = .ok (.iload_n 2, 1) := by decide +kernel
theorem dX1_isUnder_18 : decode cX1_isUnder 18 = .ok (.iload_n 1, 1) := by decide +kernel
theorem dX1_isUnder_19 : decode cX1_isUnder 19 = .ok (.if_icmp .ne 5, 3) := by decide +kernel
theorem dX1_isUnder_22 : decode cX1_isUnder 22 = .ok (.iconst 1, 1) := by decide +kernel
theorem dX1_isUnder_23 : decode cX1_isUnder 23 = .ok (.ireturn, 1) := by decide +kernel
theorem dX1_isUnder_24 : decode cX1_isUnder 24 = .ok (.getstatic 40, 3) := by decide +kernel
theorem dX1_isUnder_27 : decode cX1_isUnder 27 = .ok (.iload_n 2, 1) := by decide +kernel
theorem dX1_isUnder_28 : decode cX1_isUnder 28 = .ok (.iaload, 1) := by decide +kernel
theorem dX1_isUnder_29 : decode cX1_isUnder 29 = .ok (.istore_n 2, 1) := by decide +kernel
theorem dX1_isUnder_30 : decode cX1_isUnder 30 = .ok (.iinc 3 1, 3) := by decide +kernel
theorem dX1_isUnder_33 : decode cX1_isUnder 33 = .ok (.goto (-29), 3) := by decide +kernel
theorem dX1_isUnder_36 : decode cX1_isUnder 36 = .ok (.iconst 0, 1) := by decide +kernel
theorem dX1_isUnder_37 : decode cX1_isUnder 37 = .ok (.ireturn, 1) := by decide +kernel
theorem dX1_traced_0 : decode cX1_traced 0 = .ok (.iload_n 1, 1) := by decide +kernel
theorem dX1_traced_1 : decode cX1_traced 1 = .ok (.iconst 0, 1) := by decide +kernel
theorem dX1_traced_2 : decode cX1_traced 2 = .ok (.aload_n 0, 1) := by decide +kernel
theorem dX1_traced_3 : decode cX1_traced 3 = .ok (.getfield 22, 3) := by decide +kernel
theorem dX1_traced_6 : decode cX1_traced 6 = .ok (.bipush 24, 2) := by decide +kernel
theorem dX1_traced_8 : decode cX1_traced 8 = .ok (.invokestatic 43, 3) := by decide +kernel
theorem dX1_traced_11 : decode cX1_traced 11 = .ok (.iconst 1, 1) := by decide +kernel
theorem dX1_traced_12 : decode cX1_traced 12 = .ok (.isub, 1) := by decide +kernel
theorem dX1_traced_13 : decode cX1_traced 13 = .ok (.invokestatic 25, 3) := by decide +kernel
theorem dX1_traced_16 : decode cX1_traced 16 = .ok (.ifCond .eq 12, 3) := by decide +kernel
theorem dX1_traced_19 : decode cX1_traced 19 = .ok (.aload_n 0, 1) := by decide +kernel
theorem dX1_traced_20 : decode cX1_traced 20 = .ok (.getfield 15, 3) := by decide +kernel
theorem dX1_traced_23 : decode cX1_traced 23 = .ok (.iload_n 1, 1) := by decide +kernel
theorem dX1_traced_24 : decode cX1_traced 24 = .ok (.iaload, 1) := by decide +kernel
theorem dX1_traced_25 : decode cX1_traced 25 = .ok (.goto 4, 3) := by decide +kernel
theorem dX1_traced_28 : decode cX1_traced 28 = .ok (.iconst (-1), 1) := by decide +kernel
theorem dX1_traced_29 : decode cX1_traced 29 = .ok (.ireturn, 1) := by decide +kernel
theorem dX1_perform_0 : decode cX1_perform 0 = .ok (.aload_n 0, 1) := by decide +kernel
theorem dX1_perform_1 : decode cX1_perform 1 = .ok (.iconst 0, 1) := by decide +kernel
theorem dX1_perform_2 : decode cX1_perform 2 = .ok (.putfield 22, 3) := by decide +kernel
theorem dX1_perform_5 : decode cX1_perform 5 = .ok (.aload_n 0, 1) := by decide +kernel
theorem dX1_perform_6 : decode cX1_perform 6 = .ok (.iload_n 1, 1) := by decide +kernel
theorem dX1_perform_7 : decode cX1_perform 7 = .ok (.invokevirtual 33, 3) := by decide +kernel
theorem dX1_perform_10 : decode cX1_perform 10 = .ok (.ifCond .eq 12, 3) := by decide +kernel
theorem dX1_perform_13 : decode cX1_perform 13 = .ok (.iload_n 2, 1) := by decide +kernel
theorem dX1_perform_14 : decode cX1_perform 14 = .ok (.iconst 0, 1) := by decide +kernel
theorem dX1_perform_15 : decode cX1_perform 15 = .ok (.iconst 3, 1) := by decide +kernel
theorem dX1_perform_16 : decode cX1_perform 16 = .ok (.invokestatic 25, 3) := by decide +kernel
theorem dX1_perform_19 : decode cX1_perform 19 = .ok (.ifCond .ne 5, 3) := by decide +kernel
theorem dX1_perform_22 : decode cX1_perform 22 = .ok (.iconst 0, 1) := by decide +kernel
theorem dX1_perform_23 : decode cX1_perform 23 = .ok (.ireturn, 1) := by decide +kernel
theorem dX1_perform_24 : decode cX1_perform 24 = .ok (.aload_n 0, 1) := by decide +kernel
theorem dX1_perform_25 : decode cX1_perform 25 = .ok (.iload_n 1, 1) := by decide +kernel
theorem dX1_perform_26 : decode cX1_perform 26 = .ok (.putfield 49, 3) := by decide +kernel
theorem dX1_perform_29 : decode cX1_perform 29 = .ok (.aload_n 0, 1) := by decide +kernel
theorem dX1_perform_30 : decode cX1_perform 30 = .ok (.iload_n 2, 1) := by decide +kernel
theorem dX1_perform_31 : decode cX1_perform 31 = .ok (.iload_n 3, 1) := by decide +kernel
theorem dX1_perform_32 : decode cX1_perform 32 = .ok (.iconst 0, 1) := by decide +kernel
theorem dX1_perform_33 : decode cX1_perform 33 = .ok (.invokevirtual 52, 3) := by decide +kernel
theorem dX1_perform_36 : decode cX1_perform 36 = .ok (.ireturn, 1) := by decide +kernel
theorem dX1_own_0 : decode cX1_own 0 = .ok (.aload_n 0, 1) := by decide +kernel
theorem dX1_own_1 : decode cX1_own 1 = .ok (.aload_n 0, 1) := by decide +kernel
theorem dX1_own_2 : decode cX1_own 2 = .ok (.aload_n 0, 1) := by decide +kernel
theorem dX1_own_3 : decode cX1_own 3 = .ok (.getfield 49, 3) := by decide +kernel
theorem dX1_own_6 : decode cX1_own 6 = .ok (.invokevirtual 56, 3) := by decide +kernel
theorem dX1_own_9 : decode cX1_own 9 = .ok (.iload_n 1, 1) := by decide +kernel
theorem dX1_own_10 : decode cX1_own 10 = .ok (.iload_n 2, 1) := by decide +kernel
theorem dX1_own_11 : decode cX1_own 11 = .ok (.iload_n 3, 1) := by decide +kernel
theorem dX1_own_12 : decode cX1_own 12 = .ok (.invokevirtual 60, 3) := by decide +kernel
theorem dX1_own_15 : decode cX1_own 15 = .ok (.ireturn, 1) := by decide +kernel
theorem dX1_above_0 : decode cX1_above 0 = .ok (.iload_n 1, 1) := by decide +kernel
theorem dX1_above_1 : decode cX1_above 1 = .ok (.invokestatic 37, 3) := by decide +kernel
theorem dX1_above_4 : decode cX1_above 4 = .ok (.ifCond .eq 19, 3) := by decide +kernel
theorem dX1_above_7 : decode cX1_above 7 = .ok (.aload_n 0, 1) := by decide +kernel
theorem dX1_above_8 : decode cX1_above 8 = .ok (.getstatic 40, 3) := by decide +kernel
theorem dX1_above_11 : decode cX1_above 11 = .ok (.iload_n 1, 1) := by decide +kernel
theorem dX1_above_12 : decode cX1_above 12 = .ok (.iaload, 1) := by decide +kernel
theorem dX1_above_13 : decode cX1_above 13 = .ok (.iload_n 2, 1) := by decide +kernel
theorem dX1_above_14 : decode cX1_above 14 = .ok (.iload_n 3, 1) := by decide +kernel
theorem dX1_above_15 : decode cX1_above 15 = .ok (.iload 4, 2) := by decide +kernel
theorem dX1_above_17 : decode cX1_above 17 = .ok (.invokevirtual 60, 3) := by decide +kernel
theorem dX1_above_20 : decode cX1_above 20 = .ok (.goto 4, 3) := by decide +kernel
theorem dX1_above_23 : decode cX1_above 23 = .ok (.iconst 0, 1) := by decide +kernel
theorem dX1_above_24 : decode cX1_above 24 = .ok (.ireturn, 1) := by decide +kernel
theorem dX1_runFrom_0 : decode cX1_runFrom 0 = .ok (.iload 4, 2) := by decide +kernel
theorem dX1_runFrom_2 : decode cX1_runFrom 2 = .ok (.bipush 40, 2) := by decide +kernel
theorem dX1_runFrom_4 : decode cX1_runFrom 4 = .ok (.if_icmp .le 5, 3) := by decide +kernel
theorem dX1_runFrom_7 : decode cX1_runFrom 7 = .ok (.iconst 0, 1) := by decide +kernel
theorem dX1_runFrom_8 : decode cX1_runFrom 8 = .ok (.ireturn, 1) := by decide +kernel
theorem dX1_runFrom_9 : decode cX1_runFrom 9 = .ok (.iload_n 1, 1) := by decide +kernel
theorem dX1_runFrom_10 : decode cX1_runFrom 10 = .ok (.istore 5, 2) := by decide +kernel
theorem dX1_runFrom_12 : decode cX1_runFrom 12 = .ok (.iconst 0, 1) := by decide +kernel
theorem dX1_runFrom_13 : decode cX1_runFrom 13 = .ok (.istore 6, 2) := by decide +kernel
theorem dX1_runFrom_15 : decode cX1_runFrom 15 = .ok (.iload 6, 2) := by decide +kernel
theorem dX1_runFrom_17 : decode cX1_runFrom 17 = .ok (.bipush 8, 2) := by decide +kernel
theorem dX1_runFrom_19 : decode cX1_runFrom 19 = .ok (.if_icmp .ge 54, 3) := by decide +kernel
theorem dX1_runFrom_22 : decode cX1_runFrom 22 = .ok (.iload 5, 2) := by decide +kernel
theorem dX1_runFrom_24 : decode cX1_runFrom 24 = .ok (.invokestatic 37, 3) := by decide +kernel
theorem dX1_runFrom_27 : decode cX1_runFrom 27 = .ok (.ifCond .eq 46, 3) := by decide +kernel
theorem dX1_runFrom_30 : decode cX1_runFrom 30 = .ok (.getstatic 64, 3) := by decide +kernel
theorem dX1_runFrom_33 : decode cX1_runFrom 33 = .ok (.iload 5, 2) := by decide +kernel
theorem dX1_runFrom_35 : decode cX1_runFrom 35 = .ok (.iconst 4, 1) := by decide +kernel
theorem dX1_runFrom_36 : decode cX1_runFrom 36 = .ok (.imul, 1) := by decide +kernel
theorem dX1_runFrom_37 : decode cX1_runFrom 37 = .ok (.iload_n 2, 1) := by decide +kernel
theorem dX1_runFrom_38 : decode cX1_runFrom 38 = .ok (.iadd, 1) := by decide +kernel
theorem dX1_runFrom_39 : decode cX1_runFrom 39 = .ok (.iaload, 1) := by decide +kernel
theorem dX1_runFrom_40 : decode cX1_runFrom 40 = .ok (.istore 7, 2) := by decide +kernel
theorem dX1_runFrom_42 : decode cX1_runFrom 42 = .ok (.iload 7, 2) := by decide +kernel
theorem dX1_runFrom_44 : decode cX1_runFrom 44 = .ok (.ifCond .eq 15, 3) := by decide +kernel
theorem dX1_runFrom_47 : decode cX1_runFrom 47 = .ok (.aload_n 0, 1) := by decide +kernel
theorem dX1_runFrom_48 : decode cX1_runFrom 48 = .ok (.iload 7, 2) := by decide +kernel
theorem dX1_runFrom_50 : decode cX1_runFrom 50 = .ok (.iload_n 3, 1) := by decide +kernel
theorem dX1_runFrom_51 : decode cX1_runFrom 51 = .ok (.iload 4, 2) := by decide +kernel
theorem dX1_runFrom_53 : decode cX1_runFrom 53 = .ok (.iconst 1, 1) := by decide +kernel
theorem dX1_runFrom_54 : decode cX1_runFrom 54 = .ok (.iadd, 1) := by decide +kernel
theorem dX1_runFrom_55 : decode cX1_runFrom 55 = .ok (.invokevirtual 67, 3) := by decide +kernel
theorem dX1_runFrom_58 : decode cX1_runFrom 58 = .ok (.ireturn, 1) := by decide +kernel
theorem dX1_runFrom_59 : decode cX1_runFrom 59 = .ok (.getstatic 40, 3) := by decide +kernel
theorem dX1_runFrom_62 : decode cX1_runFrom 62 = .ok (.iload 5, 2) := by decide +kernel
theorem dX1_runFrom_64 : decode cX1_runFrom 64 = .ok (.iaload, 1) := by decide +kernel
theorem dX1_runFrom_65 : decode cX1_runFrom 65 = .ok (.istore 5, 2) := by decide +kernel
theorem dX1_runFrom_67 : decode cX1_runFrom 67 = .ok (.iinc 6 1, 3) := by decide +kernel
theorem dX1_runFrom_70 : decode cX1_runFrom 70 = .ok (.goto (-55), 3) := by decide +kernel
theorem dX1_runFrom_73 : decode cX1_runFrom 73 = .ok (.iconst 0, 1) := by decide +kernel
theorem dX1_runFrom_74 : decode cX1_runFrom 74 = .ok (.ireturn, 1) := by decide +kernel
theorem dX1_run_0 : decode cX1_run 0 = .ok (.aload_n 0, 1) := by decide +kernel
theorem dX1_run_1 : decode cX1_run 1 = .ok (.getfield 22, 3) := by decide +kernel
theorem dX1_run_4 : decode cX1_run 4 = .ok (.bipush 24, 2) := by decide +kernel
theorem dX1_run_6 : decode cX1_run 6 = .ok (.if_icmp .ge 13, 3) := by decide +kernel
theorem dX1_run_9 : decode cX1_run 9 = .ok (.aload_n 0, 1) := by decide +kernel
theorem dX1_run_10 : decode cX1_run 10 = .ok (.getfield 15, 3) := by decide +kernel
theorem dX1_run_13 : decode cX1_run 13 = .ok (.aload_n 0, 1) := by decide +kernel
theorem dX1_run_14 : decode cX1_run 14 = .ok (.getfield 22, 3) := by decide +kernel
theorem dX1_run_17 : decode cX1_run 17 = .ok (.iload_n 1, 1) := by decide +kernel
theorem dX1_run_18 : decode cX1_run 18 = .ok (.iastore, 1) := by decide +kernel
theorem dX1_run_19 : decode cX1_run 19 = .ok (.aload_n 0, 1) := by decide +kernel
theorem dX1_run_20 : decode cX1_run 20 = .ok (.dup, 1) := by decide +kernel
theorem dX1_run_21 : decode cX1_run 21 = .ok (.getfield 22, 3) := by decide +kernel
theorem dX1_run_24 : decode cX1_run 24 = .ok (.iconst 1, 1) := by decide +kernel
theorem dX1_run_25 : decode cX1_run 25 = .ok (.iadd, 1) := by decide +kernel
theorem dX1_run_26 : decode cX1_run 26 = .ok (.putfield 22, 3) := by decide +kernel
theorem dX1_run_29 : decode cX1_run 29 = .ok (.iload_n 1, 1) := by decide +kernel
theorem dX1_run_30 : decode cX1_run 30 = .ok (.lookupswitch 267 #[(1, 114), (2, 121), (10, 137), (11, 147), (20, 154), (30, 165), (40, 175), (41, 186), (50, 197), (60, 214), (70, 225), (80, 237), (81, 255)], 114) := by decide +kernel
theorem dX1_run_144 : decode cX1_run 144 = .ok (.iload_n 2, 1) := by decide +kernel
theorem dX1_run_145 : decode cX1_run 145 = .ok (.aload_n 0, 1) := by decide +kernel
theorem dX1_run_146 : decode cX1_run 146 = .ok (.getfield 49, 3) := by decide +kernel
theorem dX1_run_149 : decode cX1_run 149 = .ok (.iadd, 1) := by decide +kernel
theorem dX1_run_150 : decode cX1_run 150 = .ok (.ireturn, 1) := by decide +kernel
theorem dX1_run_151 : decode cX1_run 151 = .ok (.aload_n 0, 1) := by decide +kernel
theorem dX1_run_152 : decode cX1_run 152 = .ok (.iconst 1, 1) := by decide +kernel
theorem dX1_run_153 : decode cX1_run 153 = .ok (.iload_n 2, 1) := by decide +kernel
theorem dX1_run_154 : decode cX1_run 154 = .ok (.iload_n 3, 1) := by decide +kernel
theorem dX1_run_155 : decode cX1_run 155 = .ok (.invokevirtual 52, 3) := by decide +kernel
theorem dX1_run_158 : decode cX1_run 158 = .ok (.aload_n 0, 1) := by decide +kernel
theorem dX1_run_159 : decode cX1_run 159 = .ok (.iconst 2, 1) := by decide +kernel
theorem dX1_run_160 : decode cX1_run 160 = .ok (.iconst 1, 1) := by decide +kernel
theorem dX1_run_161 : decode cX1_run 161 = .ok (.iload_n 3, 1) := by decide +kernel
theorem dX1_run_162 : decode cX1_run 162 = .ok (.invokevirtual 52, 3) := by decide +kernel
theorem dX1_run_165 : decode cX1_run 165 = .ok (.isub, 1) := by decide +kernel
theorem dX1_run_166 : decode cX1_run 166 = .ok (.ireturn, 1) := by decide +kernel
theorem dX1_run_167 : decode cX1_run 167 = .ok (.aload_n 0, 1) := by decide +kernel
theorem dX1_run_168 : decode cX1_run 168 = .ok (.iconst 0, 1) := by decide +kernel
theorem dX1_run_169 : decode cX1_run 169 = .ok (.iload_n 2, 1) := by decide +kernel
theorem dX1_run_170 : decode cX1_run 170 = .ok (.iload_n 3, 1) := by decide +kernel
theorem dX1_run_171 : decode cX1_run 171 = .ok (.invokevirtual 52, 3) := by decide +kernel
theorem dX1_run_174 : decode cX1_run 174 = .ok (.iconst 2, 1) := by decide +kernel
theorem dX1_run_175 : decode cX1_run 175 = .ok (.imul, 1) := by decide +kernel
theorem dX1_run_176 : decode cX1_run 176 = .ok (.ireturn, 1) := by decide +kernel
theorem dX1_run_177 : decode cX1_run 177 = .ok (.iload_n 2, 1) := by decide +kernel
theorem dX1_run_178 : decode cX1_run 178 = .ok (.aload_n 0, 1) := by decide +kernel
theorem dX1_run_179 : decode cX1_run 179 = .ok (.getfield 49, 3) := by decide +kernel
theorem dX1_run_182 : decode cX1_run 182 = .ok (.ixor, 1) := by decide +kernel
theorem dX1_run_183 : decode cX1_run 183 = .ok (.ireturn, 1) := by decide +kernel
theorem dX1_run_184 : decode cX1_run 184 = .ok (.aload_n 0, 1) := by decide +kernel
theorem dX1_run_185 : decode cX1_run 185 = .ok (.iconst 1, 1) := by decide +kernel
theorem dX1_run_186 : decode cX1_run 186 = .ok (.iconst 0, 1) := by decide +kernel
theorem dX1_run_187 : decode cX1_run 187 = .ok (.iload_n 2, 1) := by decide +kernel
theorem dX1_run_188 : decode cX1_run 188 = .ok (.iload_n 3, 1) := by decide +kernel
theorem dX1_run_189 : decode cX1_run 189 = .ok (.invokevirtual 70, 3) := by decide +kernel
theorem dX1_run_192 : decode cX1_run 192 = .ok (.iconst 3, 1) := by decide +kernel
theorem dX1_run_193 : decode cX1_run 193 = .ok (.iadd, 1) := by decide +kernel
theorem dX1_run_194 : decode cX1_run 194 = .ok (.ireturn, 1) := by decide +kernel
theorem dX1_run_195 : decode cX1_run 195 = .ok (.aload_n 0, 1) := by decide +kernel
theorem dX1_run_196 : decode cX1_run 196 = .ok (.iconst 2, 1) := by decide +kernel
theorem dX1_run_197 : decode cX1_run 197 = .ok (.iconst 1, 1) := by decide +kernel
theorem dX1_run_198 : decode cX1_run 198 = .ok (.iload_n 2, 1) := by decide +kernel
theorem dX1_run_199 : decode cX1_run 199 = .ok (.iload_n 3, 1) := by decide +kernel
theorem dX1_run_200 : decode cX1_run 200 = .ok (.invokevirtual 70, 3) := by decide +kernel
theorem dX1_run_203 : decode cX1_run 203 = .ok (.ineg, 1) := by decide +kernel
theorem dX1_run_204 : decode cX1_run 204 = .ok (.ireturn, 1) := by decide +kernel
theorem dX1_run_205 : decode cX1_run 205 = .ok (.aload_n 0, 1) := by decide +kernel
theorem dX1_run_206 : decode cX1_run 206 = .ok (.iconst 3, 1) := by decide +kernel
theorem dX1_run_207 : decode cX1_run 207 = .ok (.iconst 2, 1) := by decide +kernel
theorem dX1_run_208 : decode cX1_run 208 = .ok (.iload_n 2, 1) := by decide +kernel
theorem dX1_run_209 : decode cX1_run 209 = .ok (.iload_n 3, 1) := by decide +kernel
theorem dX1_run_210 : decode cX1_run 210 = .ok (.invokevirtual 70, 3) := by decide +kernel
theorem dX1_run_213 : decode cX1_run 213 = .ok (.iconst 3, 1) := by decide +kernel
theorem dX1_run_214 : decode cX1_run 214 = .ok (.imul, 1) := by decide +kernel
theorem dX1_run_215 : decode cX1_run 215 = .ok (.ireturn, 1) := by decide +kernel
theorem dX1_run_216 : decode cX1_run 216 = .ok (.aload_n 0, 1) := by decide +kernel
theorem dX1_run_217 : decode cX1_run 217 = .ok (.iconst 3, 1) := by decide +kernel
theorem dX1_run_218 : decode cX1_run 218 = .ok (.iconst 1, 1) := by decide +kernel
theorem dX1_run_219 : decode cX1_run 219 = .ok (.iload_n 2, 1) := by decide +kernel
theorem dX1_run_220 : decode cX1_run 220 = .ok (.iconst 1, 1) := by decide +kernel
theorem dX1_run_221 : decode cX1_run 221 = .ok (.iadd, 1) := by decide +kernel
theorem dX1_run_222 : decode cX1_run 222 = .ok (.iload_n 3, 1) := by decide +kernel
theorem dX1_run_223 : decode cX1_run 223 = .ok (.invokevirtual 70, 3) := by decide +kernel
theorem dX1_run_226 : decode cX1_run 226 = .ok (.ireturn, 1) := by decide +kernel
theorem dX1_run_227 : decode cX1_run 227 = .ok (.aload_n 0, 1) := by decide +kernel
theorem dX1_run_228 : decode cX1_run 228 = .ok (.iconst 4, 1) := by decide +kernel
theorem dX1_run_229 : decode cX1_run 229 = .ok (.iconst 2, 1) := by decide +kernel
theorem dX1_run_230 : decode cX1_run 230 = .ok (.iload_n 2, 1) := by decide +kernel
theorem dX1_run_231 : decode cX1_run 231 = .ok (.iload_n 3, 1) := by decide +kernel
theorem dX1_run_232 : decode cX1_run 232 = .ok (.invokevirtual 70, 3) := by decide +kernel
theorem dX1_run_235 : decode cX1_run 235 = .ok (.aload_n 0, 1) := by decide +kernel
theorem dX1_run_236 : decode cX1_run 236 = .ok (.iconst 0, 1) := by decide +kernel
theorem dX1_run_237 : decode cX1_run 237 = .ok (.iconst 2, 1) := by decide +kernel
theorem dX1_run_238 : decode cX1_run 238 = .ok (.iload_n 3, 1) := by decide +kernel
theorem dX1_run_239 : decode cX1_run 239 = .ok (.invokevirtual 52, 3) := by decide +kernel
theorem dX1_run_242 : decode cX1_run 242 = .ok (.isub, 1) := by decide +kernel
theorem dX1_run_243 : decode cX1_run 243 = .ok (.ireturn, 1) := by decide +kernel
theorem dX1_run_244 : decode cX1_run 244 = .ok (.aload_n 0, 1) := by decide +kernel
theorem dX1_run_245 : decode cX1_run 245 = .ok (.iconst 5, 1) := by decide +kernel
theorem dX1_run_246 : decode cX1_run 246 = .ok (.iconst 3, 1) := by decide +kernel
theorem dX1_run_247 : decode cX1_run 247 = .ok (.iload_n 2, 1) := by decide +kernel
theorem dX1_run_248 : decode cX1_run 248 = .ok (.iload_n 3, 1) := by decide +kernel
theorem dX1_run_249 : decode cX1_run 249 = .ok (.invokevirtual 70, 3) := by decide +kernel
theorem dX1_run_252 : decode cX1_run 252 = .ok (.iconst 5, 1) := by decide +kernel
theorem dX1_run_253 : decode cX1_run 253 = .ok (.ixor, 1) := by decide +kernel
theorem dX1_run_254 : decode cX1_run 254 = .ok (.ireturn, 1) := by decide +kernel
theorem dX1_run_255 : decode cX1_run 255 = .ok (.aload_n 0, 1) := by decide +kernel
theorem dX1_run_256 : decode cX1_run 256 = .ok (.bipush 6, 2) := by decide +kernel
theorem dX1_run_258 : decode cX1_run 258 = .ok (.iconst 0, 1) := by decide +kernel
theorem dX1_run_259 : decode cX1_run 259 = .ok (.iload_n 2, 1) := by decide +kernel
theorem dX1_run_260 : decode cX1_run 260 = .ok (.iload_n 3, 1) := by decide +kernel
theorem dX1_run_261 : decode cX1_run 261 = .ok (.invokevirtual 70, 3) := by decide +kernel
theorem dX1_run_264 : decode cX1_run 264 = .ok (.iconst 2, 1) := by decide +kernel
theorem dX1_run_265 : decode cX1_run 265 = .ok (.imul, 1) := by decide +kernel
theorem dX1_run_266 : decode cX1_run 266 = .ok (.ireturn, 1) := by decide +kernel
theorem dX1_run_267 : decode cX1_run 267 = .ok (.aload_n 0, 1) := by decide +kernel
theorem dX1_run_268 : decode cX1_run 268 = .ok (.bipush 7, 2) := by decide +kernel
theorem dX1_run_270 : decode cX1_run 270 = .ok (.iconst 1, 1) := by decide +kernel
theorem dX1_run_271 : decode cX1_run 271 = .ok (.iload_n 2, 1) := by decide +kernel
theorem dX1_run_272 : decode cX1_run 272 = .ok (.iload_n 3, 1) := by decide +kernel
theorem dX1_run_273 : decode cX1_run 273 = .ok (.invokevirtual 70, 3) := by decide +kernel
theorem dX1_run_276 : decode cX1_run 276 = .ok (.aload_n 0, 1) := by decide +kernel
theorem dX1_run_277 : decode cX1_run 277 = .ok (.iconst 2, 1) := by decide +kernel
theorem dX1_run_278 : decode cX1_run 278 = .ok (.iconst 2, 1) := by decide +kernel
theorem dX1_run_279 : decode cX1_run 279 = .ok (.iload_n 3, 1) := by decide +kernel
theorem dX1_run_280 : decode cX1_run 280 = .ok (.invokevirtual 52, 3) := by decide +kernel
theorem dX1_run_283 : decode cX1_run 283 = .ok (.iadd, 1) := by decide +kernel
theorem dX1_run_284 : decode cX1_run 284 = .ok (.ireturn, 1) := by decide +kernel
theorem dX1_run_285 : decode cX1_run 285 = .ok (.aload_n 0, 1) := by decide +kernel
theorem dX1_run_286 : decode cX1_run 286 = .ok (.bipush 7, 2) := by decide +kernel
theorem dX1_run_288 : decode cX1_run 288 = .ok (.iconst 3, 1) := by decide +kernel
theorem dX1_run_289 : decode cX1_run 289 = .ok (.iload_n 2, 1) := by decide +kernel
theorem dX1_run_290 : decode cX1_run 290 = .ok (.iload_n 3, 1) := by decide +kernel
theorem dX1_run_291 : decode cX1_run 291 = .ok (.invokevirtual 70, 3) := by decide +kernel
theorem dX1_run_294 : decode cX1_run 294 = .ok (.iconst 1, 1) := by decide +kernel
theorem dX1_run_295 : decode cX1_run 295 = .ok (.isub, 1) := by decide +kernel
theorem dX1_run_296 : decode cX1_run 296 = .ok (.ireturn, 1) := by decide +kernel
theorem dX1_run_297 : decode cX1_run 297 = .ok (.iconst 0, 1) := by decide +kernel
theorem dX1_run_298 : decode cX1_run 298 = .ok (.ireturn, 1) := by decide +kernel
theorem dX2_init_0 : decode cX2_init 0 = .ok (.aload_n 0, 1) := by decide +kernel
theorem dX2_init_1 : decode cX2_init 1 = .ok (.invokespecial 3, 3) := by decide +kernel
theorem dX2_init_4 : decode cX2_init 4 = .ok (.aload_n 0, 1) := by decide +kernel
theorem dX2_init_5 : decode cX2_init 5 = .ok (.bipush 40, 2) := by decide +kernel
theorem dX2_init_7 : decode cX2_init 7 = .ok (.newarray .int, 2) := by decide +kernel
theorem dX2_init_9 : decode cX2_init 9 = .ok (.putfield 11, 3) := by decide +kernel
theorem dX2_init_12 : decode cX2_init 12 = .ok (.aload_n 0, 1) := by decide +kernel
theorem dX2_init_13 : decode cX2_init 13 = .ok (.bipush 40, 2) := by decide +kernel
theorem dX2_init_15 : decode cX2_init 15 = .ok (.newarray .int, 2) := by decide +kernel
theorem dX2_init_17 : decode cX2_init 17 = .ok (.putfield 15, 3) := by decide +kernel
theorem dX2_init_20 : decode cX2_init 20 = .ok (.aload_n 0, 1) := by decide +kernel
theorem dX2_init_21 : decode cX2_init 21 = .ok (.bipush 40, 2) := by decide +kernel
theorem dX2_init_23 : decode cX2_init 23 = .ok (.newarray .int, 2) := by decide +kernel
theorem dX2_init_25 : decode cX2_init 25 = .ok (.putfield 18, 3) := by decide +kernel
theorem dX2_init_28 : decode cX2_init 28 = .ok (.aload_n 0, 1) := by decide +kernel
theorem dX2_init_29 : decode cX2_init 29 = .ok (.bipush 40, 2) := by decide +kernel
theorem dX2_init_31 : decode cX2_init 31 = .ok (.newarray .int, 2) := by decide +kernel
theorem dX2_init_33 : decode cX2_init 33 = .ok (.putfield 21, 3) := by decide +kernel
theorem dX2_init_36 : decode cX2_init 36 = .ok (.aload_n 0, 1) := by decide +kernel
theorem dX2_init_37 : decode cX2_init 37 = .ok (.aload_n 1, 1) := by decide +kernel
theorem dX2_init_38 : decode cX2_init 38 = .ok (.putfield 24, 3) := by decide +kernel
theorem dX2_init_41 : decode cX2_init 41 = .ok (.return_, 1) := by decide +kernel
theorem dX2_mayBeUndone_0 : decode cX2_mayBeUndone 0 = .ok (.aload_n 0, 1) := by decide +kernel
theorem dX2_mayBeUndone_1 : decode cX2_mayBeUndone 1 = .ok (.getfield 28, 3) := by decide +kernel
theorem dX2_mayBeUndone_4 : decode cX2_mayBeUndone 4 = .ok (.ireturn, 1) := by decide +kernel
theorem dX2_mayBeRedone_0 : decode cX2_mayBeRedone 0 = .ok (.aload_n 0, 1) := by decide +kernel
theorem dX2_mayBeRedone_1 : decode cX2_mayBeRedone 1 = .ok (.getfield 32, 3) := by decide +kernel
theorem dX2_mayBeRedone_4 : decode cX2_mayBeRedone 4 = .ok (.ireturn, 1) := by decide +kernel
theorem dX2_remember_0 : decode cX2_remember 0 = .ok (.aload_n 0, 1) := by decide +kernel
theorem dX2_remember_1 : decode cX2_remember 1 = .ok (.getfield 28, 3) := by decide +kernel
theorem dX2_remember_4 : decode cX2_remember 4 = .ok (.bipush 40, 2) := by decide +kernel
theorem dX2_remember_6 : decode cX2_remember 6 = .ok (.if_icmp .lt 7, 3) := by decide +kernel
theorem dX2_remember_9 : decode cX2_remember 9 = .ok (.aload_n 0, 1) := by decide +kernel
theorem dX2_remember_10 : decode cX2_remember 10 = .ok (.invokevirtual 35, 3) := by decide +kernel
theorem dX2_remember_13 : decode cX2_remember 13 = .ok (.aload_n 0, 1) := by decide +kernel
theorem dX2_remember_14 : decode cX2_remember 14 = .ok (.getfield 11, 3) := by decide +kernel
theorem dX2_remember_17 : decode cX2_remember 17 = .ok (.aload_n 0, 1) := by decide +kernel
theorem dX2_remember_18 : decode cX2_remember 18 = .ok (.getfield 28, 3) := by decide +kernel
theorem dX2_remember_21 : decode cX2_remember 21 = .ok (.iload_n 1, 1) := by decide +kernel
theorem dX2_remember_22 : decode cX2_remember 22 = .ok (.iastore, 1) := by decide +kernel
theorem dX2_remember_23 : decode cX2_remember 23 = .ok (.aload_n 0, 1) := by decide +kernel
theorem dX2_remember_24 : decode cX2_remember 24 = .ok (.getfield 15, 3) := by decide +kernel
theorem dX2_remember_27 : decode cX2_remember 27 = .ok (.aload_n 0, 1) := by decide +kernel
theorem dX2_remember_28 : decode cX2_remember 28 = .ok (.getfield 28, 3) := by decide +kernel
theorem dX2_remember_31 : decode cX2_remember 31 = .ok (.iload_n 2, 1) := by decide +kernel
theorem dX2_remember_32 : decode cX2_remember 32 = .ok (.iastore, 1) := by decide +kernel
theorem dX2_remember_33 : decode cX2_remember 33 = .ok (.aload_n 0, 1) := by decide +kernel
theorem dX2_remember_34 : decode cX2_remember 34 = .ok (.getfield 18, 3) := by decide +kernel
theorem dX2_remember_37 : decode cX2_remember 37 = .ok (.aload_n 0, 1) := by decide +kernel
theorem dX2_remember_38 : decode cX2_remember 38 = .ok (.getfield 28, 3) := by decide +kernel
theorem dX2_remember_41 : decode cX2_remember 41 = .ok (.iload_n 3, 1) := by decide +kernel
theorem dX2_remember_42 : decode cX2_remember 42 = .ok (.iastore, 1) := by decide +kernel
theorem dX2_remember_43 : decode cX2_remember 43 = .ok (.aload_n 0, 1) := by decide +kernel
theorem dX2_remember_44 : decode cX2_remember 44 = .ok (.getfield 21, 3) := by decide +kernel
theorem dX2_remember_47 : decode cX2_remember 47 = .ok (.aload_n 0, 1) := by decide +kernel
theorem dX2_remember_48 : decode cX2_remember 48 = .ok (.getfield 28, 3) := by decide +kernel
theorem dX2_remember_51 : decode cX2_remember 51 = .ok (.iload 4, 2) := by decide +kernel
theorem dX2_remember_53 : decode cX2_remember 53 = .ok (.iastore, 1) := by decide +kernel
theorem dX2_remember_54 : decode cX2_remember 54 = .ok (.aload_n 0, 1) := by decide +kernel
theorem dX2_remember_55 : decode cX2_remember 55 = .ok (.dup, 1) := by decide +kernel
theorem dX2_remember_56 : decode cX2_remember 56 = .ok (.getfield 28, 3) := by decide +kernel
theorem dX2_remember_59 : decode cX2_remember 59 = .ok (.iconst 1, 1) := by decide +kernel
theorem dX2_remember_60 : decode cX2_remember 60 = .ok (.iadd, 1) := by decide +kernel
theorem dX2_remember_61 : decode cX2_remember 61 = .ok (.putfield 28, 3) := by decide +kernel
theorem dX2_remember_64 : decode cX2_remember 64 = .ok (.aload_n 0, 1) := by decide +kernel
theorem dX2_remember_65 : decode cX2_remember 65 = .ok (.iconst 0, 1) := by decide +kernel
theorem dX2_remember_66 : decode cX2_remember 66 = .ok (.putfield 32, 3) := by decide +kernel
theorem dX2_remember_69 : decode cX2_remember 69 = .ok (.return_, 1) := by decide +kernel
theorem dX2_forgetOldest_0 : decode cX2_forgetOldest 0 = .ok (.aload_n 0, 1) := by decide +kernel
theorem dX2_forgetOldest_1 : decode cX2_forgetOldest 1 = .ok (.bipush 39, 2) := by decide +kernel
theorem dX2_forgetOldest_3 : decode cX2_forgetOldest 3 = .ok (.putfield 28, 3) := by decide +kernel
theorem dX2_forgetOldest_6 : decode cX2_forgetOldest 6 = .ok (.aload_n 0, 1) := by decide +kernel
theorem dX2_forgetOldest_7 : decode cX2_forgetOldest 7 = .ok (.getfield 11, 3) := by decide +kernel
theorem dX2_forgetOldest_10 : decode cX2_forgetOldest 10 = .ok (.iconst 1, 1) := by decide +kernel
theorem dX2_forgetOldest_11 : decode cX2_forgetOldest 11 = .ok (.aload_n 0, 1) := by decide +kernel
theorem dX2_forgetOldest_12 : decode cX2_forgetOldest 12 = .ok (.getfield 11, 3) := by decide +kernel
theorem dX2_forgetOldest_15 : decode cX2_forgetOldest 15 = .ok (.iconst 0, 1) := by decide +kernel
theorem dX2_forgetOldest_16 : decode cX2_forgetOldest 16 = .ok (.aload_n 0, 1) := by decide +kernel
theorem dX2_forgetOldest_17 : decode cX2_forgetOldest 17 = .ok (.getfield 28, 3) := by decide +kernel
theorem dX2_forgetOldest_20 : decode cX2_forgetOldest 20 = .ok (.invokestatic 38, 3) := by decide +kernel
theorem dX2_forgetOldest_23 : decode cX2_forgetOldest 23 = .ok (.aload_n 0, 1) := by decide +kernel
theorem dX2_forgetOldest_24 : decode cX2_forgetOldest 24 = .ok (.getfield 15, 3) := by decide +kernel
theorem dX2_forgetOldest_27 : decode cX2_forgetOldest 27 = .ok (.iconst 1, 1) := by decide +kernel
theorem dX2_forgetOldest_28 : decode cX2_forgetOldest 28 = .ok (.aload_n 0, 1) := by decide +kernel
theorem dX2_forgetOldest_29 : decode cX2_forgetOldest 29 = .ok (.getfield 15, 3) := by decide +kernel
theorem dX2_forgetOldest_32 : decode cX2_forgetOldest 32 = .ok (.iconst 0, 1) := by decide +kernel
theorem dX2_forgetOldest_33 : decode cX2_forgetOldest 33 = .ok (.aload_n 0, 1) := by decide +kernel
theorem dX2_forgetOldest_34 : decode cX2_forgetOldest 34 = .ok (.getfield 28, 3) := by decide +kernel
theorem dX2_forgetOldest_37 : decode cX2_forgetOldest 37 = .ok (.invokestatic 38, 3) := by decide +kernel
theorem dX2_forgetOldest_40 : decode cX2_forgetOldest 40 = .ok (.aload_n 0, 1) := by decide +kernel
theorem dX2_forgetOldest_41 : decode cX2_forgetOldest 41 = .ok (.getfield 18, 3) := by decide +kernel
theorem dX2_forgetOldest_44 : decode cX2_forgetOldest 44 = .ok (.iconst 1, 1) := by decide +kernel
theorem dX2_forgetOldest_45 : decode cX2_forgetOldest 45 = .ok (.aload_n 0, 1) := by decide +kernel
theorem dX2_forgetOldest_46 : decode cX2_forgetOldest 46 = .ok (.getfield 18, 3) := by decide +kernel
theorem dX2_forgetOldest_49 : decode cX2_forgetOldest 49 = .ok (.iconst 0, 1) := by decide +kernel
theorem dX2_forgetOldest_50 : decode cX2_forgetOldest 50 = .ok (.aload_n 0, 1) := by decide +kernel
theorem dX2_forgetOldest_51 : decode cX2_forgetOldest 51 = .ok (.getfield 28, 3) := by decide +kernel
theorem dX2_forgetOldest_54 : decode cX2_forgetOldest 54 = .ok (.invokestatic 38, 3) := by decide +kernel
theorem dX2_forgetOldest_57 : decode cX2_forgetOldest 57 = .ok (.aload_n 0, 1) := by decide +kernel
theorem dX2_forgetOldest_58 : decode cX2_forgetOldest 58 = .ok (.getfield 21, 3) := by decide +kernel
theorem dX2_forgetOldest_61 : decode cX2_forgetOldest 61 = .ok (.iconst 1, 1) := by decide +kernel
theorem dX2_forgetOldest_62 : decode cX2_forgetOldest 62 = .ok (.aload_n 0, 1) := by decide +kernel
theorem dX2_forgetOldest_63 : decode cX2_forgetOldest 63 = .ok (.getfield 21, 3) := by decide +kernel
theorem dX2_forgetOldest_66 : decode cX2_forgetOldest 66 = .ok (.iconst 0, 1) := by decide +kernel
theorem dX2_forgetOldest_67 : decode cX2_forgetOldest 67 = .ok (.aload_n 0, 1) := by decide +kernel
theorem dX2_forgetOldest_68 : decode cX2_forgetOldest 68 = .ok (.getfield 28, 3) := by decide +kernel
theorem dX2_forgetOldest_71 : decode cX2_forgetOldest 71 = .ok (.invokestatic 38, 3) := by decide +kernel
theorem dX2_forgetOldest_74 : decode cX2_forgetOldest 74 = .ok (.return_, 1) := by decide +kernel
theorem dX2_undoLatest_0 : decode cX2_undoLatest 0 = .ok (.aload_n 0, 1) := by decide +kernel
theorem dX2_undoLatest_1 : decode cX2_undoLatest 1 = .ok (.getfield 28, 3) := by decide +kernel
theorem dX2_undoLatest_4 : decode cX2_undoLatest 4 = .ok (.ifCond .gt 6, 3) := by decide +kernel
theorem dX2_undoLatest_7 : decode cX2_undoLatest 7 = .ok (.bipush (-5), 2) := by decide +kernel
theorem dX2_undoLatest_9 : decode cX2_undoLatest 9 = .ok (.ireturn, 1) := by decide +kernel
theorem dX2_undoLatest_10 : decode cX2_undoLatest 10 = .ok (.aload_n 0, 1) := by decide +kernel
theorem dX2_undoLatest_11 : decode cX2_undoLatest 11 = .ok (.dup, 1) := by decide +kernel
theorem dX2_undoLatest_12 : decode cX2_undoLatest 12 = .ok (.getfield 28, 3) := by decide +kernel
theorem dX2_undoLatest_15 : decode cX2_undoLatest 15 = .ok (.iconst 1, 1) := by decide +kernel
theorem dX2_undoLatest_16 : decode cX2_undoLatest 16 = .ok (.isub, 1) := by decide +kernel
theorem dX2_undoLatest_17 : decode cX2_undoLatest 17 = .ok (.putfield 28, 3) := by decide +kernel
theorem dX2_undoLatest_20 : decode cX2_undoLatest 20 = .ok (.aload_n 0, 1) := by decide +kernel
theorem dX2_undoLatest_21 : decode cX2_undoLatest 21 = .ok (.dup, 1) := by decide +kernel
theorem dX2_undoLatest_22 : decode cX2_undoLatest 22 = .ok (.getfield 32, 3) := by decide +kernel
theorem dX2_undoLatest_25 : decode cX2_undoLatest 25 = .ok (.iconst 1, 1) := by decide +kernel
theorem dX2_undoLatest_26 : decode cX2_undoLatest 26 = .ok (.iadd, 1) := by decide +kernel
theorem dX2_undoLatest_27 : decode cX2_undoLatest 27 = .ok (.putfield 32, 3) := by decide +kernel
theorem dX2_undoLatest_30 : decode cX2_undoLatest 30 = .ok (.aload_n 0, 1) := by decide +kernel
theorem dX2_undoLatest_31 : decode cX2_undoLatest 31 = .ok (.getfield 24, 3) := by decide +kernel
theorem dX2_undoLatest_34 : decode cX2_undoLatest 34 = .ok (.aload_n 0, 1) := by decide +kernel
theorem dX2_undoLatest_35 : decode cX2_undoLatest 35 = .ok (.getfield 11, 3) := by decide +kernel
theorem dX2_undoLatest_38 : decode cX2_undoLatest 38 = .ok (.aload_n 0, 1) := by decide +kernel
theorem dX2_undoLatest_39 : decode cX2_undoLatest 39 = .ok (.getfield 28, 3) := by decide +kernel
theorem dX2_undoLatest_42 : decode cX2_undoLatest 42 = .ok (.iaload, 1) := by decide +kernel
theorem dX2_undoLatest_43 : decode cX2_undoLatest 43 = .ok (.aload_n 0, 1) := by decide +kernel
theorem dX2_undoLatest_44 : decode cX2_undoLatest 44 = .ok (.getfield 15, 3) := by decide +kernel
theorem dX2_undoLatest_47 : decode cX2_undoLatest 47 = .ok (.aload_n 0, 1) := by decide +kernel
theorem dX2_undoLatest_48 : decode cX2_undoLatest 48 = .ok (.getfield 28, 3) := by decide +kernel
theorem dX2_undoLatest_51 : decode cX2_undoLatest 51 = .ok (.iaload, 1) := by decide +kernel
theorem dX2_undoLatest_52 : decode cX2_undoLatest 52 = .ok (.aload_n 0, 1) := by decide +kernel
theorem dX2_undoLatest_53 : decode cX2_undoLatest 53 = .ok (.getfield 18, 3) := by decide +kernel
theorem dX2_undoLatest_56 : decode cX2_undoLatest 56 = .ok (.aload_n 0, 1) := by decide +kernel
theorem dX2_undoLatest_57 : decode cX2_undoLatest 57 = .ok (.getfield 28, 3) := by decide +kernel
theorem dX2_undoLatest_60 : decode cX2_undoLatest 60 = .ok (.iaload, 1) := by decide +kernel
theorem dX2_undoLatest_61 : decode cX2_undoLatest 61 = .ok (.invokevirtual 44, 3) := by decide +kernel
theorem dX2_undoLatest_64 : decode cX2_undoLatest 64 = .ok (.aload_n 0, 1) := by decide +kernel
theorem dX2_undoLatest_65 : decode cX2_undoLatest 65 = .ok (.getfield 28, 3) := by decide +kernel
theorem dX2_undoLatest_68 : decode cX2_undoLatest 68 = .ok (.ireturn, 1) := by decide +kernel
theorem dX2_redoNext_0 : decode cX2_redoNext 0 = .ok (.aload_n 0, 1) := by decide +kernel
theorem dX2_redoNext_1 : decode cX2_redoNext 1 = .ok (.getfield 32, 3) := by decide +kernel
theorem dX2_redoNext_4 : decode cX2_redoNext 4 = .ok (.ifCond .le 12, 3) := by decide +kernel
theorem dX2_redoNext_7 : decode cX2_redoNext 7 = .ok (.aload_n 0, 1) := by decide +kernel
theorem dX2_redoNext_8 : decode cX2_redoNext 8 = .ok (.getfield 28, 3) := by decide +kernel
theorem dX2_redoNext_11 : decode cX2_redoNext 11 = .ok (.bipush 40, 2) := by decide +kernel
theorem dX2_redoNext_13 : decode cX2_redoNext 13 = .ok (.if_icmp .lt 6, 3) := by decide +kernel
theorem dX2_redoNext_16 : decode cX2_redoNext 16 = .ok (.bipush (-5), 2) := by decide +kernel
theorem dX2_redoNext_18 : decode cX2_redoNext 18 = .ok (.ireturn, 1) := by decide +kernel
theorem dX2_redoNext_19 : decode cX2_redoNext 19 = .ok (.aload_n 0, 1) := by decide +kernel
theorem dX2_redoNext_20 : decode cX2_redoNext 20 = .ok (.getfield 24, 3) := by decide +kernel
theorem dX2_redoNext_23 : decode cX2_redoNext 23 = .ok (.aload_n 0, 1) := by decide +kernel
theorem dX2_redoNext_24 : decode cX2_redoNext 24 = .ok (.getfield 11, 3) := by decide +kernel
theorem dX2_redoNext_27 : decode cX2_redoNext 27 = .ok (.aload_n 0, 1) := by decide +kernel
theorem dX2_redoNext_28 : decode cX2_redoNext 28 = .ok (.getfield 28, 3) := by decide +kernel
theorem dX2_redoNext_31 : decode cX2_redoNext 31 = .ok (.iaload, 1) := by decide +kernel
theorem dX2_redoNext_32 : decode cX2_redoNext 32 = .ok (.aload_n 0, 1) := by decide +kernel
theorem dX2_redoNext_33 : decode cX2_redoNext 33 = .ok (.getfield 15, 3) := by decide +kernel
theorem dX2_redoNext_36 : decode cX2_redoNext 36 = .ok (.aload_n 0, 1) := by decide +kernel
theorem dX2_redoNext_37 : decode cX2_redoNext 37 = .ok (.getfield 28, 3) := by decide +kernel
theorem dX2_redoNext_40 : decode cX2_redoNext 40 = .ok (.iaload, 1) := by decide +kernel
theorem dX2_redoNext_41 : decode cX2_redoNext 41 = .ok (.aload_n 0, 1) := by decide +kernel
theorem dX2_redoNext_42 : decode cX2_redoNext 42 = .ok (.getfield 21, 3) := by decide +kernel
theorem dX2_redoNext_45 : decode cX2_redoNext 45 = .ok (.aload_n 0, 1) := by decide +kernel
theorem dX2_redoNext_46 : decode cX2_redoNext 46 = .ok (.getfield 28, 3) := by decide +kernel
theorem dX2_redoNext_49 : decode cX2_redoNext 49 = .ok (.iaload, 1) := by decide +kernel
theorem dX2_redoNext_50 : decode cX2_redoNext 50 = .ok (.invokevirtual 44, 3) := by decide +kernel
theorem dX2_redoNext_53 : decode cX2_redoNext 53 = .ok (.aload_n 0, 1) := by decide +kernel
theorem dX2_redoNext_54 : decode cX2_redoNext 54 = .ok (.dup, 1) := by decide +kernel
theorem dX2_redoNext_55 : decode cX2_redoNext 55 = .ok (.getfield 28, 3) := by decide +kernel
theorem dX2_redoNext_58 : decode cX2_redoNext 58 = .ok (.iconst 1, 1) := by decide +kernel
theorem dX2_redoNext_59 : decode cX2_redoNext 59 = .ok (.iadd, 1) := by decide +kernel
theorem dX2_redoNext_60 : decode cX2_redoNext 60 = .ok (.putfield 28, 3) := by decide +kernel
theorem dX2_redoNext_63 : decode cX2_redoNext 63 = .ok (.aload_n 0, 1) := by decide +kernel
theorem dX2_redoNext_64 : decode cX2_redoNext 64 = .ok (.dup, 1) := by decide +kernel
theorem dX2_redoNext_65 : decode cX2_redoNext 65 = .ok (.getfield 32, 3) := by decide +kernel
theorem dX2_redoNext_68 : decode cX2_redoNext 68 = .ok (.iconst 1, 1) := by decide +kernel
theorem dX2_redoNext_69 : decode cX2_redoNext 69 = .ok (.isub, 1) := by decide +kernel
theorem dX2_redoNext_70 : decode cX2_redoNext 70 = .ok (.putfield 32, 3) := by decide +kernel
theorem dX2_redoNext_73 : decode cX2_redoNext 73 = .ok (.aload_n 0, 1) := by decide +kernel
theorem dX2_redoNext_74 : decode cX2_redoNext 74 = .ok (.getfield 32, 3) := by decide +kernel
theorem dX2_redoNext_77 : decode cX2_redoNext 77 = .ok (.ireturn, 1) := by decide +kernel
theorem dX3_init_0 : decode cX3_init 0 = .ok (.aload_n 0, 1) := by decide +kernel
theorem dX3_init_1 : decode cX3_init 1 = .ok (.invokespecial 3, 3) := by decide +kernel
theorem dX3_init_4 : decode cX3_init 4 = .ok (.aload_n 0, 1) := by decide +kernel
theorem dX3_init_5 : decode cX3_init 5 = .ok (.iconst 5, 1) := by decide +kernel
theorem dX3_init_6 : decode cX3_init 6 = .ok (.newarray .int, 2) := by decide +kernel
theorem dX3_init_8 : decode cX3_init 8 = .ok (.putfield 11, 3) := by decide +kernel
theorem dX3_init_11 : decode cX3_init 11 = .ok (.aload_n 0, 1) := by decide +kernel
theorem dX3_init_12 : decode cX3_init 12 = .ok (.iconst 5, 1) := by decide +kernel
theorem dX3_init_13 : decode cX3_init 13 = .ok (.newarray .int, 2) := by decide +kernel
theorem dX3_init_15 : decode cX3_init 15 = .ok (.putfield 15, 3) := by decide +kernel
theorem dX3_init_18 : decode cX3_init 18 = .ok (.aload_n 0, 1) := by decide +kernel
theorem dX3_init_19 : decode cX3_init 19 = .ok (.bipush 40, 2) := by decide +kernel
theorem dX3_init_21 : decode cX3_init 21 = .ok (.newarray .int, 2) := by decide +kernel
theorem dX3_init_23 : decode cX3_init 23 = .ok (.putfield 18, 3) := by decide +kernel
theorem dX3_init_26 : decode cX3_init 26 = .ok (.aload_n 0, 1) := by decide +kernel
theorem dX3_init_27 : decode cX3_init 27 = .ok (.aload_n 1, 1) := by decide +kernel
theorem dX3_init_28 : decode cX3_init 28 = .ok (.putfield 21, 3) := by decide +kernel
theorem dX3_init_31 : decode cX3_init 31 = .ok (.aload_n 0, 1) := by decide +kernel
theorem dX3_init_32 : decode cX3_init 32 = .ok (.new 25, 3) := by decide +kernel
theorem dX3_init_35 : decode cX3_init 35 = .ok (.dup, 1) := by decide +kernel
theorem dX3_init_36 : decode cX3_init 36 = .ok (.aload_n 1, 1) := by decide +kernel
theorem dX3_init_37 : decode cX3_init 37 = .ok (.aload_n 2, 1) := by decide +kernel
theorem dX3_init_38 : decode cX3_init 38 = .ok (.invokespecial 27, 3) := by decide +kernel
theorem dX3_init_41 : decode cX3_init 41 = .ok (.putfield 30, 3) := by decide +kernel
theorem dX3_init_44 : decode cX3_init 44 = .ok (.return_, 1) := by decide +kernel
theorem dX3_tell_0 : decode cX3_tell 0 = .ok (.iload_n 1, 1) := by decide +kernel
theorem dX3_tell_1 : decode cX3_tell 1 = .ok (.iconst 0, 1) := by decide +kernel
theorem dX3_tell_2 : decode cX3_tell 2 = .ok (.iconst 4, 1) := by decide +kernel
theorem dX3_tell_3 : decode cX3_tell 3 = .ok (.invokestatic 34, 3) := by decide +kernel
theorem dX3_tell_6 : decode cX3_tell 6 = .ok (.ifCond .eq 12, 3) := by decide +kernel
theorem dX3_tell_9 : decode cX3_tell 9 = .ok (.aload_n 0, 1) := by decide +kernel
theorem dX3_tell_10 : decode cX3_tell 10 = .ok (.getfield 11, 3) := by decide +kernel
theorem dX3_tell_13 : decode cX3_tell 13 = .ok (.iload_n 1, 1) := by decide +kernel
theorem dX3_tell_14 : decode cX3_tell 14 = .ok (.iaload, 1) := by decide +kernel
theorem dX3_tell_15 : decode cX3_tell 15 = .ok (.goto 4, 3) := by decide +kernel
theorem dX3_tell_18 : decode cX3_tell 18 = .ok (.iconst (-1), 1) := by decide +kernel
theorem dX3_tell_19 : decode cX3_tell 19 = .ok (.ireturn, 1) := by decide +kernel
theorem dX3_passCentury_0 : decode cX3_passCentury 0 = .ok (.iconst 0, 1) := by decide +kernel
theorem dX3_passCentury_1 : decode cX3_passCentury 1 = .ok (.istore_n 1, 1) := by decide +kernel
theorem dX3_passCentury_2 : decode cX3_passCentury 2 = .ok (.iload_n 1, 1) := by decide +kernel
theorem dX3_passCentury_3 : decode cX3_passCentury 3 = .ok (.aload_n 0, 1) := by decide +kernel
theorem dX3_passCentury_4 : decode cX3_passCentury 4 = .ok (.getfield 21, 3) := by decide +kernel
theorem dX3_passCentury_7 : decode cX3_passCentury 7 = .ok (.invokevirtual 38, 3) := by decide +kernel
theorem dX3_passCentury_10 : decode cX3_passCentury 10 = .ok (.if_icmp .ge 41, 3) := by decide +kernel
theorem dX3_passCentury_13 : decode cX3_passCentury 13 = .ok (.aload_n 0, 1) := by decide +kernel
theorem dX3_passCentury_14 : decode cX3_passCentury 14 = .ok (.getfield 30, 3) := by decide +kernel
theorem dX3_passCentury_17 : decode cX3_passCentury 17 = .ok (.iload_n 1, 1) := by decide +kernel
theorem dX3_passCentury_18 : decode cX3_passCentury 18 = .ok (.invokevirtual 44, 3) := by decide +kernel
theorem dX3_passCentury_21 : decode cX3_passCentury 21 = .ok (.aload_n 0, 1) := by decide +kernel
theorem dX3_passCentury_22 : decode cX3_passCentury 22 = .ok (.getfield 30, 3) := by decide +kernel
theorem dX3_passCentury_25 : decode cX3_passCentury 25 = .ok (.iconst 1, 1) := by decide +kernel
theorem dX3_passCentury_26 : decode cX3_passCentury 26 = .ok (.invokevirtual 48, 3) := by decide +kernel
theorem dX3_passCentury_29 : decode cX3_passCentury 29 = .ok (.aload_n 0, 1) := by decide +kernel
theorem dX3_passCentury_30 : decode cX3_passCentury 30 = .ok (.getfield 21, 3) := by decide +kernel
theorem dX3_passCentury_33 : decode cX3_passCentury 33 = .ok (.iload_n 1, 1) := by decide +kernel
theorem dX3_passCentury_34 : decode cX3_passCentury 34 = .ok (.iconst 1, 1) := by decide +kernel
theorem dX3_passCentury_35 : decode cX3_passCentury 35 = .ok (.aload_n 0, 1) := by decide +kernel
theorem dX3_passCentury_36 : decode cX3_passCentury 36 = .ok (.getfield 30, 3) := by decide +kernel
theorem dX3_passCentury_39 : decode cX3_passCentury 39 = .ok (.invokevirtual 51, 3) := by decide +kernel
theorem dX3_passCentury_42 : decode cX3_passCentury 42 = .ok (.invokevirtual 54, 3) := by decide +kernel
theorem dX3_passCentury_45 : decode cX3_passCentury 45 = .ok (.iinc 1 1, 3) := by decide +kernel
theorem dX3_passCentury_48 : decode cX3_passCentury 48 = .ok (.goto (-46), 3) := by decide +kernel
theorem dX3_passCentury_51 : decode cX3_passCentury 51 = .ok (.aload_n 0, 1) := by decide +kernel
theorem dX3_passCentury_52 : decode cX3_passCentury 52 = .ok (.getfield 21, 3) := by decide +kernel
theorem dX3_passCentury_55 : decode cX3_passCentury 55 = .ok (.iconst 0, 1) := by decide +kernel
theorem dX3_passCentury_56 : decode cX3_passCentury 56 = .ok (.bipush 7, 2) := by decide +kernel
theorem dX3_passCentury_58 : decode cX3_passCentury 58 = .ok (.aload_n 0, 1) := by decide +kernel
theorem dX3_passCentury_59 : decode cX3_passCentury 59 = .ok (.getfield 21, 3) := by decide +kernel
theorem dX3_passCentury_62 : decode cX3_passCentury 62 = .ok (.invokevirtual 58, 3) := by decide +kernel
theorem dX3_passCentury_65 : decode cX3_passCentury 65 = .ok (.iconst 1, 1) := by decide +kernel
theorem dX3_passCentury_66 : decode cX3_passCentury 66 = .ok (.iadd, 1) := by decide +kernel
theorem dX3_passCentury_67 : decode cX3_passCentury 67 = .ok (.bipush 99, 2) := by decide +kernel
theorem dX3_passCentury_69 : decode cX3_passCentury 69 = .ok (.invokestatic 61, 3) := by decide +kernel
theorem dX3_passCentury_72 : decode cX3_passCentury 72 = .ok (.invokevirtual 54, 3) := by decide +kernel
theorem dX3_passCentury_75 : decode cX3_passCentury 75 = .ok (.aload_n 0, 1) := by decide +kernel
theorem dX3_passCentury_76 : decode cX3_passCentury 76 = .ok (.getfield 11, 3) := by decide +kernel
theorem dX3_passCentury_79 : decode cX3_passCentury 79 = .ok (.iconst 0, 1) := by decide +kernel
theorem dX3_passCentury_80 : decode cX3_passCentury 80 = .ok (.dup2, 1) := by decide +kernel
theorem dX3_passCentury_81 : decode cX3_passCentury 81 = .ok (.iaload, 1) := by decide +kernel
theorem dX3_passCentury_82 : decode cX3_passCentury 82 = .ok (.iconst 1, 1) := by decide +kernel
theorem dX3_passCentury_83 : decode cX3_passCentury 83 = .ok (.iadd, 1) := by decide +kernel
theorem dX3_passCentury_84 : decode cX3_passCentury 84 = .ok (.iastore, 1) := by decide +kernel
theorem dX3_passCentury_85 : decode cX3_passCentury 85 = .ok (.aload_n 0, 1) := by decide +kernel
theorem dX3_passCentury_86 : decode cX3_passCentury 86 = .ok (.getfield 21, 3) := by decide +kernel
theorem dX3_passCentury_89 : decode cX3_passCentury 89 = .ok (.invokevirtual 58, 3) := by decide +kernel
theorem dX3_passCentury_92 : decode cX3_passCentury 92 = .ok (.ireturn, 1) := by decide +kernel
theorem dX3_openOne_0 : decode cX3_openOne 0 = .ok (.aload_n 0, 1) := by decide +kernel
theorem dX3_openOne_1 : decode cX3_openOne 1 = .ok (.getfield 21, 3) := by decide +kernel
theorem dX3_openOne_4 : decode cX3_openOne 4 = .ok (.iload_n 1, 1) := by decide +kernel
theorem dX3_openOne_5 : decode cX3_openOne 5 = .ok (.invokevirtual 67, 3) := by decide +kernel
theorem dX3_openOne_8 : decode cX3_openOne 8 = .ok (.istore_n 2, 1) := by decide +kernel
theorem dX3_openOne_9 : decode cX3_openOne 9 = .ok (.aload_n 0, 1) := by decide +kernel
theorem dX3_openOne_10 : decode cX3_openOne 10 = .ok (.getfield 21, 3) := by decide +kernel
theorem dX3_openOne_13 : decode cX3_openOne 13 = .ok (.iload_n 1, 1) := by decide +kernel
theorem dX3_openOne_14 : decode cX3_openOne 14 = .ok (.iconst 3, 1) := by decide +kernel
theorem dX3_openOne_15 : decode cX3_openOne 15 = .ok (.iconst 1, 1) := by decide +kernel
theorem dX3_openOne_16 : decode cX3_openOne 16 = .ok (.invokevirtual 54, 3) := by decide +kernel
theorem dX3_openOne_19 : decode cX3_openOne 19 = .ok (.aload_n 0, 1) := by decide +kernel
theorem dX3_openOne_20 : decode cX3_openOne 20 = .ok (.getfield 11, 3) := by decide +kernel
theorem dX3_openOne_23 : decode cX3_openOne 23 = .ok (.iconst 1, 1) := by decide +kernel
theorem dX3_openOne_24 : decode cX3_openOne 24 = .ok (.dup2, 1) := by decide +kernel
theorem dX3_openOne_25 : decode cX3_openOne 25 = .ok (.iaload, 1) := by decide +kernel
theorem dX3_openOne_26 : decode cX3_openOne 26 = .ok (.iconst 1, 1) := by decide +kernel
theorem dX3_openOne_27 : decode cX3_openOne 27 = .ok (.iadd, 1) := by decide +kernel
theorem dX3_openOne_28 : decode cX3_openOne 28 = .ok (.iastore, 1) := by decide +kernel
theorem dX3_openOne_29 : decode cX3_openOne 29 = .ok (.aload_n 0, 1) := by decide +kernel
theorem dX3_openOne_30 : decode cX3_openOne 30 = .ok (.getfield 11, 3) := by decide +kernel
theorem dX3_openOne_33 : decode cX3_openOne 33 = .ok (.iconst 2, 1) := by decide +kernel
theorem dX3_openOne_34 : decode cX3_openOne 34 = .ok (.dup2, 1) := by decide +kernel
theorem dX3_openOne_35 : decode cX3_openOne 35 = .ok (.iaload, 1) := by decide +kernel
theorem dX3_openOne_36 : decode cX3_openOne 36 = .ok (.iload_n 2, 1) := by decide +kernel
theorem dX3_openOne_37 : decode cX3_openOne 37 = .ok (.iadd, 1) := by decide +kernel
theorem dX3_openOne_38 : decode cX3_openOne 38 = .ok (.iastore, 1) := by decide +kernel
theorem dX3_openOne_39 : decode cX3_openOne 39 = .ok (.aload_n 0, 1) := by decide +kernel
theorem dX3_openOne_40 : decode cX3_openOne 40 = .ok (.getfield 11, 3) := by decide +kernel
theorem dX3_openOne_43 : decode cX3_openOne 43 = .ok (.iconst 3, 1) := by decide +kernel
theorem dX3_openOne_44 : decode cX3_openOne 44 = .ok (.dup2, 1) := by decide +kernel
theorem dX3_openOne_45 : decode cX3_openOne 45 = .ok (.iaload, 1) := by decide +kernel
theorem dX3_openOne_46 : decode cX3_openOne 46 = .ok (.iconst 1, 1) := by decide +kernel
theorem dX3_openOne_47 : decode cX3_openOne 47 = .ok (.iload_n 2, 1) := by decide +kernel
theorem dX3_openOne_48 : decode cX3_openOne 48 = .ok (.ishl, 1) := by decide +kernel
theorem dX3_openOne_49 : decode cX3_openOne 49 = .ok (.ior, 1) := by decide +kernel
theorem dX3_openOne_50 : decode cX3_openOne 50 = .ok (.iastore, 1) := by decide +kernel
theorem dX3_openOne_51 : decode cX3_openOne 51 = .ok (.iload_n 2, 1) := by decide +kernel
theorem dX3_openOne_52 : decode cX3_openOne 52 = .ok (.ireturn, 1) := by decide +kernel
theorem dX3_passHours_0 : decode cX3_passHours 0 = .ok (.iconst 0, 1) := by decide +kernel
theorem dX3_passHours_1 : decode cX3_passHours 1 = .ok (.istore_n 2, 1) := by decide +kernel
theorem dX3_passHours_2 : decode cX3_passHours 2 = .ok (.iconst 0, 1) := by decide +kernel
theorem dX3_passHours_3 : decode cX3_passHours 3 = .ok (.istore_n 3, 1) := by decide +kernel
theorem dX3_passHours_4 : decode cX3_passHours 4 = .ok (.iload_n 3, 1) := by decide +kernel
theorem dX3_passHours_5 : decode cX3_passHours 5 = .ok (.aload_n 0, 1) := by decide +kernel
theorem dX3_passHours_6 : decode cX3_passHours 6 = .ok (.getfield 21, 3) := by decide +kernel
theorem dX3_passHours_9 : decode cX3_passHours 9 = .ok (.invokevirtual 38, 3) := by decide +kernel
theorem dX3_passHours_12 : decode cX3_passHours 12 = .ok (.if_icmp .ge 78, 3) := by decide +kernel
theorem dX3_passHours_15 : decode cX3_passHours 15 = .ok (.aload_n 0, 1) := by decide +kernel
theorem dX3_passHours_16 : decode cX3_passHours 16 = .ok (.getfield 21, 3) := by decide +kernel
theorem dX3_passHours_19 : decode cX3_passHours 19 = .ok (.iload_n 3, 1) := by decide +kernel
theorem dX3_passHours_20 : decode cX3_passHours 20 = .ok (.invokevirtual 71, 3) := by decide +kernel
theorem dX3_passHours_23 : decode cX3_passHours 23 = .ok (.ifCond .eq 61, 3) := by decide +kernel
theorem dX3_passHours_26 : decode cX3_passHours 26 = .ok (.aload_n 0, 1) := by decide +kernel
theorem dX3_passHours_27 : decode cX3_passHours 27 = .ok (.getfield 21, 3) := by decide +kernel
theorem dX3_passHours_30 : decode cX3_passHours 30 = .ok (.iload_n 3, 1) := by decide +kernel
theorem dX3_passHours_31 : decode cX3_passHours 31 = .ok (.iconst 4, 1) := by decide +kernel
theorem dX3_passHours_32 : decode cX3_passHours 32 = .ok (.invokevirtual 75, 3) := by decide +kernel
theorem dX3_passHours_35 : decode cX3_passHours 35 = .ok (.ifCond .ne 49, 3) := by decide +kernel
theorem dX3_passHours_38 : decode cX3_passHours 38 = .ok (.iconst 0, 1) := by decide +kernel
theorem dX3_passHours_39 : decode cX3_passHours 39 = .ok (.aload_n 0, 1) := by decide +kernel
theorem dX3_passHours_40 : decode cX3_passHours 40 = .ok (.getfield 21, 3) := by decide +kernel
theorem dX3_passHours_43 : decode cX3_passHours 43 = .ok (.iload_n 3, 1) := by decide +kernel
theorem dX3_passHours_44 : decode cX3_passHours 44 = .ok (.iconst 2, 1) := by decide +kernel
theorem dX3_passHours_45 : decode cX3_passHours 45 = .ok (.invokevirtual 75, 3) := by decide +kernel
theorem dX3_passHours_48 : decode cX3_passHours 48 = .ok (.iload_n 1, 1) := by decide +kernel
theorem dX3_passHours_49 : decode cX3_passHours 49 = .ok (.isub, 1) := by decide +kernel
theorem dX3_passHours_50 : decode cX3_passHours 50 = .ok (.invokestatic 78, 3) := by decide +kernel
theorem dX3_passHours_53 : decode cX3_passHours 53 = .ok (.istore 4, 2) := by decide +kernel
theorem dX3_passHours_55 : decode cX3_passHours 55 = .ok (.aload_n 0, 1) := by decide +kernel
theorem dX3_passHours_56 : decode cX3_passHours 56 = .ok (.getfield 21, 3) := by decide +kernel
theorem dX3_passHours_59 : decode cX3_passHours 59 = .ok (.iload_n 3, 1) := by decide +kernel
theorem dX3_passHours_60 : decode cX3_passHours 60 = .ok (.iconst 2, 1) := by decide +kernel
theorem dX3_passHours_61 : decode cX3_passHours 61 = .ok (.iload 4, 2) := by decide +kernel
theorem dX3_passHours_63 : decode cX3_passHours 63 = .ok (.invokevirtual 54, 3) := by decide +kernel
theorem dX3_passHours_66 : decode cX3_passHours 66 = .ok (.iload 4, 2) := by decide +kernel
theorem dX3_passHours_68 : decode cX3_passHours 68 = .ok (.ifCond .ne 16, 3) := by decide +kernel
theorem dX3_passHours_71 : decode cX3_passHours 71 = .ok (.aload_n 0, 1) := by decide +kernel
theorem dX3_passHours_72 : decode cX3_passHours 72 = .ok (.getfield 21, 3) := by decide +kernel
theorem dX3_passHours_75 : decode cX3_passHours 75 = .ok (.iload_n 3, 1) := by decide +kernel
theorem dX3_passHours_76 : decode cX3_passHours 76 = .ok (.iconst 4, 1) := by decide +kernel
theorem dX3_passHours_77 : decode cX3_passHours 77 = .ok (.iconst 1, 1) := by decide +kernel
theorem dX3_passHours_78 : decode cX3_passHours 78 = .ok (.invokevirtual 54, 3) := by decide +kernel
theorem dX3_passHours_81 : decode cX3_passHours 81 = .ok (.iinc 2 1, 3) := by decide +kernel
theorem dX3_passHours_84 : decode cX3_passHours 84 = .ok (.iinc 3 1, 3) := by decide +kernel
theorem dX3_passHours_87 : decode cX3_passHours 87 = .ok (.goto (-83), 3) := by decide +kernel
theorem dX3_passHours_90 : decode cX3_passHours 90 = .ok (.aload_n 0, 1) := by decide +kernel
theorem dX3_passHours_91 : decode cX3_passHours 91 = .ok (.getfield 11, 3) := by decide +kernel
theorem dX3_passHours_94 : decode cX3_passHours 94 = .ok (.iconst 4, 1) := by decide +kernel
theorem dX3_passHours_95 : decode cX3_passHours 95 = .ok (.dup2, 1) := by decide +kernel
theorem dX3_passHours_96 : decode cX3_passHours 96 = .ok (.iaload, 1) := by decide +kernel
theorem dX3_passHours_97 : decode cX3_passHours 97 = .ok (.iload_n 2, 1) := by decide +kernel
theorem dX3_passHours_98 : decode cX3_passHours 98 = .ok (.iadd, 1) := by decide +kernel
theorem dX3_passHours_99 : decode cX3_passHours 99 = .ok (.iastore, 1) := by decide +kernel
theorem dX3_passHours_100 : decode cX3_passHours 100 = .ok (.iload_n 2, 1) := by decide +kernel
theorem dX3_passHours_101 : decode cX3_passHours 101 = .ok (.ireturn, 1) := by decide +kernel
theorem dX3_hasImage_0 : decode cX3_hasImage 0 = .ok (.aload_n 0, 1) := by decide +kernel
theorem dX3_hasImage_1 : decode cX3_hasImage 1 = .ok (.getfield 81, 3) := by decide +kernel
theorem dX3_hasImage_4 : decode cX3_hasImage 4 = .ok (.ireturn, 1) := by decide +kernel
theorem dX3_keepImage_0 : decode cX3_keepImage 0 = .ok (.aload_n 0, 1) := by decide +kernel
theorem dX3_keepImage_1 : decode cX3_keepImage 1 = .ok (.iconst 1, 1) := by decide +kernel
theorem dX3_keepImage_2 : decode cX3_keepImage 2 = .ok (.putfield 81, 3) := by decide +kernel
theorem dX3_keepImage_5 : decode cX3_keepImage 5 = .ok (.aload_n 0, 1) := by decide +kernel
theorem dX3_keepImage_6 : decode cX3_keepImage 6 = .ok (.aload_n 0, 1) := by decide +kernel
theorem dX3_keepImage_7 : decode cX3_keepImage 7 = .ok (.getfield 21, 3) := by decide +kernel
theorem dX3_keepImage_10 : decode cX3_keepImage 10 = .ok (.invokevirtual 38, 3) := by decide +kernel
theorem dX3_keepImage_13 : decode cX3_keepImage 13 = .ok (.putfield 85, 3) := by decide +kernel
theorem dX3_keepImage_16 : decode cX3_keepImage 16 = .ok (.aload_n 0, 1) := by decide +kernel
theorem dX3_keepImage_17 : decode cX3_keepImage 17 = .ok (.aload_n 0, 1) := by decide +kernel
theorem dX3_keepImage_18 : decode cX3_keepImage 18 = .ok (.getfield 21, 3) := by decide +kernel
theorem dX3_keepImage_21 : decode cX3_keepImage 21 = .ok (.invokevirtual 58, 3) := by decide +kernel
theorem dX3_keepImage_24 : decode cX3_keepImage 24 = .ok (.putfield 89, 3) := by decide +kernel
theorem dX3_keepImage_27 : decode cX3_keepImage 27 = .ok (.aload_n 0, 1) := by decide +kernel
theorem dX3_keepImage_28 : decode cX3_keepImage 28 = .ok (.getfield 11, 3) := by decide +kernel
theorem dX3_keepImage_31 : decode cX3_keepImage 31 = .ok (.iconst 0, 1) := by decide +kernel
theorem dX3_keepImage_32 : decode cX3_keepImage 32 = .ok (.aload_n 0, 1) := by decide +kernel
theorem dX3_keepImage_33 : decode cX3_keepImage 33 = .ok (.getfield 15, 3) := by decide +kernel
theorem dX3_keepImage_36 : decode cX3_keepImage 36 = .ok (.iconst 0, 1) := by decide +kernel
theorem dX3_keepImage_37 : decode cX3_keepImage 37 = .ok (.iconst 5, 1) := by decide +kernel
theorem dX3_keepImage_38 : decode cX3_keepImage 38 = .ok (.invokestatic 92, 3) := by decide +kernel
theorem dX3_keepImage_41 : decode cX3_keepImage 41 = .ok (.iconst 1, 1) := by decide +kernel
theorem dX3_keepImage_42 : decode cX3_keepImage 42 = .ok (.istore_n 1, 1) := by decide +kernel
theorem dX3_keepImage_43 : decode cX3_keepImage 43 = .ok (.iload_n 1, 1) := by decide +kernel
theorem dX3_keepImage_44 : decode cX3_keepImage 44 = .ok (.iconst 4, 1) := by decide +kernel
theorem dX3_keepImage_45 : decode cX3_keepImage 45 = .ok (.if_icmp .gt 35, 3) := by decide +kernel
theorem dX3_keepImage_48 : decode cX3_keepImage 48 = .ok (.aload_n 0, 1) := by decide +kernel
theorem dX3_keepImage_49 : decode cX3_keepImage 49 = .ok (.getfield 21, 3) := by decide +kernel
theorem dX3_keepImage_52 : decode cX3_keepImage 52 = .ok (.iload_n 1, 1) := by decide +kernel
theorem dX3_keepImage_53 : decode cX3_keepImage 53 = .ok (.invokevirtual 98, 3) := by decide +kernel
theorem dX3_keepImage_56 : decode cX3_keepImage 56 = .ok (.iconst 0, 1) := by decide +kernel
theorem dX3_keepImage_57 : decode cX3_keepImage 57 = .ok (.aload_n 0, 1) := by decide +kernel
theorem dX3_keepImage_58 : decode cX3_keepImage 58 = .ok (.getfield 18, 3) := by decide +kernel
theorem dX3_keepImage_61 : decode cX3_keepImage 61 = .ok (.iload_n 1, 1) := by decide +kernel
theorem dX3_keepImage_62 : decode cX3_keepImage 62 = .ok (.iconst 1, 1) := by decide +kernel
theorem dX3_keepImage_63 : decode cX3_keepImage 63 = .ok (.isub, 1) := by decide +kernel
theorem dX3_keepImage_64 : decode cX3_keepImage 64 = .ok (.bipush 10, 2) := by decide +kernel
theorem dX3_keepImage_66 : decode cX3_keepImage 66 = .ok (.imul, 1) := by decide +kernel
theorem dX3_keepImage_67 : decode cX3_keepImage 67 = .ok (.aload_n 0, 1) := by decide +kernel
theorem dX3_keepImage_68 : decode cX3_keepImage 68 = .ok (.getfield 85, 3) := by decide +kernel
theorem dX3_keepImage_71 : decode cX3_keepImage 71 = .ok (.invokestatic 92, 3) := by decide +kernel
theorem dX3_keepImage_74 : decode cX3_keepImage 74 = .ok (.iinc 1 1, 3) := by decide +kernel
theorem dX3_keepImage_77 : decode cX3_keepImage 77 = .ok (.goto (-34), 3) := by decide +kernel
theorem dX3_keepImage_80 : decode cX3_keepImage 80 = .ok (.return_, 1) := by decide +kernel
theorem dX3_layImageBack_0 : decode cX3_layImageBack 0 = .ok (.aload_n 0, 1) := by decide +kernel
theorem dX3_layImageBack_1 : decode cX3_layImageBack 1 = .ok (.getfield 21, 3) := by decide +kernel
theorem dX3_layImageBack_4 : decode cX3_layImageBack 4 = .ok (.iconst 0, 1) := by decide +kernel
theorem dX3_layImageBack_5 : decode cX3_layImageBack 5 = .ok (.bipush 7, 2) := by decide +kernel
theorem dX3_layImageBack_7 : decode cX3_layImageBack 7 = .ok (.aload_n 0, 1) := by decide +kernel
theorem dX3_layImageBack_8 : decode cX3_layImageBack 8 = .ok (.getfield 89, 3) := by decide +kernel
theorem dX3_layImageBack_11 : decode cX3_layImageBack 11 = .ok (.invokevirtual 54, 3) := by decide +kernel
theorem dX3_layImageBack_14 : decode cX3_layImageBack 14 = .ok (.aload_n 0, 1) := by decide +kernel
theorem dX3_layImageBack_15 : decode cX3_layImageBack 15 = .ok (.getfield 15, 3) := by decide +kernel
theorem dX3_layImageBack_18 : decode cX3_layImageBack 18 = .ok (.iconst 0, 1) := by decide +kernel
theorem dX3_layImageBack_19 : decode cX3_layImageBack 19 = .ok (.aload_n 0, 1) := by decide +kernel
theorem dX3_layImageBack_20 : decode cX3_layImageBack 20 = .ok (.getfield 11, 3) := by decide +kernel
theorem dX3_layImageBack_23 : decode cX3_layImageBack 23 = .ok (.iconst 0, 1) := by decide +kernel
theorem dX3_layImageBack_24 : decode cX3_layImageBack 24 = .ok (.iconst 5, 1) := by decide +kernel
theorem dX3_layImageBack_25 : decode cX3_layImageBack 25 = .ok (.invokestatic 92, 3) := by decide +kernel
theorem dX3_layImageBack_28 : decode cX3_layImageBack 28 = .ok (.iconst 1, 1) := by decide +kernel
theorem dX3_layImageBack_29 : decode cX3_layImageBack 29 = .ok (.istore_n 1, 1) := by decide +kernel
theorem dX3_layImageBack_30 : decode cX3_layImageBack 30 = .ok (.iload_n 1, 1) := by decide +kernel
theorem dX3_layImageBack_31 : decode cX3_layImageBack 31 = .ok (.iconst 4, 1) := by decide +kernel
theorem dX3_layImageBack_32 : decode cX3_layImageBack 32 = .ok (.if_icmp .gt 35, 3) := by decide +kernel
theorem dX3_layImageBack_35 : decode cX3_layImageBack 35 = .ok (.aload_n 0, 1) := by decide +kernel
theorem dX3_layImageBack_36 : decode cX3_layImageBack 36 = .ok (.getfield 18, 3) := by decide +kernel
theorem dX3_layImageBack_39 : decode cX3_layImageBack 39 = .ok (.iload_n 1, 1) := by decide +kernel
theorem dX3_layImageBack_40 : decode cX3_layImageBack 40 = .ok (.iconst 1, 1) := by decide +kernel
theorem dX3_layImageBack_41 : decode cX3_layImageBack 41 = .ok (.isub, 1) := by decide +kernel
theorem dX3_layImageBack_42 : decode cX3_layImageBack 42 = .ok (.bipush 10, 2) := by decide +kernel
theorem dX3_layImageBack_44 : decode cX3_layImageBack 44 = .ok (.imul, 1) := by decide +kernel
theorem dX3_layImageBack_45 : decode cX3_layImageBack 45 = .ok (.aload_n 0, 1) := by decide +kernel
theorem dX3_layImageBack_46 : decode cX3_layImageBack 46 = .ok (.getfield 21, 3) := by decide +kernel
theorem dX3_layImageBack_49 : decode cX3_layImageBack 49 = .ok (.iload_n 1, 1) := by decide +kernel
theorem dX3_layImageBack_50 : decode cX3_layImageBack 50 = .ok (.invokevirtual 98, 3) := by decide +kernel
theorem dX3_layImageBack_53 : decode cX3_layImageBack 53 = .ok (.iconst 0, 1) := by decide +kernel
theorem dX3_layImageBack_54 : decode cX3_layImageBack 54 = .ok (.aload_n 0, 1) := by decide +kernel
theorem dX3_layImageBack_55 : decode cX3_layImageBack 55 = .ok (.getfield 85, 3) := by decide +kernel
theorem dX3_layImageBack_58 : decode cX3_layImageBack 58 = .ok (.invokestatic 92, 3) := by decide +kernel
theorem dX3_layImageBack_61 : decode cX3_layImageBack 61 = .ok (.iinc 1 1, 3) := by decide +kernel
theorem dX3_layImageBack_64 : decode cX3_layImageBack 64 = .ok (.goto (-34), 3) := by decide +kernel
theorem dX3_layImageBack_67 : decode cX3_layImageBack 67 = .ok (.return_, 1) := by decide +kernel
theorem dX4_init_0 : decode cX4_init 0 = .ok (.aload_n 0, 1) := by decide +kernel
theorem dX4_init_1 : decode cX4_init 1 = .ok (.invokespecial 3, 3) := by decide +kernel
theorem dX4_init_4 : decode cX4_init 4 = .ok (.aload_n 0, 1) := by decide +kernel
theorem dX4_init_5 : decode cX4_init 5 = .ok (.aload_n 1, 1) := by decide +kernel
theorem dX4_init_6 : decode cX4_init 6 = .ok (.putfield 9, 3) := by decide +kernel
theorem dX4_init_9 : decode cX4_init 9 = .ok (.aload_n 0, 1) := by decide +kernel
theorem dX4_init_10 : decode cX4_init 10 = .ok (.new 15, 3) := by decide +kernel
theorem dX4_init_13 : decode cX4_init 13 = .ok (.dup, 1) := by decide +kernel
theorem dX4_init_14 : decode cX4_init 14 = .ok (.aload_n 1, 1) := by decide +kernel
theorem dX4_init_15 : decode cX4_init 15 = .ok (.aload_n 2, 1) := by decide +kernel
theorem dX4_init_16 : decode cX4_init 16 = .ok (.invokespecial 17, 3) := by decide +kernel
theorem dX4_init_19 : decode cX4_init 19 = .ok (.putfield 20, 3) := by decide +kernel
theorem dX4_init_22 : decode cX4_init 22 = .ok (.aload_n 0, 1) := by decide +kernel
theorem dX4_init_23 : decode cX4_init 23 = .ok (.new 15, 3) := by decide +kernel
theorem dX4_init_26 : decode cX4_init 26 = .ok (.dup, 1) := by decide +kernel
theorem dX4_init_27 : decode cX4_init 27 = .ok (.aload_n 1, 1) := by decide +kernel
theorem dX4_init_28 : decode cX4_init 28 = .ok (.aload_n 2, 1) := by decide +kernel
theorem dX4_init_29 : decode cX4_init 29 = .ok (.invokespecial 17, 3) := by decide +kernel
theorem dX4_init_32 : decode cX4_init 32 = .ok (.putfield 24, 3) := by decide +kernel
theorem dX4_init_35 : decode cX4_init 35 = .ok (.return_, 1) := by decide +kernel
theorem dX4_thoughtsNow_0 : decode cX4_thoughtsNow 0 = .ok (.aload_n 0, 1) := by decide +kernel
theorem dX4_thoughtsNow_1 : decode cX4_thoughtsNow 1 = .ok (.getfield 20, 3) := by decide +kernel
theorem dX4_thoughtsNow_4 : decode cX4_thoughtsNow 4 = .ok (.iload_n 1, 1) := by decide +kernel
theorem dX4_thoughtsNow_5 : decode cX4_thoughtsNow 5 = .ok (.invokevirtual 27, 3) := by decide +kernel
theorem dX4_thoughtsNow_8 : decode cX4_thoughtsNow 8 = .ok (.aload_n 0, 1) := by decide +kernel
theorem dX4_thoughtsNow_9 : decode cX4_thoughtsNow 9 = .ok (.getfield 20, 3) := by decide +kernel
theorem dX4_thoughtsNow_12 : decode cX4_thoughtsNow 12 = .ok (.invokevirtual 31, 3) := by decide +kernel
theorem dX4_thoughtsNow_15 : decode cX4_thoughtsNow 15 = .ok (.ireturn, 1) := by decide +kernel
theorem dX4_atBehind_0 : decode cX4_atBehind 0 = .ok (.aload_n 0, 1) := by decide +kernel
theorem dX4_atBehind_1 : decode cX4_atBehind 1 = .ok (.getfield 20, 3) := by decide +kernel
theorem dX4_atBehind_4 : decode cX4_atBehind 4 = .ok (.iload_n 2, 1) := by decide +kernel
theorem dX4_atBehind_5 : decode cX4_atBehind 5 = .ok (.invokevirtual 27, 3) := by decide +kernel
theorem dX4_atBehind_8 : decode cX4_atBehind 8 = .ok (.aload_n 0, 1) := by decide +kernel
theorem dX4_atBehind_9 : decode cX4_atBehind 9 = .ok (.getfield 20, 3) := by decide +kernel
theorem dX4_atBehind_12 : decode cX4_atBehind 12 = .ok (.iload_n 1, 1) := by decide +kernel
theorem dX4_atBehind_13 : decode cX4_atBehind 13 = .ok (.invokevirtual 35, 3) := by decide +kernel
theorem dX4_atBehind_16 : decode cX4_atBehind 16 = .ok (.aload_n 0, 1) := by decide +kernel
theorem dX4_atBehind_17 : decode cX4_atBehind 17 = .ok (.getfield 20, 3) := by decide +kernel
theorem dX4_atBehind_20 : decode cX4_atBehind 20 = .ok (.invokevirtual 38, 3) := by decide +kernel
theorem dX4_atBehind_23 : decode cX4_atBehind 23 = .ok (.ireturn, 1) := by decide +kernel
theorem dX4_thoughtsBehind_0 : decode cX4_thoughtsBehind 0 = .ok (.iconst 0, 1) := by decide +kernel
theorem dX4_thoughtsBehind_1 : decode cX4_thoughtsBehind 1 = .ok (.istore_n 2, 1) := by decide +kernel
theorem dX4_thoughtsBehind_2 : decode cX4_thoughtsBehind 2 = .ok (.iconst 0, 1) := by decide +kernel
theorem dX4_thoughtsBehind_3 : decode cX4_thoughtsBehind 3 = .ok (.istore_n 3, 1) := by decide +kernel
theorem dX4_thoughtsBehind_4 : decode cX4_thoughtsBehind 4 = .ok (.iload_n 3, 1) := by decide +kernel
theorem dX4_thoughtsBehind_5 : decode cX4_thoughtsBehind 5 = .ok (.aload_n 0, 1) := by decide +kernel
theorem dX4_thoughtsBehind_6 : decode cX4_thoughtsBehind 6 = .ok (.getfield 9, 3) := by decide +kernel
theorem dX4_thoughtsBehind_9 : decode cX4_thoughtsBehind 9 = .ok (.invokevirtual 41, 3) := by decide +kernel
theorem dX4_thoughtsBehind_12 : decode cX4_thoughtsBehind 12 = .ok (.if_icmp .ge 31, 3) := by decide +kernel
theorem dX4_thoughtsBehind_15 : decode cX4_thoughtsBehind 15 = .ok (.aload_n 0, 1) := by decide +kernel
theorem dX4_thoughtsBehind_16 : decode cX4_thoughtsBehind 16 = .ok (.getfield 9, 3) := by decide +kernel
theorem dX4_thoughtsBehind_19 : decode cX4_thoughtsBehind 19 = .ok (.iload_n 3, 1) := by decide +kernel
theorem dX4_thoughtsBehind_20 : decode cX4_thoughtsBehind 20 = .ok (.invokevirtual 46, 3) := by decide +kernel
theorem dX4_thoughtsBehind_23 : decode cX4_thoughtsBehind 23 = .ok (.ifCond .ne 14, 3) := by decide +kernel
theorem dX4_thoughtsBehind_26 : decode cX4_thoughtsBehind 26 = .ok (.iload_n 2, 1) := by decide +kernel
theorem dX4_thoughtsBehind_27 : decode cX4_thoughtsBehind 27 = .ok (.iconst 1, 1) := by decide +kernel
theorem dX4_thoughtsBehind_28 : decode cX4_thoughtsBehind 28 = .ok (.aload_n 0, 1) := by decide +kernel
theorem dX4_thoughtsBehind_29 : decode cX4_thoughtsBehind 29 = .ok (.iload_n 1, 1) := by decide +kernel
theorem dX4_thoughtsBehind_30 : decode cX4_thoughtsBehind 30 = .ok (.iload_n 3, 1) := by decide +kernel
theorem dX4_thoughtsBehind_31 : decode cX4_thoughtsBehind 31 = .ok (.invokevirtual 50, 3) := by decide +kernel
theorem dX4_thoughtsBehind_34 : decode cX4_thoughtsBehind 34 = .ok (.ishl, 1) := by decide +kernel
theorem dX4_thoughtsBehind_35 : decode cX4_thoughtsBehind 35 = .ok (.ior, 1) := by decide +kernel
theorem dX4_thoughtsBehind_36 : decode cX4_thoughtsBehind 36 = .ok (.istore_n 2, 1) := by decide +kernel
theorem dX4_thoughtsBehind_37 : decode cX4_thoughtsBehind 37 = .ok (.iinc 3 1, 3) := by decide +kernel
theorem dX4_thoughtsBehind_40 : decode cX4_thoughtsBehind 40 = .ok (.goto (-36), 3) := by decide +kernel
theorem dX4_thoughtsBehind_43 : decode cX4_thoughtsBehind 43 = .ok (.iload_n 2, 1) := by decide +kernel
theorem dX4_thoughtsBehind_44 : decode cX4_thoughtsBehind 44 = .ok (.ireturn, 1) := by decide +kernel
theorem dX4_firstAt_0 : decode cX4_firstAt 0 = .ok (.aload_n 0, 1) := by decide +kernel
theorem dX4_firstAt_1 : decode cX4_firstAt 1 = .ok (.getfield 20, 3) := by decide +kernel
theorem dX4_firstAt_4 : decode cX4_firstAt 4 = .ok (.iload_n 1, 1) := by decide +kernel
theorem dX4_firstAt_5 : decode cX4_firstAt 5 = .ok (.invokevirtual 27, 3) := by decide +kernel
theorem dX4_firstAt_8 : decode cX4_firstAt 8 = .ok (.iconst 0, 1) := by decide +kernel
theorem dX4_firstAt_9 : decode cX4_firstAt 9 = .ok (.istore_n 3, 1) := by decide +kernel
theorem dX4_firstAt_10 : decode cX4_firstAt 10 = .ok (.iload_n 3, 1) := by decide +kernel
theorem dX4_firstAt_11 : decode cX4_firstAt 11 = .ok (.bipush 60, 2) := by decide +kernel
theorem dX4_firstAt_13 : decode cX4_firstAt 13 = .ok (.if_icmp .gt 30, 3) := by decide +kernel
theorem dX4_firstAt_16 : decode cX4_firstAt 16 = .ok (.aload_n 0, 1) := by decide +kernel
theorem dX4_firstAt_17 : decode cX4_firstAt 17 = .ok (.getfield 20, 3) := by decide +kernel
theorem dX4_firstAt_20 : decode cX4_firstAt 20 = .ok (.invokevirtual 38, 3) := by decide +kernel
theorem dX4_firstAt_23 : decode cX4_firstAt 23 = .ok (.iload_n 2, 1) := by decide +kernel
theorem dX4_firstAt_24 : decode cX4_firstAt 24 = .ok (.if_icmp .ne 5, 3) := by decide +kernel
theorem dX4_firstAt_27 : decode cX4_firstAt 27 = .ok (.iload_n 3, 1) := by decide +kernel
theorem dX4_firstAt_28 : decode cX4_firstAt 28 = .ok (.ireturn, 1) := by decide +kernel
theorem dX4_firstAt_29 : decode cX4_firstAt 29 = .ok (.aload_n 0, 1) := by decide +kernel
theorem dX4_firstAt_30 : decode cX4_firstAt 30 = .ok (.getfield 20, 3) := by decide +kernel
theorem dX4_firstAt_33 : decode cX4_firstAt 33 = .ok (.iconst 1, 1) := by decide +kernel
theorem dX4_firstAt_34 : decode cX4_firstAt 34 = .ok (.invokevirtual 35, 3) := by decide +kernel
theorem dX4_firstAt_37 : decode cX4_firstAt 37 = .ok (.iinc 3 1, 3) := by decide +kernel
theorem dX4_firstAt_40 : decode cX4_firstAt 40 = .ok (.goto (-30), 3) := by decide +kernel
theorem dX4_firstAt_43 : decode cX4_firstAt 43 = .ok (.bipush (-2), 2) := by decide +kernel
theorem dX4_firstAt_45 : decode cX4_firstAt 45 = .ok (.ireturn, 1) := by decide +kernel
theorem dX4_firstTogether_0 : decode cX4_firstTogether 0 = .ok (.aload_n 0, 1) := by decide +kernel
theorem dX4_firstTogether_1 : decode cX4_firstTogether 1 = .ok (.getfield 20, 3) := by decide +kernel
theorem dX4_firstTogether_4 : decode cX4_firstTogether 4 = .ok (.iload_n 1, 1) := by decide +kernel
theorem dX4_firstTogether_5 : decode cX4_firstTogether 5 = .ok (.invokevirtual 27, 3) := by decide +kernel
theorem dX4_firstTogether_8 : decode cX4_firstTogether 8 = .ok (.aload_n 0, 1) := by decide +kernel
theorem dX4_firstTogether_9 : decode cX4_firstTogether 9 = .ok (.getfield 24, 3) := by decide +kernel
theorem dX4_firstTogether_12 : decode cX4_firstTogether 12 = .ok (.iload_n 2, 1) := by decide +kernel
theorem dX4_firstTogether_13 : decode cX4_firstTogether 13 = .ok (.invokevirtual 27, 3) := by decide +kernel
theorem dX4_firstTogether_16 : decode cX4_firstTogether 16 = .ok (.iconst 0, 1) := by decide +kernel
theorem dX4_firstTogether_17 : decode cX4_firstTogether 17 = .ok (.istore_n 3, 1) := by decide +kernel
theorem dX4_firstTogether_18 : decode cX4_firstTogether 18 = .ok (.iload_n 3, 1) := by decide +kernel
theorem dX4_firstTogether_19 : decode cX4_firstTogether 19 = .ok (.bipush 60, 2) := by decide +kernel
theorem dX4_firstTogether_21 : decode cX4_firstTogether 21 = .ok (.if_icmp .gt 44, 3) := by decide +kernel
theorem dX4_firstTogether_24 : decode cX4_firstTogether 24 = .ok (.aload_n 0, 1) := by decide +kernel
theorem dX4_firstTogether_25 : decode cX4_firstTogether 25 = .ok (.getfield 20, 3) := by decide +kernel
theorem dX4_firstTogether_28 : decode cX4_firstTogether 28 = .ok (.invokevirtual 38, 3) := by decide +kernel
theorem dX4_firstTogether_31 : decode cX4_firstTogether 31 = .ok (.aload_n 0, 1) := by decide +kernel
theorem dX4_firstTogether_32 : decode cX4_firstTogether 32 = .ok (.getfield 24, 3) := by decide +kernel
theorem dX4_firstTogether_35 : decode cX4_firstTogether 35 = .ok (.invokevirtual 38, 3) := by decide +kernel
theorem dX4_firstTogether_38 : decode cX4_firstTogether 38 = .ok (.if_icmp .ne 5, 3) := by decide +kernel
theorem dX4_firstTogether_41 : decode cX4_firstTogether 41 = .ok (.iload_n 3, 1) := by decide +kernel
theorem dX4_firstTogether_42 : decode cX4_firstTogether 42 = .ok (.ireturn, 1) := by decide +kernel
theorem dX4_firstTogether_43 : decode cX4_firstTogether 43 = .ok (.aload_n 0, 1) := by decide +kernel
theorem dX4_firstTogether_44 : decode cX4_firstTogether 44 = .ok (.getfield 20, 3) := by decide +kernel
theorem dX4_firstTogether_47 : decode cX4_firstTogether 47 = .ok (.iconst 1, 1) := by decide +kernel
theorem dX4_firstTogether_48 : decode cX4_firstTogether 48 = .ok (.invokevirtual 35, 3) := by decide +kernel
theorem dX4_firstTogether_51 : decode cX4_firstTogether 51 = .ok (.aload_n 0, 1) := by decide +kernel
theorem dX4_firstTogether_52 : decode cX4_firstTogether 52 = .ok (.getfield 24, 3) := by decide +kernel
theorem dX4_firstTogether_55 : decode cX4_firstTogether 55 = .ok (.iconst 1, 1) := by decide +kernel
theorem dX4_firstTogether_56 : decode cX4_firstTogether 56 = .ok (.invokevirtual 35, 3) := by decide +kernel
theorem dX4_firstTogether_59 : decode cX4_firstTogether 59 = .ok (.iinc 3 1, 3) := by decide +kernel
theorem dX4_firstTogether_62 : decode cX4_firstTogether 62 = .ok (.goto (-44), 3) := by decide +kernel
theorem dX4_firstTogether_65 : decode cX4_firstTogether 65 = .ok (.bipush (-2), 2) := by decide +kernel
theorem dX4_firstTogether_67 : decode cX4_firstTogether 67 = .ok (.ireturn, 1) := by decide +kernel
theorem dX4_judged_0 : decode cX4_judged 0 = .ok (.aload_n 0, 1) := by decide +kernel
theorem dX4_judged_1 : decode cX4_judged 1 = .ok (.getfield 20, 3) := by decide +kernel
theorem dX4_judged_4 : decode cX4_judged 4 = .ok (.iload_n 2, 1) := by decide +kernel
theorem dX4_judged_5 : decode cX4_judged 5 = .ok (.invokevirtual 27, 3) := by decide +kernel
theorem dX4_judged_8 : decode cX4_judged 8 = .ok (.aload_n 0, 1) := by decide +kernel
theorem dX4_judged_9 : decode cX4_judged 9 = .ok (.aload_n 1, 1) := by decide +kernel
theorem dX4_judged_10 : decode cX4_judged 10 = .ok (.invokevirtual 54, 3) := by decide +kernel
theorem dX4_judged_13 : decode cX4_judged 13 = .ok (.ireturn, 1) := by decide +kernel
theorem dX4_fittingThoughts_0 : decode cX4_fittingThoughts 0 = .ok (.iconst 0, 1) := by decide +kernel
theorem dX4_fittingThoughts_1 : decode cX4_fittingThoughts 1 = .ok (.istore_n 3, 1) := by decide +kernel
theorem dX4_fittingThoughts_2 : decode cX4_fittingThoughts 2 = .ok (.iconst 0, 1) := by decide +kernel
theorem dX4_fittingThoughts_3 : decode cX4_fittingThoughts 3 = .ok (.istore 4, 2) := by decide +kernel
theorem dX4_fittingThoughts_5 : decode cX4_fittingThoughts 5 = .ok (.iload 4, 2) := by decide +kernel
theorem dX4_fittingThoughts_7 : decode cX4_fittingThoughts 7 = .ok (.bipush 16, 2) := by decide +kernel
theorem dX4_fittingThoughts_9 : decode cX4_fittingThoughts 9 = .ok (.if_icmp .ge 43, 3) := by decide +kernel
theorem dX4_fittingThoughts_12 : decode cX4_fittingThoughts 12 = .ok (.aload_n 0, 1) := by decide +kernel
theorem dX4_fittingThoughts_13 : decode cX4_fittingThoughts 13 = .ok (.getfield 20, 3) := by decide +kernel
theorem dX4_fittingThoughts_16 : decode cX4_fittingThoughts 16 = .ok (.iload_n 2, 1) := by decide +kernel
theorem dX4_fittingThoughts_17 : decode cX4_fittingThoughts 17 = .ok (.invokevirtual 27, 3) := by decide +kernel
theorem dX4_fittingThoughts_20 : decode cX4_fittingThoughts 20 = .ok (.aload_n 0, 1) := by decide +kernel
theorem dX4_fittingThoughts_21 : decode cX4_fittingThoughts 21 = .ok (.getfield 20, 3) := by decide +kernel
theorem dX4_fittingThoughts_24 : decode cX4_fittingThoughts 24 = .ok (.iload 4, 2) := by decide +kernel
theorem dX4_fittingThoughts_26 : decode cX4_fittingThoughts 26 = .ok (.invokevirtual 58, 3) := by decide +kernel
theorem dX4_fittingThoughts_29 : decode cX4_fittingThoughts 29 = .ok (.aload_n 0, 1) := by decide +kernel
theorem dX4_fittingThoughts_30 : decode cX4_fittingThoughts 30 = .ok (.aload_n 1, 1) := by decide +kernel
theorem dX4_fittingThoughts_31 : decode cX4_fittingThoughts 31 = .ok (.invokevirtual 54, 3) := by decide +kernel
theorem dX4_fittingThoughts_34 : decode cX4_fittingThoughts 34 = .ok (.bipush (-2), 2) := by decide +kernel
theorem dX4_fittingThoughts_36 : decode cX4_fittingThoughts 36 = .ok (.if_icmp .ne 10, 3) := by decide +kernel
theorem dX4_fittingThoughts_39 : decode cX4_fittingThoughts 39 = .ok (.iload_n 3, 1) := by decide +kernel
theorem dX4_fittingThoughts_40 : decode cX4_fittingThoughts 40 = .ok (.iconst 1, 1) := by decide +kernel
theorem dX4_fittingThoughts_41 : decode cX4_fittingThoughts 41 = .ok (.iload 4, 2) := by decide +kernel
theorem dX4_fittingThoughts_43 : decode cX4_fittingThoughts 43 = .ok (.ishl, 1) := by decide +kernel
theorem dX4_fittingThoughts_44 : decode cX4_fittingThoughts 44 = .ok (.ior, 1) := by decide +kernel
theorem dX4_fittingThoughts_45 : decode cX4_fittingThoughts 45 = .ok (.istore_n 3, 1) := by decide +kernel
theorem dX4_fittingThoughts_46 : decode cX4_fittingThoughts 46 = .ok (.iinc 4 1, 3) := by decide +kernel
theorem dX4_fittingThoughts_49 : decode cX4_fittingThoughts 49 = .ok (.goto (-44), 3) := by decide +kernel
theorem dX4_fittingThoughts_52 : decode cX4_fittingThoughts 52 = .ok (.iload_n 3, 1) := by decide +kernel
theorem dX4_fittingThoughts_53 : decode cX4_fittingThoughts 53 = .ok (.ireturn, 1) := by decide +kernel
theorem dX4_fittingBeds_0 : decode cX4_fittingBeds 0 = .ok (.iconst 0, 1) := by decide +kernel
theorem dX4_fittingBeds_1 : decode cX4_fittingBeds 1 = .ok (.istore_n 3, 1) := by decide +kernel
theorem dX4_fittingBeds_2 : decode cX4_fittingBeds 2 = .ok (.iconst 0, 1) := by decide +kernel
theorem dX4_fittingBeds_3 : decode cX4_fittingBeds 3 = .ok (.istore 4, 2) := by decide +kernel
theorem dX4_fittingBeds_5 : decode cX4_fittingBeds 5 = .ok (.iload 4, 2) := by decide +kernel
theorem dX4_fittingBeds_7 : decode cX4_fittingBeds 7 = .ok (.bipush 10, 2) := by decide +kernel
theorem dX4_fittingBeds_9 : decode cX4_fittingBeds 9 = .ok (.if_icmp .ge 43, 3) := by decide +kernel
theorem dX4_fittingBeds_12 : decode cX4_fittingBeds 12 = .ok (.aload_n 0, 1) := by decide +kernel
theorem dX4_fittingBeds_13 : decode cX4_fittingBeds 13 = .ok (.getfield 20, 3) := by decide +kernel
theorem dX4_fittingBeds_16 : decode cX4_fittingBeds 16 = .ok (.iload_n 2, 1) := by decide +kernel
theorem dX4_fittingBeds_17 : decode cX4_fittingBeds 17 = .ok (.invokevirtual 27, 3) := by decide +kernel
theorem dX4_fittingBeds_20 : decode cX4_fittingBeds 20 = .ok (.aload_n 0, 1) := by decide +kernel
theorem dX4_fittingBeds_21 : decode cX4_fittingBeds 21 = .ok (.getfield 20, 3) := by decide +kernel
theorem dX4_fittingBeds_24 : decode cX4_fittingBeds 24 = .ok (.iload 4, 2) := by decide +kernel
theorem dX4_fittingBeds_26 : decode cX4_fittingBeds 26 = .ok (.invokevirtual 61, 3) := by decide +kernel
theorem dX4_fittingBeds_29 : decode cX4_fittingBeds 29 = .ok (.aload_n 0, 1) := by decide +kernel
theorem dX4_fittingBeds_30 : decode cX4_fittingBeds 30 = .ok (.aload_n 1, 1) := by decide +kernel
theorem dX4_fittingBeds_31 : decode cX4_fittingBeds 31 = .ok (.invokevirtual 54, 3) := by decide +kernel
theorem dX4_fittingBeds_34 : decode cX4_fittingBeds 34 = .ok (.bipush (-2), 2) := by decide +kernel
theorem dX4_fittingBeds_36 : decode cX4_fittingBeds 36 = .ok (.if_icmp .ne 10, 3) := by decide +kernel
theorem dX4_fittingBeds_39 : decode cX4_fittingBeds 39 = .ok (.iload_n 3, 1) := by decide +kernel
theorem dX4_fittingBeds_40 : decode cX4_fittingBeds 40 = .ok (.iconst 1, 1) := by decide +kernel
theorem dX4_fittingBeds_41 : decode cX4_fittingBeds 41 = .ok (.iload 4, 2) := by decide +kernel
theorem dX4_fittingBeds_43 : decode cX4_fittingBeds 43 = .ok (.ishl, 1) := by decide +kernel
theorem dX4_fittingBeds_44 : decode cX4_fittingBeds 44 = .ok (.ior, 1) := by decide +kernel
theorem dX4_fittingBeds_45 : decode cX4_fittingBeds 45 = .ok (.istore_n 3, 1) := by decide +kernel
theorem dX4_fittingBeds_46 : decode cX4_fittingBeds 46 = .ok (.iinc 4 1, 3) := by decide +kernel
theorem dX4_fittingBeds_49 : decode cX4_fittingBeds 49 = .ok (.goto (-44), 3) := by decide +kernel
theorem dX4_fittingBeds_52 : decode cX4_fittingBeds 52 = .ok (.iload_n 3, 1) := by decide +kernel
theorem dX4_fittingBeds_53 : decode cX4_fittingBeds 53 = .ok (.ireturn, 1) := by decide +kernel
theorem dX4_firstNotSo_0 : decode cX4_firstNotSo 0 = .ok (.iconst 0, 1) := by decide +kernel
theorem dX4_firstNotSo_1 : decode cX4_firstNotSo 1 = .ok (.istore_n 2, 1) := by decide +kernel
theorem dX4_firstNotSo_2 : decode cX4_firstNotSo 2 = .ok (.iload_n 2, 1) := by decide +kernel
theorem dX4_firstNotSo_3 : decode cX4_firstNotSo 3 = .ok (.aload_n 1, 1) := by decide +kernel
theorem dX4_firstNotSo_4 : decode cX4_firstNotSo 4 = .ok (.invokevirtual 64, 3) := by decide +kernel
theorem dX4_firstNotSo_7 : decode cX4_firstNotSo 7 = .ok (.if_icmp .ge 52, 3) := by decide +kernel
theorem dX4_firstNotSo_10 : decode cX4_firstNotSo 10 = .ok (.iload_n 2, 1) := by decide +kernel
theorem dX4_firstNotSo_11 : decode cX4_firstNotSo 11 = .ok (.bipush 41, 2) := by decide +kernel
theorem dX4_firstNotSo_13 : decode cX4_firstNotSo 13 = .ok (.if_icmp .ge 46, 3) := by decide +kernel
theorem dX4_firstNotSo_16 : decode cX4_firstNotSo 16 = .ok (.aload_n 1, 1) := by decide +kernel
theorem dX4_firstNotSo_17 : decode cX4_firstNotSo 17 = .ok (.iload_n 2, 1) := by decide +kernel
theorem dX4_firstNotSo_18 : decode cX4_firstNotSo 18 = .ok (.invokevirtual 67, 3) := by decide +kernel
theorem dX4_firstNotSo_21 : decode cX4_firstNotSo 21 = .ok (.lstore_n 3, 1) := by decide +kernel
theorem dX4_firstNotSo_22 : decode cX4_firstNotSo 22 = .ok (.lload_n 3, 1) := by decide +kernel
theorem dX4_firstNotSo_23 : decode cX4_firstNotSo 23 = .ok (.ldc2_w 71, 3) := by decide +kernel
theorem dX4_firstNotSo_26 : decode cX4_firstNotSo 26 = .ok (.lcmp, 1) := by decide +kernel
theorem dX4_firstNotSo_27 : decode cX4_firstNotSo 27 = .ok (.ifCond .eq 18, 3) := by decide +kernel
theorem dX4_firstNotSo_30 : decode cX4_firstNotSo 30 = .ok (.lload_n 3, 1) := by decide +kernel
theorem dX4_firstNotSo_31 : decode cX4_firstNotSo 31 = .ok (.aload_n 0, 1) := by decide +kernel
theorem dX4_firstNotSo_32 : decode cX4_firstNotSo 32 = .ok (.getfield 20, 3) := by decide +kernel
theorem dX4_firstNotSo_35 : decode cX4_firstNotSo 35 = .ok (.invokevirtual 73, 3) := by decide +kernel
theorem dX4_firstNotSo_38 : decode cX4_firstNotSo 38 = .ok (.i2l, 1) := by decide +kernel
theorem dX4_firstNotSo_39 : decode cX4_firstNotSo 39 = .ok (.lcmp, 1) := by decide +kernel
theorem dX4_firstNotSo_40 : decode cX4_firstNotSo 40 = .ok (.ifCond .eq 5, 3) := by decide +kernel
theorem dX4_firstNotSo_43 : decode cX4_firstNotSo 43 = .ok (.iload_n 2, 1) := by decide +kernel
theorem dX4_firstNotSo_44 : decode cX4_firstNotSo 44 = .ok (.ireturn, 1) := by decide +kernel
theorem dX4_firstNotSo_45 : decode cX4_firstNotSo 45 = .ok (.aload_n 0, 1) := by decide +kernel
theorem dX4_firstNotSo_46 : decode cX4_firstNotSo 46 = .ok (.getfield 20, 3) := by decide +kernel
theorem dX4_firstNotSo_49 : decode cX4_firstNotSo 49 = .ok (.iconst 1, 1) := by decide +kernel
theorem dX4_firstNotSo_50 : decode cX4_firstNotSo 50 = .ok (.invokevirtual 35, 3) := by decide +kernel
theorem dX4_firstNotSo_53 : decode cX4_firstNotSo 53 = .ok (.iinc 2 1, 3) := by decide +kernel
theorem dX4_firstNotSo_56 : decode cX4_firstNotSo 56 = .ok (.goto (-54), 3) := by decide +kernel
theorem dX4_firstNotSo_59 : decode cX4_firstNotSo 59 = .ok (.bipush (-2), 2) := by decide +kernel
theorem dX4_firstNotSo_61 : decode cX4_firstNotSo 61 = .ok (.ireturn, 1) := by decide +kernel
theorem dX4_leastChange_0 : decode cX4_leastChange 0 = .ok (.aload_n 0, 1) := by decide +kernel
theorem dX4_leastChange_1 : decode cX4_leastChange 1 = .ok (.iload_n 2, 1) := by decide +kernel
theorem dX4_leastChange_2 : decode cX4_leastChange 2 = .ok (.iload_n 1, 1) := by decide +kernel
theorem dX4_leastChange_3 : decode cX4_leastChange 3 = .ok (.invokevirtual 50, 3) := by decide +kernel
theorem dX4_leastChange_6 : decode cX4_leastChange 6 = .ok (.iload_n 3, 1) := by decide +kernel
theorem dX4_leastChange_7 : decode cX4_leastChange 7 = .ok (.if_icmp .ne 7, 3) := by decide +kernel
theorem dX4_leastChange_10 : decode cX4_leastChange 10 = .ok (.sipush 256, 3) := by decide +kernel
theorem dX4_leastChange_13 : decode cX4_leastChange 13 = .ok (.ireturn, 1) := by decide +kernel
theorem dX4_leastChange_14 : decode cX4_leastChange 14 = .ok (.iconst 0, 1) := by decide +kernel
theorem dX4_leastChange_15 : decode cX4_leastChange 15 = .ok (.istore 4, 2) := by decide +kernel
theorem dX4_leastChange_17 : decode cX4_leastChange 17 = .ok (.iload 4, 2) := by decide +kernel
theorem dX4_leastChange_19 : decode cX4_leastChange 19 = .ok (.bipush 16, 2) := by decide +kernel
theorem dX4_leastChange_21 : decode cX4_leastChange 21 = .ok (.if_icmp .ge 61, 3) := by decide +kernel
theorem dX4_leastChange_24 : decode cX4_leastChange 24 = .ok (.iconst 0, 1) := by decide +kernel
theorem dX4_leastChange_25 : decode cX4_leastChange 25 = .ok (.istore 5, 2) := by decide +kernel
theorem dX4_leastChange_27 : decode cX4_leastChange 27 = .ok (.iload 5, 2) := by decide +kernel
theorem dX4_leastChange_29 : decode cX4_leastChange 29 = .ok (.bipush 16, 2) := by decide +kernel
theorem dX4_leastChange_31 : decode cX4_leastChange 31 = .ok (.if_icmp .ge 45, 3) := by decide +kernel
theorem dX4_leastChange_34 : decode cX4_leastChange 34 = .ok (.iload 5, 2) := by decide +kernel
theorem dX4_leastChange_36 : decode cX4_leastChange 36 = .ok (.aload_n 0, 1) := by decide +kernel
theorem dX4_leastChange_37 : decode cX4_leastChange 37 = .ok (.getfield 9, 3) := by decide +kernel
theorem dX4_leastChange_40 : decode cX4_leastChange 40 = .ok (.iload 4, 2) := by decide +kernel
theorem dX4_leastChange_42 : decode cX4_leastChange 42 = .ok (.invokevirtual 76, 3) := by decide +kernel
theorem dX4_leastChange_45 : decode cX4_leastChange 45 = .ok (.if_icmp .eq 25, 3) := by decide +kernel
theorem dX4_leastChange_48 : decode cX4_leastChange 48 = .ok (.aload_n 0, 1) := by decide +kernel
theorem dX4_leastChange_49 : decode cX4_leastChange 49 = .ok (.iload_n 2, 1) := by decide +kernel
theorem dX4_leastChange_50 : decode cX4_leastChange 50 = .ok (.iload_n 1, 1) := by decide +kernel
theorem dX4_leastChange_51 : decode cX4_leastChange 51 = .ok (.iload 4, 2) := by decide +kernel
theorem dX4_leastChange_53 : decode cX4_leastChange 53 = .ok (.iload 5, 2) := by decide +kernel
theorem dX4_leastChange_55 : decode cX4_leastChange 55 = .ok (.invokevirtual 80, 3) := by decide +kernel
theorem dX4_leastChange_58 : decode cX4_leastChange 58 = .ok (.iload_n 3, 1) := by decide +kernel
theorem dX4_leastChange_59 : decode cX4_leastChange 59 = .ok (.if_icmp .ne 11, 3) := by decide +kernel
theorem dX4_leastChange_62 : decode cX4_leastChange 62 = .ok (.iload 4, 2) := by decide +kernel
theorem dX4_leastChange_64 : decode cX4_leastChange 64 = .ok (.iconst 4, 1) := by decide +kernel
theorem dX4_leastChange_65 : decode cX4_leastChange 65 = .ok (.ishl, 1) := by decide +kernel
theorem dX4_leastChange_66 : decode cX4_leastChange 66 = .ok (.iload 5, 2) := by decide +kernel
theorem dX4_leastChange_68 : decode cX4_leastChange 68 = .ok (.ior, 1) := by decide +kernel
theorem dX4_leastChange_69 : decode cX4_leastChange 69 = .ok (.ireturn, 1) := by decide +kernel
theorem dX4_leastChange_70 : decode cX4_leastChange 70 = .ok (.iinc 5 1, 3) := by decide +kernel
theorem dX4_leastChange_73 : decode cX4_leastChange 73 = .ok (.goto (-46), 3) := by decide +kernel
theorem dX4_leastChange_76 : decode cX4_leastChange 76 = .ok (.iinc 4 1, 3) := by decide +kernel
theorem dX4_leastChange_79 : decode cX4_leastChange 79 = .ok (.goto (-62), 3) := by decide +kernel
theorem dX4_leastChange_82 : decode cX4_leastChange 82 = .ok (.bipush (-2), 2) := by decide +kernel
theorem dX4_leastChange_84 : decode cX4_leastChange 84 = .ok (.ireturn, 1) := by decide +kernel
theorem dX4_atBehindIf_0 : decode cX4_atBehindIf 0 = .ok (.aload_n 0, 1) := by decide +kernel
theorem dX4_atBehindIf_1 : decode cX4_atBehindIf 1 = .ok (.getfield 20, 3) := by decide +kernel
theorem dX4_atBehindIf_4 : decode cX4_atBehindIf 4 = .ok (.iload_n 2, 1) := by decide +kernel
theorem dX4_atBehindIf_5 : decode cX4_atBehindIf 5 = .ok (.invokevirtual 27, 3) := by decide +kernel
theorem dX4_atBehindIf_8 : decode cX4_atBehindIf 8 = .ok (.aload_n 0, 1) := by decide +kernel
theorem dX4_atBehindIf_9 : decode cX4_atBehindIf 9 = .ok (.getfield 20, 3) := by decide +kernel
theorem dX4_atBehindIf_12 : decode cX4_atBehindIf 12 = .ok (.iload_n 3, 1) := by decide +kernel
theorem dX4_atBehindIf_13 : decode cX4_atBehindIf 13 = .ok (.iload 4, 2) := by decide +kernel
theorem dX4_atBehindIf_15 : decode cX4_atBehindIf 15 = .ok (.invokevirtual 84, 3) := by decide +kernel
theorem dX4_atBehindIf_18 : decode cX4_atBehindIf 18 = .ok (.aload_n 0, 1) := by decide +kernel
theorem dX4_atBehindIf_19 : decode cX4_atBehindIf 19 = .ok (.getfield 20, 3) := by decide +kernel
theorem dX4_atBehindIf_22 : decode cX4_atBehindIf 22 = .ok (.iload_n 1, 1) := by decide +kernel
theorem dX4_atBehindIf_23 : decode cX4_atBehindIf 23 = .ok (.invokevirtual 35, 3) := by decide +kernel
theorem dX4_atBehindIf_26 : decode cX4_atBehindIf 26 = .ok (.aload_n 0, 1) := by decide +kernel
theorem dX4_atBehindIf_27 : decode cX4_atBehindIf 27 = .ok (.getfield 20, 3) := by decide +kernel
theorem dX4_atBehindIf_30 : decode cX4_atBehindIf 30 = .ok (.invokevirtual 38, 3) := by decide +kernel
theorem dX4_atBehindIf_33 : decode cX4_atBehindIf 33 = .ok (.ireturn, 1) := by decide +kernel
theorem dX5_init_0 : decode cX5_init 0 = .ok (.aload_n 0, 1) := by decide +kernel
theorem dX5_init_1 : decode cX5_init 1 = .ok (.invokespecial 3, 3) := by decide +kernel
theorem dX5_init_4 : decode cX5_init 4 = .ok (.aload_n 0, 1) := by decide +kernel
theorem dX5_init_5 : decode cX5_init 5 = .ok (.sipush 128, 3) := by decide +kernel
theorem dX5_init_8 : decode cX5_init 8 = .ok (.newarray .int, 2) := by decide +kernel
theorem dX5_init_10 : decode cX5_init 10 = .ok (.putfield 11, 3) := by decide +kernel
theorem dX5_init_13 : decode cX5_init 13 = .ok (.aload_n 0, 1) := by decide +kernel
theorem dX5_init_14 : decode cX5_init 14 = .ok (.sipush 128, 3) := by decide +kernel
theorem dX5_init_17 : decode cX5_init 17 = .ok (.newarray .int, 2) := by decide +kernel
theorem dX5_init_19 : decode cX5_init 19 = .ok (.putfield 15, 3) := by decide +kernel
theorem dX5_init_22 : decode cX5_init 22 = .ok (.aload_n 0, 1) := by decide +kernel
theorem dX5_init_23 : decode cX5_init 23 = .ok (.bipush 6, 2) := by decide +kernel
theorem dX5_init_25 : decode cX5_init 25 = .ok (.newarray .int, 2) := by decide +kernel
theorem dX5_init_27 : decode cX5_init 27 = .ok (.putfield 18, 3) := by decide +kernel
theorem dX5_init_30 : decode cX5_init 30 = .ok (.aload_n 0, 1) := by decide +kernel
theorem dX5_init_31 : decode cX5_init 31 = .ok (.sipush 128, 3) := by decide +kernel
theorem dX5_init_34 : decode cX5_init 34 = .ok (.newarray .int, 2) := by decide +kernel
theorem dX5_init_36 : decode cX5_init 36 = .ok (.putfield 21, 3) := by decide +kernel
theorem dX5_init_39 : decode cX5_init 39 = .ok (.aload_n 0, 1) := by decide +kernel
theorem dX5_init_40 : decode cX5_init 40 = .ok (.sipush 2048, 3) := by decide +kernel
theorem dX5_init_43 : decode cX5_init 43 = .ok (.newarray .int, 2) := by decide +kernel
theorem dX5_init_45 : decode cX5_init 45 = .ok (.putfield 24, 3) := by decide +kernel
theorem dX5_init_48 : decode cX5_init 48 = .ok (.return_, 1) := by decide +kernel
theorem dX5_take_0 : decode cX5_take 0 = .ok (.aload_n 0, 1) := by decide +kernel
theorem dX5_take_1 : decode cX5_take 1 = .ok (.aload_n 1, 1) := by decide +kernel
theorem dX5_take_2 : decode cX5_take 2 = .ok (.putfield 27, 3) := by decide +kernel
theorem dX5_take_5 : decode cX5_take 5 = .ok (.aload_n 0, 1) := by decide +kernel
theorem dX5_take_6 : decode cX5_take 6 = .ok (.iload_n 2, 1) := by decide +kernel
theorem dX5_take_7 : decode cX5_take 7 = .ok (.aload_n 1, 1) := by decide +kernel
theorem dX5_take_8 : decode cX5_take 8 = .ok (.arraylength, 1) := by decide +kernel
theorem dX5_take_9 : decode cX5_take 9 = .ok (.invokestatic 30, 3) := by decide +kernel
theorem dX5_take_12 : decode cX5_take 12 = .ok (.putfield 36, 3) := by decide +kernel
theorem dX5_take_15 : decode cX5_take 15 = .ok (.aload_n 0, 1) := by decide +kernel
theorem dX5_take_16 : decode cX5_take 16 = .ok (.iconst 0, 1) := by decide +kernel
theorem dX5_take_17 : decode cX5_take 17 = .ok (.putfield 40, 3) := by decide +kernel
theorem dX5_take_20 : decode cX5_take 20 = .ok (.aload_n 0, 1) := by decide +kernel
theorem dX5_take_21 : decode cX5_take 21 = .ok (.iconst 0, 1) := by decide +kernel
theorem dX5_take_22 : decode cX5_take 22 = .ok (.putfield 43, 3) := by decide +kernel
theorem dX5_take_25 : decode cX5_take 25 = .ok (.aload_n 0, 1) := by decide +kernel
theorem dX5_take_26 : decode cX5_take 26 = .ok (.iconst 0, 1) := by decide +kernel
theorem dX5_take_27 : decode cX5_take 27 = .ok (.putfield 46, 3) := by decide +kernel
theorem dX5_take_30 : decode cX5_take 30 = .ok (.aload_n 0, 1) := by decide +kernel
theorem dX5_take_31 : decode cX5_take 31 = .ok (.invokevirtual 49, 3) := by decide +kernel
theorem dX5_take_34 : decode cX5_take 34 = .ok (.istore_n 3, 1) := by decide +kernel
theorem dX5_take_35 : decode cX5_take 35 = .ok (.iconst 0, 1) := by decide +kernel
theorem dX5_take_36 : decode cX5_take 36 = .ok (.istore 4, 2) := by decide +kernel
theorem dX5_take_38 : decode cX5_take 38 = .ok (.iload 4, 2) := by decide +kernel
theorem dX5_take_40 : decode cX5_take 40 = .ok (.bipush 120, 2) := by decide +kernel
theorem dX5_take_42 : decode cX5_take 42 = .ok (.if_icmp .ge 37, 3) := by decide +kernel
theorem dX5_take_45 : decode cX5_take 45 = .ok (.iload_n 3, 1) := by decide +kernel
theorem dX5_take_46 : decode cX5_take 46 = .ok (.ifCond .eq 33, 3) := by decide +kernel
theorem dX5_take_49 : decode cX5_take 49 = .ok (.aload_n 0, 1) := by decide +kernel
theorem dX5_take_50 : decode cX5_take 50 = .ok (.invokevirtual 53, 3) := by decide +kernel
theorem dX5_take_53 : decode cX5_take 53 = .ok (.bipush 59, 2) := by decide +kernel
theorem dX5_take_55 : decode cX5_take 55 = .ok (.if_icmp .ne 24, 3) := by decide +kernel
theorem dX5_take_58 : decode cX5_take 58 = .ok (.aload_n 0, 1) := by decide +kernel
theorem dX5_take_59 : decode cX5_take 59 = .ok (.dup, 1) := by decide +kernel
theorem dX5_take_60 : decode cX5_take 60 = .ok (.getfield 40, 3) := by decide +kernel
theorem dX5_take_63 : decode cX5_take 63 = .ok (.iconst 1, 1) := by decide +kernel
theorem dX5_take_64 : decode cX5_take 64 = .ok (.iadd, 1) := by decide +kernel
theorem dX5_take_65 : decode cX5_take 65 = .ok (.putfield 40, 3) := by decide +kernel
theorem dX5_take_68 : decode cX5_take 68 = .ok (.aload_n 0, 1) := by decide +kernel
theorem dX5_take_69 : decode cX5_take 69 = .ok (.invokevirtual 49, 3) := by decide +kernel
theorem dX5_take_72 : decode cX5_take 72 = .ok (.istore_n 3, 1) := by decide +kernel
theorem dX5_take_73 : decode cX5_take 73 = .ok (.iinc 4 1, 3) := by decide +kernel
theorem dX5_take_76 : decode cX5_take 76 = .ok (.goto (-38), 3) := by decide +kernel
theorem dX5_take_79 : decode cX5_take 79 = .ok (.iload_n 3, 1) := by decide +kernel
theorem dX5_take_80 : decode cX5_take 80 = .ok (.ifCond .eq 14, 3) := by decide +kernel
theorem dX5_take_83 : decode cX5_take 83 = .ok (.aload_n 0, 1) := by decide +kernel
theorem dX5_take_84 : decode cX5_take 84 = .ok (.getfield 40, 3) := by decide +kernel
theorem dX5_take_87 : decode cX5_take 87 = .ok (.aload_n 0, 1) := by decide +kernel
theorem dX5_take_88 : decode cX5_take 88 = .ok (.getfield 36, 3) := by decide +kernel
theorem dX5_take_91 : decode cX5_take 91 = .ok (.if_icmp .ge 8, 3) := by decide +kernel
theorem dX5_take_94 : decode cX5_take 94 = .ok (.aload_n 0, 1) := by decide +kernel
theorem dX5_take_95 : decode cX5_take 95 = .ok (.getfield 40, 3) := by decide +kernel
theorem dX5_take_98 : decode cX5_take 98 = .ok (.ireturn, 1) := by decide +kernel
theorem dX5_take_99 : decode cX5_take 99 = .ok (.aload_n 0, 1) := by decide +kernel
theorem dX5_take_100 : decode cX5_take 100 = .ok (.invokevirtual 57, 3) := by decide +kernel
theorem dX5_take_103 : decode cX5_take 103 = .ok (.iconst (-1), 1) := by decide +kernel
theorem dX5_take_104 : decode cX5_take 104 = .ok (.ireturn, 1) := by decide +kernel
theorem dX5_adoptDraft_0 : decode cX5_adoptDraft 0 = .ok (.aload_n 0, 1) := by decide +kernel
theorem dX5_adoptDraft_1 : decode cX5_adoptDraft 1 = .ok (.getfield 11, 3) := by decide +kernel
theorem dX5_adoptDraft_4 : decode cX5_adoptDraft 4 = .ok (.astore_n 1, 1) := by decide +kernel
theorem dX5_adoptDraft_5 : decode cX5_adoptDraft 5 = .ok (.aload_n 0, 1) := by decide +kernel
theorem dX5_adoptDraft_6 : decode cX5_adoptDraft 6 = .ok (.aload_n 0, 1) := by decide +kernel
theorem dX5_adoptDraft_7 : decode cX5_adoptDraft 7 = .ok (.getfield 15, 3) := by decide +kernel
theorem dX5_adoptDraft_10 : decode cX5_adoptDraft 10 = .ok (.putfield 11, 3) := by decide +kernel
theorem dX5_adoptDraft_13 : decode cX5_adoptDraft 13 = .ok (.aload_n 0, 1) := by decide +kernel
theorem dX5_adoptDraft_14 : decode cX5_adoptDraft 14 = .ok (.aload_n 1, 1) := by decide +kernel
theorem dX5_adoptDraft_15 : decode cX5_adoptDraft 15 = .ok (.putfield 15, 3) := by decide +kernel
theorem dX5_adoptDraft_18 : decode cX5_adoptDraft 18 = .ok (.aload_n 0, 1) := by decide +kernel
theorem dX5_adoptDraft_19 : decode cX5_adoptDraft 19 = .ok (.aload_n 0, 1) := by decide +kernel
theorem dX5_adoptDraft_20 : decode cX5_adoptDraft 20 = .ok (.getfield 43, 3) := by decide +kernel
theorem dX5_adoptDraft_23 : decode cX5_adoptDraft 23 = .ok (.putfield 60, 3) := by decide +kernel
theorem dX5_adoptDraft_26 : decode cX5_adoptDraft 26 = .ok (.aload_n 0, 1) := by decide +kernel
theorem dX5_adoptDraft_27 : decode cX5_adoptDraft 27 = .ok (.aload_n 0, 1) := by decide +kernel
theorem dX5_adoptDraft_28 : decode cX5_adoptDraft 28 = .ok (.getfield 46, 3) := by decide +kernel
theorem dX5_adoptDraft_31 : decode cX5_adoptDraft 31 = .ok (.putfield 63, 3) := by decide +kernel
theorem dX5_adoptDraft_34 : decode cX5_adoptDraft 34 = .ok (.aload_n 0, 1) := by decide +kernel
theorem dX5_adoptDraft_35 : decode cX5_adoptDraft 35 = .ok (.getfield 24, 3) := by decide +kernel
theorem dX5_adoptDraft_38 : decode cX5_adoptDraft 38 = .ok (.iconst (-1), 1) := by decide +kernel
theorem dX5_adoptDraft_39 : decode cX5_adoptDraft 39 = .ok (.invokestatic 66, 3) := by decide +kernel
theorem dX5_adoptDraft_42 : decode cX5_adoptDraft 42 = .ok (.return_, 1) := by decide +kernel
theorem dX5_comes_0 : decode cX5_comes 0 = .ok (.aload_n 0, 1) := by decide +kernel
theorem dX5_comes_1 : decode cX5_comes 1 = .ok (.getfield 40, 3) := by decide +kernel
theorem dX5_comes_4 : decode cX5_comes 4 = .ok (.aload_n 0, 1) := by decide +kernel
theorem dX5_comes_5 : decode cX5_comes 5 = .ok (.getfield 36, 3) := by decide +kernel
theorem dX5_comes_8 : decode cX5_comes 8 = .ok (.if_icmp .ge 15, 3) := by decide +kernel
theorem dX5_comes_11 : decode cX5_comes 11 = .ok (.aload_n 0, 1) := by decide +kernel
theorem dX5_comes_12 : decode cX5_comes 12 = .ok (.getfield 27, 3) := by decide +kernel
theorem dX5_comes_15 : decode cX5_comes 15 = .ok (.aload_n 0, 1) := by decide +kernel
theorem dX5_comes_16 : decode cX5_comes 16 = .ok (.getfield 40, 3) := by decide +kernel
theorem dX5_comes_19 : decode cX5_comes 19 = .ok (.iaload, 1) := by decide +kernel
theorem dX5_comes_20 : decode cX5_comes 20 = .ok (.goto 4, 3) := by decide +kernel
theorem dX5_comes_23 : decode cX5_comes 23 = .ok (.iconst (-1), 1) := by decide +kernel
theorem dX5_comes_24 : decode cX5_comes 24 = .ok (.ireturn, 1) := by decide +kernel
theorem dX5_write_0 : decode cX5_write 0 = .ok (.aload_n 0, 1) := by decide +kernel
theorem dX5_write_1 : decode cX5_write 1 = .ok (.getfield 43, 3) := by decide +kernel
theorem dX5_write_4 : decode cX5_write 4 = .ok (.sipush 128, 3) := by decide +kernel
theorem dX5_write_7 : decode cX5_write 7 = .ok (.if_icmp .lt 4, 3) := by decide +kernel
theorem dX5_write_10 : decode cX5_write 10 = .ok (.return_, 1) := by decide +kernel
theorem dX5_write_11 : decode cX5_write 11 = .ok (.aload_n 0, 1) := by decide +kernel
theorem dX5_write_12 : decode cX5_write 12 = .ok (.getfield 15, 3) := by decide +kernel
theorem dX5_write_15 : decode cX5_write 15 = .ok (.aload_n 0, 1) := by decide +kernel
theorem dX5_write_16 : decode cX5_write 16 = .ok (.getfield 43, 3) := by decide +kernel
theorem dX5_write_19 : decode cX5_write 19 = .ok (.iload_n 1, 1) := by decide +kernel
theorem dX5_write_20 : decode cX5_write 20 = .ok (.iastore, 1) := by decide +kernel
theorem dX5_write_21 : decode cX5_write 21 = .ok (.aload_n 0, 1) := by decide +kernel
theorem dX5_write_22 : decode cX5_write 22 = .ok (.dup, 1) := by decide +kernel
theorem dX5_write_23 : decode cX5_write 23 = .ok (.getfield 43, 3) := by decide +kernel
theorem dX5_write_26 : decode cX5_write 26 = .ok (.iconst 1, 1) := by decide +kernel
theorem dX5_write_27 : decode cX5_write 27 = .ok (.iadd, 1) := by decide +kernel
theorem dX5_write_28 : decode cX5_write 28 = .ok (.putfield 43, 3) := by decide +kernel
theorem dX5_write_31 : decode cX5_write 31 = .ok (.return_, 1) := by decide +kernel
theorem dX5_readLine_0 : decode cX5_readLine 0 = .ok (.aload_n 0, 1) := by decide +kernel
theorem dX5_readLine_1 : decode cX5_readLine 1 = .ok (.iconst 0, 1) := by decide +kernel
theorem dX5_readLine_2 : decode cX5_readLine 2 = .ok (.invokevirtual 72, 3) := by decide +kernel
theorem dX5_readLine_5 : decode cX5_readLine 5 = .ok (.istore_n 1, 1) := by decide +kernel
theorem dX5_readLine_6 : decode cX5_readLine 6 = .ok (.iload_n 1, 1) := by decide +kernel
theorem dX5_readLine_7 : decode cX5_readLine 7 = .ok (.ifCond .eq 34, 3) := by decide +kernel
theorem dX5_readLine_10 : decode cX5_readLine 10 = .ok (.aload_n 0, 1) := by decide +kernel
theorem dX5_readLine_11 : decode cX5_readLine 11 = .ok (.invokevirtual 53, 3) := by decide +kernel
theorem dX5_readLine_14 : decode cX5_readLine 14 = .ok (.bipush 63, 2) := by decide +kernel
theorem dX5_readLine_16 : decode cX5_readLine 16 = .ok (.if_icmp .ne 25, 3) := by decide +kernel
theorem dX5_readLine_19 : decode cX5_readLine 19 = .ok (.aload_n 0, 1) := by decide +kernel
theorem dX5_readLine_20 : decode cX5_readLine 20 = .ok (.dup, 1) := by decide +kernel
theorem dX5_readLine_21 : decode cX5_readLine 21 = .ok (.getfield 40, 3) := by decide +kernel
theorem dX5_readLine_24 : decode cX5_readLine 24 = .ok (.iconst 1, 1) := by decide +kernel
theorem dX5_readLine_25 : decode cX5_readLine 25 = .ok (.iadd, 1) := by decide +kernel
theorem dX5_readLine_26 : decode cX5_readLine 26 = .ok (.putfield 40, 3) := by decide +kernel
theorem dX5_readLine_29 : decode cX5_readLine 29 = .ok (.aload_n 0, 1) := by decide +kernel
theorem dX5_readLine_30 : decode cX5_readLine 30 = .ok (.bipush (-63), 2) := by decide +kernel
theorem dX5_readLine_32 : decode cX5_readLine 32 = .ok (.invokevirtual 76, 3) := by decide +kernel
theorem dX5_readLine_35 : decode cX5_readLine 35 = .ok (.aload_n 0, 1) := by decide +kernel
theorem dX5_readLine_36 : decode cX5_readLine 36 = .ok (.iconst 0, 1) := by decide +kernel
theorem dX5_readLine_37 : decode cX5_readLine 37 = .ok (.invokevirtual 72, 3) := by decide +kernel
theorem dX5_readLine_40 : decode cX5_readLine 40 = .ok (.istore_n 1, 1) := by decide +kernel
theorem dX5_readLine_41 : decode cX5_readLine 41 = .ok (.aload_n 0, 1) := by decide +kernel
theorem dX5_readLine_42 : decode cX5_readLine 42 = .ok (.bipush (-59), 2) := by decide +kernel
theorem dX5_readLine_44 : decode cX5_readLine 44 = .ok (.invokevirtual 76, 3) := by decide +kernel
theorem dX5_readLine_47 : decode cX5_readLine 47 = .ok (.iload_n 1, 1) := by decide +kernel
theorem dX5_readLine_48 : decode cX5_readLine 48 = .ok (.ireturn, 1) := by decide +kernel
theorem dX5_readE_0 : decode cX5_readE 0 = .ok (.aload_n 0, 1) := by decide +kernel
theorem dX5_readE_1 : decode cX5_readE 1 = .ok (.iload_n 1, 1) := by decide +kernel
theorem dX5_readE_2 : decode cX5_readE 2 = .ok (.invokevirtual 80, 3) := by decide +kernel
theorem dX5_readE_5 : decode cX5_readE 5 = .ok (.istore_n 2, 1) := by decide +kernel
theorem dX5_readE_6 : decode cX5_readE 6 = .ok (.iconst 0, 1) := by decide +kernel
theorem dX5_readE_7 : decode cX5_readE 7 = .ok (.istore_n 3, 1) := by decide +kernel
theorem dX5_readE_8 : decode cX5_readE 8 = .ok (.iload_n 3, 1) := by decide +kernel
theorem dX5_readE_9 : decode cX5_readE 9 = .ok (.bipush 120, 2) := by decide +kernel
theorem dX5_readE_11 : decode cX5_readE 11 = .ok (.if_icmp .ge 44, 3) := by decide +kernel
theorem dX5_readE_14 : decode cX5_readE 14 = .ok (.iload_n 2, 1) := by decide +kernel
theorem dX5_readE_15 : decode cX5_readE 15 = .ok (.ifCond .eq 40, 3) := by decide +kernel
theorem dX5_readE_18 : decode cX5_readE 18 = .ok (.aload_n 0, 1) := by decide +kernel
theorem dX5_readE_19 : decode cX5_readE 19 = .ok (.invokevirtual 53, 3) := by decide +kernel
theorem dX5_readE_22 : decode cX5_readE 22 = .ok (.bipush 124, 2) := by decide +kernel
theorem dX5_readE_24 : decode cX5_readE 24 = .ok (.if_icmp .ne 31, 3) := by decide +kernel
theorem dX5_readE_27 : decode cX5_readE 27 = .ok (.aload_n 0, 1) := by decide +kernel
theorem dX5_readE_28 : decode cX5_readE 28 = .ok (.dup, 1) := by decide +kernel
theorem dX5_readE_29 : decode cX5_readE 29 = .ok (.getfield 40, 3) := by decide +kernel
theorem dX5_readE_32 : decode cX5_readE 32 = .ok (.iconst 1, 1) := by decide +kernel
theorem dX5_readE_33 : decode cX5_readE 33 = .ok (.iadd, 1) := by decide +kernel
theorem dX5_readE_34 : decode cX5_readE 34 = .ok (.putfield 40, 3) := by decide +kernel
theorem dX5_readE_37 : decode cX5_readE 37 = .ok (.aload_n 0, 1) := by decide +kernel
theorem dX5_readE_38 : decode cX5_readE 38 = .ok (.iload_n 1, 1) := by decide +kernel
theorem dX5_readE_39 : decode cX5_readE 39 = .ok (.invokevirtual 80, 3) := by decide +kernel
theorem dX5_readE_42 : decode cX5_readE 42 = .ok (.istore_n 2, 1) := by decide +kernel
theorem dX5_readE_43 : decode cX5_readE 43 = .ok (.aload_n 0, 1) := by decide +kernel
theorem dX5_readE_44 : decode cX5_readE 44 = .ok (.bipush (-124), 2) := by decide +kernel
theorem dX5_readE_46 : decode cX5_readE 46 = .ok (.invokevirtual 76, 3) := by decide +kernel
theorem dX5_readE_49 : decode cX5_readE 49 = .ok (.iinc 3 1, 3) := by decide +kernel
theorem dX5_readE_52 : decode cX5_readE 52 = .ok (.goto (-44), 3) := by decide +kernel
theorem dX5_readE_55 : decode cX5_readE 55 = .ok (.iload_n 2, 1) := by decide +kernel
theorem dX5_readE_56 : decode cX5_readE 56 = .ok (.ireturn, 1) := by decide +kernel
theorem dX5_readA_0 : decode cX5_readA 0 = .ok (.aload_n 0, 1) := by decide +kernel
theorem dX5_readA_1 : decode cX5_readA 1 = .ok (.iload_n 1, 1) := by decide +kernel
theorem dX5_readA_2 : decode cX5_readA 2 = .ok (.invokevirtual 83, 3) := by decide +kernel
theorem dX5_readA_5 : decode cX5_readA 5 = .ok (.istore_n 2, 1) := by decide +kernel
theorem dX5_readA_6 : decode cX5_readA 6 = .ok (.iconst 0, 1) := by decide +kernel
theorem dX5_readA_7 : decode cX5_readA 7 = .ok (.istore_n 3, 1) := by decide +kernel
theorem dX5_readA_8 : decode cX5_readA 8 = .ok (.iload_n 3, 1) := by decide +kernel
theorem dX5_readA_9 : decode cX5_readA 9 = .ok (.bipush 120, 2) := by decide +kernel
theorem dX5_readA_11 : decode cX5_readA 11 = .ok (.if_icmp .ge 44, 3) := by decide +kernel
theorem dX5_readA_14 : decode cX5_readA 14 = .ok (.iload_n 2, 1) := by decide +kernel
theorem dX5_readA_15 : decode cX5_readA 15 = .ok (.ifCond .eq 40, 3) := by decide +kernel
theorem dX5_readA_18 : decode cX5_readA 18 = .ok (.aload_n 0, 1) := by decide +kernel
theorem dX5_readA_19 : decode cX5_readA 19 = .ok (.invokevirtual 53, 3) := by decide +kernel
theorem dX5_readA_22 : decode cX5_readA 22 = .ok (.bipush 38, 2) := by decide +kernel
theorem dX5_readA_24 : decode cX5_readA 24 = .ok (.if_icmp .ne 31, 3) := by decide +kernel
theorem dX5_readA_27 : decode cX5_readA 27 = .ok (.aload_n 0, 1) := by decide +kernel
theorem dX5_readA_28 : decode cX5_readA 28 = .ok (.dup, 1) := by decide +kernel
theorem dX5_readA_29 : decode cX5_readA 29 = .ok (.getfield 40, 3) := by decide +kernel
theorem dX5_readA_32 : decode cX5_readA 32 = .ok (.iconst 1, 1) := by decide +kernel
theorem dX5_readA_33 : decode cX5_readA 33 = .ok (.iadd, 1) := by decide +kernel
theorem dX5_readA_34 : decode cX5_readA 34 = .ok (.putfield 40, 3) := by decide +kernel
theorem dX5_readA_37 : decode cX5_readA 37 = .ok (.aload_n 0, 1) := by decide +kernel
theorem dX5_readA_38 : decode cX5_readA 38 = .ok (.iload_n 1, 1) := by decide +kernel
theorem dX5_readA_39 : decode cX5_readA 39 = .ok (.invokevirtual 83, 3) := by decide +kernel
theorem dX5_readA_42 : decode cX5_readA 42 = .ok (.istore_n 2, 1) := by decide +kernel
theorem dX5_readA_43 : decode cX5_readA 43 = .ok (.aload_n 0, 1) := by decide +kernel
theorem dX5_readA_44 : decode cX5_readA 44 = .ok (.bipush (-38), 2) := by decide +kernel
theorem dX5_readA_46 : decode cX5_readA 46 = .ok (.invokevirtual 76, 3) := by decide +kernel
theorem dX5_readA_49 : decode cX5_readA 49 = .ok (.iinc 3 1, 3) := by decide +kernel
theorem dX5_readA_52 : decode cX5_readA 52 = .ok (.goto (-44), 3) := by decide +kernel
theorem dX5_readA_55 : decode cX5_readA 55 = .ok (.iload_n 2, 1) := by decide +kernel
theorem dX5_readA_56 : decode cX5_readA 56 = .ok (.ireturn, 1) := by decide +kernel
theorem dX5_readB_0 : decode cX5_readB 0 = .ok (.aload_n 0, 1) := by decide +kernel
theorem dX5_readB_1 : decode cX5_readB 1 = .ok (.iload_n 1, 1) := by decide +kernel
theorem dX5_readB_2 : decode cX5_readB 2 = .ok (.invokevirtual 86, 3) := by decide +kernel
theorem dX5_readB_5 : decode cX5_readB 5 = .ok (.istore_n 2, 1) := by decide +kernel
theorem dX5_readB_6 : decode cX5_readB 6 = .ok (.aload_n 0, 1) := by decide +kernel
theorem dX5_readB_7 : decode cX5_readB 7 = .ok (.invokevirtual 53, 3) := by decide +kernel
theorem dX5_readB_10 : decode cX5_readB 10 = .ok (.istore_n 3, 1) := by decide +kernel
theorem dX5_readB_11 : decode cX5_readB 11 = .ok (.iload_n 2, 1) := by decide +kernel
theorem dX5_readB_12 : decode cX5_readB 12 = .ok (.ifCond .eq 43, 3) := by decide +kernel
theorem dX5_readB_15 : decode cX5_readB 15 = .ok (.iload_n 3, 1) := by decide +kernel
theorem dX5_readB_16 : decode cX5_readB 16 = .ok (.bipush 60, 2) := by decide +kernel
theorem dX5_readB_18 : decode cX5_readB 18 = .ok (.if_icmp .eq 15, 3) := by decide +kernel
theorem dX5_readB_21 : decode cX5_readB 21 = .ok (.iload_n 3, 1) := by decide +kernel
theorem dX5_readB_22 : decode cX5_readB 22 = .ok (.bipush 61, 2) := by decide +kernel
theorem dX5_readB_24 : decode cX5_readB 24 = .ok (.if_icmp .eq 9, 3) := by decide +kernel
theorem dX5_readB_27 : decode cX5_readB 27 = .ok (.iload_n 3, 1) := by decide +kernel
theorem dX5_readB_28 : decode cX5_readB 28 = .ok (.bipush 62, 2) := by decide +kernel
theorem dX5_readB_30 : decode cX5_readB 30 = .ok (.if_icmp .ne 25, 3) := by decide +kernel
theorem dX5_readB_33 : decode cX5_readB 33 = .ok (.aload_n 0, 1) := by decide +kernel
theorem dX5_readB_34 : decode cX5_readB 34 = .ok (.dup, 1) := by decide +kernel
theorem dX5_readB_35 : decode cX5_readB 35 = .ok (.getfield 40, 3) := by decide +kernel
theorem dX5_readB_38 : decode cX5_readB 38 = .ok (.iconst 1, 1) := by decide +kernel
theorem dX5_readB_39 : decode cX5_readB 39 = .ok (.iadd, 1) := by decide +kernel
theorem dX5_readB_40 : decode cX5_readB 40 = .ok (.putfield 40, 3) := by decide +kernel
theorem dX5_readB_43 : decode cX5_readB 43 = .ok (.aload_n 0, 1) := by decide +kernel
theorem dX5_readB_44 : decode cX5_readB 44 = .ok (.iload_n 1, 1) := by decide +kernel
theorem dX5_readB_45 : decode cX5_readB 45 = .ok (.invokevirtual 86, 3) := by decide +kernel
theorem dX5_readB_48 : decode cX5_readB 48 = .ok (.istore_n 2, 1) := by decide +kernel
theorem dX5_readB_49 : decode cX5_readB 49 = .ok (.aload_n 0, 1) := by decide +kernel
theorem dX5_readB_50 : decode cX5_readB 50 = .ok (.iload_n 3, 1) := by decide +kernel
theorem dX5_readB_51 : decode cX5_readB 51 = .ok (.ineg, 1) := by decide +kernel
theorem dX5_readB_52 : decode cX5_readB 52 = .ok (.invokevirtual 76, 3) := by decide +kernel
theorem dX5_readB_55 : decode cX5_readB 55 = .ok (.iload_n 2, 1) := by decide +kernel
theorem dX5_readB_56 : decode cX5_readB 56 = .ok (.ireturn, 1) := by decide +kernel
theorem dX5_readS_0 : decode cX5_readS 0 = .ok (.aload_n 0, 1) := by decide +kernel
theorem dX5_readS_1 : decode cX5_readS 1 = .ok (.iload_n 1, 1) := by decide +kernel
theorem dX5_readS_2 : decode cX5_readS 2 = .ok (.invokevirtual 89, 3) := by decide +kernel
theorem dX5_readS_5 : decode cX5_readS 5 = .ok (.istore_n 2, 1) := by decide +kernel
theorem dX5_readS_6 : decode cX5_readS 6 = .ok (.iconst 0, 1) := by decide +kernel
theorem dX5_readS_7 : decode cX5_readS 7 = .ok (.istore_n 3, 1) := by decide +kernel
theorem dX5_readS_8 : decode cX5_readS 8 = .ok (.iload_n 3, 1) := by decide +kernel
theorem dX5_readS_9 : decode cX5_readS 9 = .ok (.bipush 120, 2) := by decide +kernel
theorem dX5_readS_11 : decode cX5_readS 11 = .ok (.if_icmp .ge 60, 3) := by decide +kernel
theorem dX5_readS_14 : decode cX5_readS 14 = .ok (.iload_n 2, 1) := by decide +kernel
theorem dX5_readS_15 : decode cX5_readS 15 = .ok (.ifCond .eq 56, 3) := by decide +kernel
theorem dX5_readS_18 : decode cX5_readS 18 = .ok (.aload_n 0, 1) := by decide +kernel
theorem dX5_readS_19 : decode cX5_readS 19 = .ok (.invokevirtual 53, 3) := by decide +kernel
theorem dX5_readS_22 : decode cX5_readS 22 = .ok (.bipush 43, 2) := by decide +kernel
theorem dX5_readS_24 : decode cX5_readS 24 = .ok (.if_icmp .eq 12, 3) := by decide +kernel
theorem dX5_readS_27 : decode cX5_readS 27 = .ok (.aload_n 0, 1) := by decide +kernel
theorem dX5_readS_28 : decode cX5_readS 28 = .ok (.invokevirtual 53, 3) := by decide +kernel
theorem dX5_readS_31 : decode cX5_readS 31 = .ok (.bipush 45, 2) := by decide +kernel
theorem dX5_readS_33 : decode cX5_readS 33 = .ok (.if_icmp .ne 38, 3) := by decide +kernel
theorem dX5_readS_36 : decode cX5_readS 36 = .ok (.aload_n 0, 1) := by decide +kernel
theorem dX5_readS_37 : decode cX5_readS 37 = .ok (.invokevirtual 53, 3) := by decide +kernel
theorem dX5_readS_40 : decode cX5_readS 40 = .ok (.istore 4, 2) := by decide +kernel
theorem dX5_readS_42 : decode cX5_readS 42 = .ok (.aload_n 0, 1) := by decide +kernel
theorem dX5_readS_43 : decode cX5_readS 43 = .ok (.dup, 1) := by decide +kernel
theorem dX5_readS_44 : decode cX5_readS 44 = .ok (.getfield 40, 3) := by decide +kernel
theorem dX5_readS_47 : decode cX5_readS 47 = .ok (.iconst 1, 1) := by decide +kernel
theorem dX5_readS_48 : decode cX5_readS 48 = .ok (.iadd, 1) := by decide +kernel
theorem dX5_readS_49 : decode cX5_readS 49 = .ok (.putfield 40, 3) := by decide +kernel
theorem dX5_readS_52 : decode cX5_readS 52 = .ok (.aload_n 0, 1) := by decide +kernel
theorem dX5_readS_53 : decode cX5_readS 53 = .ok (.iload_n 1, 1) := by decide +kernel
theorem dX5_readS_54 : decode cX5_readS 54 = .ok (.invokevirtual 89, 3) := by decide +kernel
theorem dX5_readS_57 : decode cX5_readS 57 = .ok (.istore_n 2, 1) := by decide +kernel
theorem dX5_readS_58 : decode cX5_readS 58 = .ok (.aload_n 0, 1) := by decide +kernel
theorem dX5_readS_59 : decode cX5_readS 59 = .ok (.iload 4, 2) := by decide +kernel
theorem dX5_readS_61 : decode cX5_readS 61 = .ok (.ineg, 1) := by decide +kernel
theorem dX5_readS_62 : decode cX5_readS 62 = .ok (.invokevirtual 76, 3) := by decide +kernel
theorem dX5_readS_65 : decode cX5_readS 65 = .ok (.iinc 3 1, 3) := by decide +kernel
theorem dX5_readS_68 : decode cX5_readS 68 = .ok (.goto (-60), 3) := by decide +kernel
theorem dX5_readS_71 : decode cX5_readS 71 = .ok (.iload_n 2, 1) := by decide +kernel
theorem dX5_readS_72 : decode cX5_readS 72 = .ok (.ireturn, 1) := by decide +kernel
theorem dX5_readP_0 : decode cX5_readP 0 = .ok (.aload_n 0, 1) := by decide +kernel
theorem dX5_readP_1 : decode cX5_readP 1 = .ok (.iload_n 1, 1) := by decide +kernel
theorem dX5_readP_2 : decode cX5_readP 2 = .ok (.invokevirtual 92, 3) := by decide +kernel
theorem dX5_readP_5 : decode cX5_readP 5 = .ok (.istore_n 2, 1) := by decide +kernel
theorem dX5_readP_6 : decode cX5_readP 6 = .ok (.iconst 0, 1) := by decide +kernel
theorem dX5_readP_7 : decode cX5_readP 7 = .ok (.istore_n 3, 1) := by decide +kernel
theorem dX5_readP_8 : decode cX5_readP 8 = .ok (.iload_n 3, 1) := by decide +kernel
theorem dX5_readP_9 : decode cX5_readP 9 = .ok (.bipush 120, 2) := by decide +kernel
theorem dX5_readP_11 : decode cX5_readP 11 = .ok (.if_icmp .ge 69, 3) := by decide +kernel
theorem dX5_readP_14 : decode cX5_readP 14 = .ok (.iload_n 2, 1) := by decide +kernel
theorem dX5_readP_15 : decode cX5_readP 15 = .ok (.ifCond .eq 65, 3) := by decide +kernel
theorem dX5_readP_18 : decode cX5_readP 18 = .ok (.aload_n 0, 1) := by decide +kernel
theorem dX5_readP_19 : decode cX5_readP 19 = .ok (.invokevirtual 53, 3) := by decide +kernel
theorem dX5_readP_22 : decode cX5_readP 22 = .ok (.bipush 42, 2) := by decide +kernel
theorem dX5_readP_24 : decode cX5_readP 24 = .ok (.if_icmp .eq 21, 3) := by decide +kernel
theorem dX5_readP_27 : decode cX5_readP 27 = .ok (.aload_n 0, 1) := by decide +kernel
theorem dX5_readP_28 : decode cX5_readP 28 = .ok (.invokevirtual 53, 3) := by decide +kernel
theorem dX5_readP_31 : decode cX5_readP 31 = .ok (.bipush 47, 2) := by decide +kernel
theorem dX5_readP_33 : decode cX5_readP 33 = .ok (.if_icmp .eq 12, 3) := by decide +kernel
theorem dX5_readP_36 : decode cX5_readP 36 = .ok (.aload_n 0, 1) := by decide +kernel
theorem dX5_readP_37 : decode cX5_readP 37 = .ok (.invokevirtual 53, 3) := by decide +kernel
theorem dX5_readP_40 : decode cX5_readP 40 = .ok (.bipush 37, 2) := by decide +kernel
theorem dX5_readP_42 : decode cX5_readP 42 = .ok (.if_icmp .ne 38, 3) := by decide +kernel
theorem dX5_readP_45 : decode cX5_readP 45 = .ok (.aload_n 0, 1) := by decide +kernel
theorem dX5_readP_46 : decode cX5_readP 46 = .ok (.invokevirtual 53, 3) := by decide +kernel
theorem dX5_readP_49 : decode cX5_readP 49 = .ok (.istore 4, 2) := by decide +kernel
theorem dX5_readP_51 : decode cX5_readP 51 = .ok (.aload_n 0, 1) := by decide +kernel
theorem dX5_readP_52 : decode cX5_readP 52 = .ok (.dup, 1) := by decide +kernel
theorem dX5_readP_53 : decode cX5_readP 53 = .ok (.getfield 40, 3) := by decide +kernel
theorem dX5_readP_56 : decode cX5_readP 56 = .ok (.iconst 1, 1) := by decide +kernel
theorem dX5_readP_57 : decode cX5_readP 57 = .ok (.iadd, 1) := by decide +kernel
theorem dX5_readP_58 : decode cX5_readP 58 = .ok (.putfield 40, 3) := by decide +kernel
theorem dX5_readP_61 : decode cX5_readP 61 = .ok (.aload_n 0, 1) := by decide +kernel
theorem dX5_readP_62 : decode cX5_readP 62 = .ok (.iload_n 1, 1) := by decide +kernel
theorem dX5_readP_63 : decode cX5_readP 63 = .ok (.invokevirtual 92, 3) := by decide +kernel
theorem dX5_readP_66 : decode cX5_readP 66 = .ok (.istore_n 2, 1) := by decide +kernel
theorem dX5_readP_67 : decode cX5_readP 67 = .ok (.aload_n 0, 1) := by decide +kernel
theorem dX5_readP_68 : decode cX5_readP 68 = .ok (.iload 4, 2) := by decide +kernel
theorem dX5_readP_70 : decode cX5_readP 70 = .ok (.ineg, 1) := by decide +kernel
theorem dX5_readP_71 : decode cX5_readP 71 = .ok (.invokevirtual 76, 3) := by decide +kernel
theorem dX5_readP_74 : decode cX5_readP 74 = .ok (.iinc 3 1, 3) := by decide +kernel
theorem dX5_readP_77 : decode cX5_readP 77 = .ok (.goto (-69), 3) := by decide +kernel
theorem dX5_readP_80 : decode cX5_readP 80 = .ok (.iload_n 2, 1) := by decide +kernel
theorem dX5_readP_81 : decode cX5_readP 81 = .ok (.ireturn, 1) := by decide +kernel
theorem dX5_readO_0 : decode cX5_readO 0 = .ok (.aload_n 0, 1) := by decide +kernel
theorem dX5_readO_1 : decode cX5_readO 1 = .ok (.invokevirtual 53, 3) := by decide +kernel
theorem dX5_readO_4 : decode cX5_readO 4 = .ok (.istore_n 2, 1) := by decide +kernel
theorem dX5_readO_5 : decode cX5_readO 5 = .ok (.iload_n 2, 1) := by decide +kernel
theorem dX5_readO_6 : decode cX5_readO 6 = .ok (.invokestatic 95, 3) := by decide +kernel
theorem dX5_readO_9 : decode cX5_readO 9 = .ok (.ifCond .eq 9, 3) := by decide +kernel
theorem dX5_readO_12 : decode cX5_readO 12 = .ok (.aload_n 0, 1) := by decide +kernel
theorem dX5_readO_13 : decode cX5_readO 13 = .ok (.invokevirtual 98, 3) := by decide +kernel
theorem dX5_readO_16 : decode cX5_readO 16 = .ok (.iconst 1, 1) := by decide +kernel
theorem dX5_readO_17 : decode cX5_readO 17 = .ok (.ireturn, 1) := by decide +kernel
theorem dX5_readO_18 : decode cX5_readO 18 = .ok (.iload_n 2, 1) := by decide +kernel
theorem dX5_readO_19 : decode cX5_readO 19 = .ok (.invokestatic 101, 3) := by decide +kernel
theorem dX5_readO_22 : decode cX5_readO 22 = .ok (.iconst (-1), 1) := by decide +kernel
theorem dX5_readO_23 : decode cX5_readO 23 = .ok (.if_icmp .eq 13, 3) := by decide +kernel
theorem dX5_readO_26 : decode cX5_readO 26 = .ok (.aload_n 0, 1) := by decide +kernel
theorem dX5_readO_27 : decode cX5_readO 27 = .ok (.iload_n 2, 1) := by decide +kernel
theorem dX5_readO_28 : decode cX5_readO 28 = .ok (.invokestatic 101, 3) := by decide +kernel
theorem dX5_readO_31 : decode cX5_readO 31 = .ok (.invokevirtual 105, 3) := by decide +kernel
theorem dX5_readO_34 : decode cX5_readO 34 = .ok (.iconst 1, 1) := by decide +kernel
theorem dX5_readO_35 : decode cX5_readO 35 = .ok (.ireturn, 1) := by decide +kernel
theorem dX5_readO_36 : decode cX5_readO 36 = .ok (.iload_n 1, 1) := by decide +kernel
theorem dX5_readO_37 : decode cX5_readO 37 = .ok (.bipush 6, 2) := by decide +kernel
theorem dX5_readO_39 : decode cX5_readO 39 = .ok (.if_icmp .ge 21, 3) := by decide +kernel
theorem dX5_readO_42 : decode cX5_readO 42 = .ok (.iload_n 2, 1) := by decide +kernel
theorem dX5_readO_43 : decode cX5_readO 43 = .ok (.bipush 40, 2) := by decide +kernel
theorem dX5_readO_45 : decode cX5_readO 45 = .ok (.if_icmp .eq 17, 3) := by decide +kernel
theorem dX5_readO_48 : decode cX5_readO 48 = .ok (.iload_n 2, 1) := by decide +kernel
theorem dX5_readO_49 : decode cX5_readO 49 = .ok (.bipush 33, 2) := by decide +kernel
theorem dX5_readO_51 : decode cX5_readO 51 = .ok (.if_icmp .eq 11, 3) := by decide +kernel
theorem dX5_readO_54 : decode cX5_readO 54 = .ok (.iload_n 2, 1) := by decide +kernel
theorem dX5_readO_55 : decode cX5_readO 55 = .ok (.bipush 45, 2) := by decide +kernel
theorem dX5_readO_57 : decode cX5_readO 57 = .ok (.if_icmp .eq 5, 3) := by decide +kernel
theorem dX5_readO_60 : decode cX5_readO 60 = .ok (.iconst 0, 1) := by decide +kernel
theorem dX5_readO_61 : decode cX5_readO 61 = .ok (.ireturn, 1) := by decide +kernel
theorem dX5_readO_62 : decode cX5_readO 62 = .ok (.aload_n 0, 1) := by decide +kernel
theorem dX5_readO_63 : decode cX5_readO 63 = .ok (.dup, 1) := by decide +kernel
theorem dX5_readO_64 : decode cX5_readO 64 = .ok (.getfield 40, 3) := by decide +kernel
theorem dX5_readO_67 : decode cX5_readO 67 = .ok (.iconst 1, 1) := by decide +kernel
theorem dX5_readO_68 : decode cX5_readO 68 = .ok (.iadd, 1) := by decide +kernel
theorem dX5_readO_69 : decode cX5_readO 69 = .ok (.putfield 40, 3) := by decide +kernel
theorem dX5_readO_72 : decode cX5_readO 72 = .ok (.iload_n 2, 1) := by decide +kernel
theorem dX5_readO_73 : decode cX5_readO 73 = .ok (.bipush 40, 2) := by decide +kernel
theorem dX5_readO_75 : decode cX5_readO 75 = .ok (.if_icmp .ne 13, 3) := by decide +kernel
theorem dX5_readO_78 : decode cX5_readO 78 = .ok (.aload_n 0, 1) := by decide +kernel
theorem dX5_readO_79 : decode cX5_readO 79 = .ok (.iload_n 1, 1) := by decide +kernel
theorem dX5_readO_80 : decode cX5_readO 80 = .ok (.iconst 1, 1) := by decide +kernel
theorem dX5_readO_81 : decode cX5_readO 81 = .ok (.iadd, 1) := by decide +kernel
theorem dX5_readO_82 : decode cX5_readO 82 = .ok (.invokevirtual 108, 3) := by decide +kernel
theorem dX5_readO_85 : decode cX5_readO 85 = .ok (.goto 11, 3) := by decide +kernel
theorem dX5_readO_88 : decode cX5_readO 88 = .ok (.aload_n 0, 1) := by decide +kernel
theorem dX5_readO_89 : decode cX5_readO 89 = .ok (.iload_n 2, 1) := by decide +kernel
theorem dX5_readO_90 : decode cX5_readO 90 = .ok (.iload_n 1, 1) := by decide +kernel
theorem dX5_readO_91 : decode cX5_readO 91 = .ok (.iconst 1, 1) := by decide +kernel
theorem dX5_readO_92 : decode cX5_readO 92 = .ok (.iadd, 1) := by decide +kernel
theorem dX5_readO_93 : decode cX5_readO 93 = .ok (.invokevirtual 111, 3) := by decide +kernel
theorem dX5_readO_96 : decode cX5_readO 96 = .ok (.ireturn, 1) := by decide +kernel
theorem dX5_readToBracket_0 : decode cX5_readToBracket 0 = .ok (.aload_n 0, 1) := by decide +kernel
theorem dX5_readToBracket_1 : decode cX5_readToBracket 1 = .ok (.iload_n 1, 1) := by decide +kernel
theorem dX5_readToBracket_2 : decode cX5_readToBracket 2 = .ok (.invokevirtual 72, 3) := by decide +kernel
theorem dX5_readToBracket_5 : decode cX5_readToBracket 5 = .ok (.ifCond .eq 12, 3) := by decide +kernel
theorem dX5_readToBracket_8 : decode cX5_readToBracket 8 = .ok (.aload_n 0, 1) := by decide +kernel
theorem dX5_readToBracket_9 : decode cX5_readToBracket 9 = .ok (.invokevirtual 53, 3) := by decide +kernel
theorem dX5_readToBracket_12 : decode cX5_readToBracket 12 = .ok (.bipush 41, 2) := by decide +kernel
theorem dX5_readToBracket_14 : decode cX5_readToBracket 14 = .ok (.if_icmp .eq 5, 3) := by decide +kernel
theorem dX5_readToBracket_17 : decode cX5_readToBracket 17 = .ok (.iconst 0, 1) := by decide +kernel
theorem dX5_readToBracket_18 : decode cX5_readToBracket 18 = .ok (.ireturn, 1) := by decide +kernel
theorem dX5_readToBracket_19 : decode cX5_readToBracket 19 = .ok (.aload_n 0, 1) := by decide +kernel
theorem dX5_readToBracket_20 : decode cX5_readToBracket 20 = .ok (.dup, 1) := by decide +kernel
theorem dX5_readToBracket_21 : decode cX5_readToBracket 21 = .ok (.getfield 40, 3) := by decide +kernel
theorem dX5_readToBracket_24 : decode cX5_readToBracket 24 = .ok (.iconst 1, 1) := by decide +kernel
theorem dX5_readToBracket_25 : decode cX5_readToBracket 25 = .ok (.iadd, 1) := by decide +kernel
theorem dX5_readToBracket_26 : decode cX5_readToBracket 26 = .ok (.putfield 40, 3) := by decide +kernel
theorem dX5_readToBracket_29 : decode cX5_readToBracket 29 = .ok (.iconst 1, 1) := by decide +kernel
theorem dX5_readToBracket_30 : decode cX5_readToBracket 30 = .ok (.ireturn, 1) := by decide +kernel
theorem dX5_readSigned_0 : decode cX5_readSigned 0 = .ok (.aload_n 0, 1) := by decide +kernel
theorem dX5_readSigned_1 : decode cX5_readSigned 1 = .ok (.iload_n 2, 1) := by decide +kernel
theorem dX5_readSigned_2 : decode cX5_readSigned 2 = .ok (.invokevirtual 92, 3) := by decide +kernel
theorem dX5_readSigned_5 : decode cX5_readSigned 5 = .ok (.istore_n 3, 1) := by decide +kernel
theorem dX5_readSigned_6 : decode cX5_readSigned 6 = .ok (.aload_n 0, 1) := by decide +kernel
theorem dX5_readSigned_7 : decode cX5_readSigned 7 = .ok (.iload_n 1, 1) := by decide +kernel
theorem dX5_readSigned_8 : decode cX5_readSigned 8 = .ok (.bipush 45, 2) := by decide +kernel
theorem dX5_readSigned_10 : decode cX5_readSigned 10 = .ok (.if_icmp .ne 8, 3) := by decide +kernel
theorem dX5_readSigned_13 : decode cX5_readSigned 13 = .ok (.bipush (-126), 2) := by decide +kernel
theorem dX5_readSigned_15 : decode cX5_readSigned 15 = .ok (.goto 5, 3) := by decide +kernel
theorem dX5_readSigned_18 : decode cX5_readSigned 18 = .ok (.iload_n 1, 1) := by decide +kernel
theorem dX5_readSigned_19 : decode cX5_readSigned 19 = .ok (.ineg, 1) := by decide +kernel
theorem dX5_readSigned_20 : decode cX5_readSigned 20 = .ok (.invokevirtual 76, 3) := by decide +kernel
theorem dX5_readSigned_23 : decode cX5_readSigned 23 = .ok (.iload_n 3, 1) := by decide +kernel
theorem dX5_readSigned_24 : decode cX5_readSigned 24 = .ok (.ireturn, 1) := by decide +kernel
theorem dX5_readNumber_0 : decode cX5_readNumber 0 = .ok (.iconst 0, 1) := by decide +kernel
theorem dX5_readNumber_1 : decode cX5_readNumber 1 = .ok (.istore_n 1, 1) := by decide +kernel
theorem dX5_readNumber_2 : decode cX5_readNumber 2 = .ok (.iconst 0, 1) := by decide +kernel
theorem dX5_readNumber_3 : decode cX5_readNumber 3 = .ok (.istore_n 2, 1) := by decide +kernel
theorem dX5_readNumber_4 : decode cX5_readNumber 4 = .ok (.iload_n 2, 1) := by decide +kernel
theorem dX5_readNumber_5 : decode cX5_readNumber 5 = .ok (.iconst 4, 1) := by decide +kernel
theorem dX5_readNumber_6 : decode cX5_readNumber 6 = .ok (.if_icmp .ge 42, 3) := by decide +kernel
theorem dX5_readNumber_9 : decode cX5_readNumber 9 = .ok (.aload_n 0, 1) := by decide +kernel
theorem dX5_readNumber_10 : decode cX5_readNumber 10 = .ok (.invokevirtual 53, 3) := by decide +kernel
theorem dX5_readNumber_13 : decode cX5_readNumber 13 = .ok (.invokestatic 95, 3) := by decide +kernel
theorem dX5_readNumber_16 : decode cX5_readNumber 16 = .ok (.ifCond .eq 32, 3) := by decide +kernel
theorem dX5_readNumber_19 : decode cX5_readNumber 19 = .ok (.iload_n 1, 1) := by decide +kernel
theorem dX5_readNumber_20 : decode cX5_readNumber 20 = .ok (.bipush 10, 2) := by decide +kernel
theorem dX5_readNumber_22 : decode cX5_readNumber 22 = .ok (.imul, 1) := by decide +kernel
theorem dX5_readNumber_23 : decode cX5_readNumber 23 = .ok (.aload_n 0, 1) := by decide +kernel
theorem dX5_readNumber_24 : decode cX5_readNumber 24 = .ok (.invokevirtual 53, 3) := by decide +kernel
theorem dX5_readNumber_27 : decode cX5_readNumber 27 = .ok (.iadd, 1) := by decide +kernel
theorem dX5_readNumber_28 : decode cX5_readNumber 28 = .ok (.bipush 48, 2) := by decide +kernel
theorem dX5_readNumber_30 : decode cX5_readNumber 30 = .ok (.isub, 1) := by decide +kernel
theorem dX5_readNumber_31 : decode cX5_readNumber 31 = .ok (.istore_n 1, 1) := by decide +kernel
theorem dX5_readNumber_32 : decode cX5_readNumber 32 = .ok (.aload_n 0, 1) := by decide +kernel
theorem dX5_readNumber_33 : decode cX5_readNumber 33 = .ok (.dup, 1) := by decide +kernel
theorem dX5_readNumber_34 : decode cX5_readNumber 34 = .ok (.getfield 40, 3) := by decide +kernel
theorem dX5_readNumber_37 : decode cX5_readNumber 37 = .ok (.iconst 1, 1) := by decide +kernel
theorem dX5_readNumber_38 : decode cX5_readNumber 38 = .ok (.iadd, 1) := by decide +kernel
theorem dX5_readNumber_39 : decode cX5_readNumber 39 = .ok (.putfield 40, 3) := by decide +kernel
theorem dX5_readNumber_42 : decode cX5_readNumber 42 = .ok (.iinc 2 1, 3) := by decide +kernel
theorem dX5_readNumber_45 : decode cX5_readNumber 45 = .ok (.goto (-41), 3) := by decide +kernel
theorem dX5_readNumber_48 : decode cX5_readNumber 48 = .ok (.aload_n 0, 1) := by decide +kernel
theorem dX5_readNumber_49 : decode cX5_readNumber 49 = .ok (.iload_n 1, 1) := by decide +kernel
theorem dX5_readNumber_50 : decode cX5_readNumber 50 = .ok (.invokevirtual 76, 3) := by decide +kernel
theorem dX5_readNumber_53 : decode cX5_readNumber 53 = .ok (.return_, 1) := by decide +kernel
theorem dX5_readName_0 : decode cX5_readName 0 = .ok (.aload_n 0, 1) := by decide +kernel
theorem dX5_readName_1 : decode cX5_readName 1 = .ok (.dup, 1) := by decide +kernel
theorem dX5_readName_2 : decode cX5_readName 2 = .ok (.getfield 46, 3) := by decide +kernel
theorem dX5_readName_5 : decode cX5_readName 5 = .ok (.getstatic 115, 3) := by decide +kernel
theorem dX5_readName_8 : decode cX5_readName 8 = .ok (.iload_n 1, 1) := by decide +kernel
theorem dX5_readName_9 : decode cX5_readName 9 = .ok (.iaload, 1) := by decide +kernel
theorem dX5_readName_10 : decode cX5_readName 10 = .ok (.ior, 1) := by decide +kernel
theorem dX5_readName_11 : decode cX5_readName 11 = .ok (.putfield 46, 3) := by decide +kernel
theorem dX5_readName_14 : decode cX5_readName 14 = .ok (.aload_n 0, 1) := by decide +kernel
theorem dX5_readName_15 : decode cX5_readName 15 = .ok (.iconst (-1), 1) := by decide +kernel
theorem dX5_readName_16 : decode cX5_readName 16 = .ok (.iload_n 1, 1) := by decide +kernel
theorem dX5_readName_17 : decode cX5_readName 17 = .ok (.isub, 1) := by decide +kernel
theorem dX5_readName_18 : decode cX5_readName 18 = .ok (.invokevirtual 76, 3) := by decide +kernel
theorem dX5_readName_21 : decode cX5_readName 21 = .ok (.aload_n 0, 1) := by decide +kernel
theorem dX5_readName_22 : decode cX5_readName 22 = .ok (.dup, 1) := by decide +kernel
theorem dX5_readName_23 : decode cX5_readName 23 = .ok (.getfield 40, 3) := by decide +kernel
theorem dX5_readName_26 : decode cX5_readName 26 = .ok (.iconst 1, 1) := by decide +kernel
theorem dX5_readName_27 : decode cX5_readName 27 = .ok (.iadd, 1) := by decide +kernel
theorem dX5_readName_28 : decode cX5_readName 28 = .ok (.putfield 40, 3) := by decide +kernel
theorem dX5_readName_31 : decode cX5_readName 31 = .ok (.return_, 1) := by decide +kernel
theorem dX5_isDigit_0 : decode cX5_isDigit 0 = .ok (.iload_n 0, 1) := by decide +kernel
theorem dX5_isDigit_1 : decode cX5_isDigit 1 = .ok (.bipush 48, 2) := by decide +kernel
theorem dX5_isDigit_3 : decode cX5_isDigit 3 = .ok (.if_icmp .lt 13, 3) := by decide +kernel
theorem dX5_isDigit_6 : decode cX5_isDigit 6 = .ok (.iload_n 0, 1) := by decide +kernel
theorem dX5_isDigit_7 : decode cX5_isDigit 7 = .ok (.bipush 57, 2) := by decide +kernel
theorem dX5_isDigit_9 : decode cX5_isDigit 9 = .ok (.if_icmp .gt 7, 3) := by decide +kernel
theorem dX5_isDigit_12 : decode cX5_isDigit 12 = .ok (.iconst 1, 1) := by decide +kernel
theorem dX5_isDigit_13 : decode cX5_isDigit 13 = .ok (.goto 4, 3) := by decide +kernel
theorem dX5_isDigit_16 : decode cX5_isDigit 16 = .ok (.iconst 0, 1) := by decide +kernel
theorem dX5_isDigit_17 : decode cX5_isDigit 17 = .ok (.ireturn, 1) := by decide +kernel
theorem dX5_nameOf_0 : decode cX5_nameOf 0 = .ok (.iload_n 0, 1) := by decide +kernel
theorem dX5_nameOf_1 : decode cX5_nameOf 1 = .ok (.lookupswitch 71 #[(97, 61), (98, 59), (110, 65), (111, 67), (119, 63), (121, 69)], 59) := by decide +kernel
theorem dX5_nameOf_60 : decode cX5_nameOf 60 = .ok (.iconst 0, 1) := by decide +kernel
theorem dX5_nameOf_61 : decode cX5_nameOf 61 = .ok (.ireturn, 1) := by decide +kernel
theorem dX5_nameOf_62 : decode cX5_nameOf 62 = .ok (.iconst 1, 1) := by decide +kernel
theorem dX5_nameOf_63 : decode cX5_nameOf 63 = .ok (.ireturn, 1) := by decide +kernel
theorem dX5_nameOf_64 : decode cX5_nameOf 64 = .ok (.iconst 2, 1) := by decide +kernel
theorem dX5_nameOf_65 : decode cX5_nameOf 65 = .ok (.ireturn, 1) := by decide +kernel
theorem dX5_nameOf_66 : decode cX5_nameOf 66 = .ok (.iconst 3, 1) := by decide +kernel
theorem dX5_nameOf_67 : decode cX5_nameOf 67 = .ok (.ireturn, 1) := by decide +kernel
theorem dX5_nameOf_68 : decode cX5_nameOf 68 = .ok (.iconst 4, 1) := by decide +kernel
theorem dX5_nameOf_69 : decode cX5_nameOf 69 = .ok (.ireturn, 1) := by decide +kernel
theorem dX5_nameOf_70 : decode cX5_nameOf 70 = .ok (.iconst 5, 1) := by decide +kernel
theorem dX5_nameOf_71 : decode cX5_nameOf 71 = .ok (.ireturn, 1) := by decide +kernel
theorem dX5_nameOf_72 : decode cX5_nameOf 72 = .ok (.iconst (-1), 1) := by decide +kernel
theorem dX5_nameOf_73 : decode cX5_nameOf 73 = .ok (.ireturn, 1) := by decide +kernel
theorem dX5_thoughts_0 : decode cX5_thoughts 0 = .ok (.aload_n 0, 1) := by decide +kernel
theorem dX5_thoughts_1 : decode cX5_thoughts 1 = .ok (.getfield 60, 3) := by decide +kernel
theorem dX5_thoughts_4 : decode cX5_thoughts 4 = .ok (.ifCond .ne 9, 3) := by decide +kernel
theorem dX5_thoughts_7 : decode cX5_thoughts 7 = .ok (.iconst 1, 1) := by decide +kernel
theorem dX5_thoughts_8 : decode cX5_thoughts 8 = .ok (.iload_n 1, 1) := by decide +kernel
theorem dX5_thoughts_9 : decode cX5_thoughts 9 = .ok (.iconst 4, 1) := by decide +kernel
theorem dX5_thoughts_10 : decode cX5_thoughts 10 = .ok (.idiv, 1) := by decide +kernel
theorem dX5_thoughts_11 : decode cX5_thoughts 11 = .ok (.iadd, 1) := by decide +kernel
theorem dX5_thoughts_12 : decode cX5_thoughts 12 = .ok (.ireturn, 1) := by decide +kernel
theorem dX5_thoughts_13 : decode cX5_thoughts 13 = .ok (.iload_n 1, 1) := by decide +kernel
theorem dX5_thoughts_14 : decode cX5_thoughts 14 = .ok (.iload_n 2, 1) := by decide +kernel
theorem dX5_thoughts_15 : decode cX5_thoughts 15 = .ok (.iconst 4, 1) := by decide +kernel
theorem dX5_thoughts_16 : decode cX5_thoughts 16 = .ok (.ishl, 1) := by decide +kernel
theorem dX5_thoughts_17 : decode cX5_thoughts 17 = .ok (.ior, 1) := by decide +kernel
theorem dX5_thoughts_18 : decode cX5_thoughts 18 = .ok (.iload_n 3, 1) := by decide +kernel
theorem dX5_thoughts_19 : decode cX5_thoughts 19 = .ok (.bipush 8, 2) := by decide +kernel
theorem dX5_thoughts_21 : decode cX5_thoughts 21 = .ok (.ishl, 1) := by decide +kernel
theorem dX5_thoughts_22 : decode cX5_thoughts 22 = .ok (.ior, 1) := by decide +kernel
theorem dX5_thoughts_23 : decode cX5_thoughts 23 = .ok (.iload 4, 2) := by decide +kernel
theorem dX5_thoughts_25 : decode cX5_thoughts 25 = .ok (.bipush 12, 2) := by decide +kernel
theorem dX5_thoughts_27 : decode cX5_thoughts 27 = .ok (.ishl, 1) := by decide +kernel
theorem dX5_thoughts_28 : decode cX5_thoughts 28 = .ok (.ior, 1) := by decide +kernel
theorem dX5_thoughts_29 : decode cX5_thoughts 29 = .ok (.iload 5, 2) := by decide +kernel
theorem dX5_thoughts_31 : decode cX5_thoughts 31 = .ok (.bipush 16, 2) := by decide +kernel
theorem dX5_thoughts_33 : decode cX5_thoughts 33 = .ok (.ishl, 1) := by decide +kernel
theorem dX5_thoughts_34 : decode cX5_thoughts 34 = .ok (.ior, 1) := by decide +kernel
theorem dX5_thoughts_35 : decode cX5_thoughts 35 = .ok (.iload 6, 2) := by decide +kernel
theorem dX5_thoughts_37 : decode cX5_thoughts 37 = .ok (.bipush 20, 2) := by decide +kernel
theorem dX5_thoughts_39 : decode cX5_thoughts 39 = .ok (.ishl, 1) := by decide +kernel
theorem dX5_thoughts_40 : decode cX5_thoughts 40 = .ok (.ior, 1) := by decide +kernel
theorem dX5_thoughts_41 : decode cX5_thoughts 41 = .ok (.aload_n 0, 1) := by decide +kernel
theorem dX5_thoughts_42 : decode cX5_thoughts 42 = .ok (.getfield 63, 3) := by decide +kernel
theorem dX5_thoughts_45 : decode cX5_thoughts 45 = .ok (.iand, 1) := by decide +kernel
theorem dX5_thoughts_46 : decode cX5_thoughts 46 = .ok (.istore 7, 2) := by decide +kernel
theorem dX5_thoughts_48 : decode cX5_thoughts 48 = .ok (.iload 7, 2) := by decide +kernel
theorem dX5_thoughts_50 : decode cX5_thoughts 50 = .ok (.ldc 118, 2) := by decide +kernel
theorem dX5_thoughts_52 : decode cX5_thoughts 52 = .ok (.imul, 1) := by decide +kernel
theorem dX5_thoughts_53 : decode cX5_thoughts 53 = .ok (.bipush 21, 2) := by decide +kernel
theorem dX5_thoughts_55 : decode cX5_thoughts 55 = .ok (.iushr, 1) := by decide +kernel
theorem dX5_thoughts_56 : decode cX5_thoughts 56 = .ok (.istore 8, 2) := by decide +kernel
theorem dX5_thoughts_58 : decode cX5_thoughts 58 = .ok (.aload_n 0, 1) := by decide +kernel
theorem dX5_thoughts_59 : decode cX5_thoughts 59 = .ok (.getfield 24, 3) := by decide +kernel
theorem dX5_thoughts_62 : decode cX5_thoughts 62 = .ok (.iload 8, 2) := by decide +kernel
theorem dX5_thoughts_64 : decode cX5_thoughts 64 = .ok (.iaload, 1) := by decide +kernel
theorem dX5_thoughts_65 : decode cX5_thoughts 65 = .ok (.iconst 4, 1) := by decide +kernel
theorem dX5_thoughts_66 : decode cX5_thoughts 66 = .ok (.ishr, 1) := by decide +kernel
theorem dX5_thoughts_67 : decode cX5_thoughts 67 = .ok (.iload 7, 2) := by decide +kernel
theorem dX5_thoughts_69 : decode cX5_thoughts 69 = .ok (.if_icmp .ne 14, 3) := by decide +kernel
theorem dX5_thoughts_72 : decode cX5_thoughts 72 = .ok (.aload_n 0, 1) := by decide +kernel
theorem dX5_thoughts_73 : decode cX5_thoughts 73 = .ok (.getfield 24, 3) := by decide +kernel
theorem dX5_thoughts_76 : decode cX5_thoughts 76 = .ok (.iload 8, 2) := by decide +kernel
theorem dX5_thoughts_78 : decode cX5_thoughts 78 = .ok (.iaload, 1) := by decide +kernel
theorem dX5_thoughts_79 : decode cX5_thoughts 79 = .ok (.bipush 15, 2) := by decide +kernel
theorem dX5_thoughts_81 : decode cX5_thoughts 81 = .ok (.iand, 1) := by decide +kernel
theorem dX5_thoughts_82 : decode cX5_thoughts 82 = .ok (.ireturn, 1) := by decide +kernel
theorem dX5_thoughts_83 : decode cX5_thoughts 83 = .ok (.aload_n 0, 1) := by decide +kernel
theorem dX5_thoughts_84 : decode cX5_thoughts 84 = .ok (.getfield 18, 3) := by decide +kernel
theorem dX5_thoughts_87 : decode cX5_thoughts 87 = .ok (.iconst 0, 1) := by decide +kernel
theorem dX5_thoughts_88 : decode cX5_thoughts 88 = .ok (.iload_n 1, 1) := by decide +kernel
theorem dX5_thoughts_89 : decode cX5_thoughts 89 = .ok (.iastore, 1) := by decide +kernel
theorem dX5_thoughts_90 : decode cX5_thoughts 90 = .ok (.aload_n 0, 1) := by decide +kernel
theorem dX5_thoughts_91 : decode cX5_thoughts 91 = .ok (.getfield 18, 3) := by decide +kernel
theorem dX5_thoughts_94 : decode cX5_thoughts 94 = .ok (.iconst 1, 1) := by decide +kernel
theorem dX5_thoughts_95 : decode cX5_thoughts 95 = .ok (.iload_n 2, 1) := by decide +kernel
theorem dX5_thoughts_96 : decode cX5_thoughts 96 = .ok (.iastore, 1) := by decide +kernel
theorem dX5_thoughts_97 : decode cX5_thoughts 97 = .ok (.aload_n 0, 1) := by decide +kernel
theorem dX5_thoughts_98 : decode cX5_thoughts 98 = .ok (.getfield 18, 3) := by decide +kernel
theorem dX5_thoughts_101 : decode cX5_thoughts 101 = .ok (.iconst 2, 1) := by decide +kernel
theorem dX5_thoughts_102 : decode cX5_thoughts 102 = .ok (.iload_n 3, 1) := by decide +kernel
theorem dX5_thoughts_103 : decode cX5_thoughts 103 = .ok (.iastore, 1) := by decide +kernel
theorem dX5_thoughts_104 : decode cX5_thoughts 104 = .ok (.aload_n 0, 1) := by decide +kernel
theorem dX5_thoughts_105 : decode cX5_thoughts 105 = .ok (.getfield 18, 3) := by decide +kernel
theorem dX5_thoughts_108 : decode cX5_thoughts 108 = .ok (.iconst 3, 1) := by decide +kernel
theorem dX5_thoughts_109 : decode cX5_thoughts 109 = .ok (.iload 4, 2) := by decide +kernel
theorem dX5_thoughts_111 : decode cX5_thoughts 111 = .ok (.iastore, 1) := by decide +kernel
theorem dX5_thoughts_112 : decode cX5_thoughts 112 = .ok (.aload_n 0, 1) := by decide +kernel
theorem dX5_thoughts_113 : decode cX5_thoughts 113 = .ok (.getfield 18, 3) := by decide +kernel
theorem dX5_thoughts_116 : decode cX5_thoughts 116 = .ok (.iconst 4, 1) := by decide +kernel
theorem dX5_thoughts_117 : decode cX5_thoughts 117 = .ok (.iload 5, 2) := by decide +kernel
theorem dX5_thoughts_119 : decode cX5_thoughts 119 = .ok (.iastore, 1) := by decide +kernel
theorem dX5_thoughts_120 : decode cX5_thoughts 120 = .ok (.aload_n 0, 1) := by decide +kernel
theorem dX5_thoughts_121 : decode cX5_thoughts 121 = .ok (.getfield 18, 3) := by decide +kernel
theorem dX5_thoughts_124 : decode cX5_thoughts 124 = .ok (.iconst 5, 1) := by decide +kernel
theorem dX5_thoughts_125 : decode cX5_thoughts 125 = .ok (.iload 6, 2) := by decide +kernel
theorem dX5_thoughts_127 : decode cX5_thoughts 127 = .ok (.iastore, 1) := by decide +kernel
theorem dX5_thoughts_128 : decode cX5_thoughts 128 = .ok (.iconst 0, 1) := by decide +kernel
theorem dX5_thoughts_129 : decode cX5_thoughts 129 = .ok (.bipush 9, 2) := by decide +kernel
theorem dX5_thoughts_131 : decode cX5_thoughts 131 = .ok (.aload_n 0, 1) := by decide +kernel
theorem dX5_thoughts_132 : decode cX5_thoughts 132 = .ok (.invokevirtual 119, 3) := by decide +kernel
theorem dX5_thoughts_135 : decode cX5_thoughts 135 = .ok (.invokestatic 30, 3) := by decide +kernel
theorem dX5_thoughts_138 : decode cX5_thoughts 138 = .ok (.invokestatic 122, 3) := by decide +kernel
theorem dX5_thoughts_141 : decode cX5_thoughts 141 = .ok (.istore 9, 2) := by decide +kernel
theorem dX5_thoughts_143 : decode cX5_thoughts 143 = .ok (.aload_n 0, 1) := by decide +kernel
theorem dX5_thoughts_144 : decode cX5_thoughts 144 = .ok (.getfield 24, 3) := by decide +kernel
theorem dX5_thoughts_147 : decode cX5_thoughts 147 = .ok (.iload 8, 2) := by decide +kernel
theorem dX5_thoughts_149 : decode cX5_thoughts 149 = .ok (.iload 7, 2) := by decide +kernel
theorem dX5_thoughts_151 : decode cX5_thoughts 151 = .ok (.iconst 4, 1) := by decide +kernel
theorem dX5_thoughts_152 : decode cX5_thoughts 152 = .ok (.ishl, 1) := by decide +kernel
theorem dX5_thoughts_153 : decode cX5_thoughts 153 = .ok (.iload 9, 2) := by decide +kernel
theorem dX5_thoughts_155 : decode cX5_thoughts 155 = .ok (.ior, 1) := by decide +kernel
theorem dX5_thoughts_156 : decode cX5_thoughts 156 = .ok (.iastore, 1) := by decide +kernel
theorem dX5_thoughts_157 : decode cX5_thoughts 157 = .ok (.iload 9, 2) := by decide +kernel
theorem dX5_thoughts_159 : decode cX5_thoughts 159 = .ok (.ireturn, 1) := by decide +kernel
theorem dX5_workedOut_0 : decode cX5_workedOut 0 = .ok (.bipush 127, 2) := by decide +kernel
theorem dX5_workedOut_2 : decode cX5_workedOut 2 = .ok (.istore_n 1, 1) := by decide +kernel
theorem dX5_workedOut_3 : decode cX5_workedOut 3 = .ok (.iconst 0, 1) := by decide +kernel
theorem dX5_workedOut_4 : decode cX5_workedOut 4 = .ok (.istore_n 2, 1) := by decide +kernel
theorem dX5_workedOut_5 : decode cX5_workedOut 5 = .ok (.iconst 1, 1) := by decide +kernel
theorem dX5_workedOut_6 : decode cX5_workedOut 6 = .ok (.istore_n 3, 1) := by decide +kernel
theorem dX5_workedOut_7 : decode cX5_workedOut 7 = .ok (.iconst 0, 1) := by decide +kernel
theorem dX5_workedOut_8 : decode cX5_workedOut 8 = .ok (.istore 4, 2) := by decide +kernel
theorem dX5_workedOut_10 : decode cX5_workedOut 10 = .ok (.iload 4, 2) := by decide +kernel
theorem dX5_workedOut_12 : decode cX5_workedOut 12 = .ok (.aload_n 0, 1) := by decide +kernel
theorem dX5_workedOut_13 : decode cX5_workedOut 13 = .ok (.getfield 60, 3) := by decide +kernel
theorem dX5_workedOut_16 : decode cX5_workedOut 16 = .ok (.if_icmp .ge 208, 3) := by decide +kernel
theorem dX5_workedOut_19 : decode cX5_workedOut 19 = .ok (.iload 4, 2) := by decide +kernel
theorem dX5_workedOut_21 : decode cX5_workedOut 21 = .ok (.sipush 128, 3) := by decide +kernel
theorem dX5_workedOut_24 : decode cX5_workedOut 24 = .ok (.if_icmp .ge 200, 3) := by decide +kernel
theorem dX5_workedOut_27 : decode cX5_workedOut 27 = .ok (.aload_n 0, 1) := by decide +kernel
theorem dX5_workedOut_28 : decode cX5_workedOut 28 = .ok (.getfield 11, 3) := by decide +kernel
theorem dX5_workedOut_31 : decode cX5_workedOut 31 = .ok (.iload 4, 2) := by decide +kernel
theorem dX5_workedOut_33 : decode cX5_workedOut 33 = .ok (.iaload, 1) := by decide +kernel
theorem dX5_workedOut_34 : decode cX5_workedOut 34 = .ok (.istore 5, 2) := by decide +kernel
theorem dX5_workedOut_36 : decode cX5_workedOut 36 = .ok (.aload_n 0, 1) := by decide +kernel
theorem dX5_workedOut_37 : decode cX5_workedOut 37 = .ok (.getfield 21, 3) := by decide +kernel
theorem dX5_workedOut_40 : decode cX5_workedOut 40 = .ok (.iload_n 2, 1) := by decide +kernel
theorem dX5_workedOut_41 : decode cX5_workedOut 41 = .ok (.iconst 1, 1) := by decide +kernel
theorem dX5_workedOut_42 : decode cX5_workedOut 42 = .ok (.isub, 1) := by decide +kernel
theorem dX5_workedOut_43 : decode cX5_workedOut 43 = .ok (.iload_n 1, 1) := by decide +kernel
theorem dX5_workedOut_44 : decode cX5_workedOut 44 = .ok (.iand, 1) := by decide +kernel
theorem dX5_workedOut_45 : decode cX5_workedOut 45 = .ok (.iaload, 1) := by decide +kernel
theorem dX5_workedOut_46 : decode cX5_workedOut 46 = .ok (.istore 6, 2) := by decide +kernel
theorem dX5_workedOut_48 : decode cX5_workedOut 48 = .ok (.iload 5, 2) := by decide +kernel
theorem dX5_workedOut_50 : decode cX5_workedOut 50 = .ok (.bipush (-6), 2) := by decide +kernel
theorem dX5_workedOut_52 : decode cX5_workedOut 52 = .ok (.if_icmp .lt 36, 3) := by decide +kernel
theorem dX5_workedOut_55 : decode cX5_workedOut 55 = .ok (.aload_n 0, 1) := by decide +kernel
theorem dX5_workedOut_56 : decode cX5_workedOut 56 = .ok (.getfield 21, 3) := by decide +kernel
theorem dX5_workedOut_59 : decode cX5_workedOut 59 = .ok (.iload_n 2, 1) := by decide +kernel
theorem dX5_workedOut_60 : decode cX5_workedOut 60 = .ok (.iload_n 1, 1) := by decide +kernel
theorem dX5_workedOut_61 : decode cX5_workedOut 61 = .ok (.iand, 1) := by decide +kernel
theorem dX5_workedOut_62 : decode cX5_workedOut 62 = .ok (.iload 5, 2) := by decide +kernel
theorem dX5_workedOut_64 : decode cX5_workedOut 64 = .ok (.ifCond .lt 8, 3) := by decide +kernel
theorem dX5_workedOut_67 : decode cX5_workedOut 67 = .ok (.iload 5, 2) := by decide +kernel
theorem dX5_workedOut_69 : decode cX5_workedOut 69 = .ok (.goto 12, 3) := by decide +kernel
theorem dX5_workedOut_72 : decode cX5_workedOut 72 = .ok (.aload_n 0, 1) := by decide +kernel
theorem dX5_workedOut_73 : decode cX5_workedOut 73 = .ok (.getfield 18, 3) := by decide +kernel
theorem dX5_workedOut_76 : decode cX5_workedOut 76 = .ok (.iconst (-1), 1) := by decide +kernel
theorem dX5_workedOut_77 : decode cX5_workedOut 77 = .ok (.iload 5, 2) := by decide +kernel
theorem dX5_workedOut_79 : decode cX5_workedOut 79 = .ok (.isub, 1) := by decide +kernel
theorem dX5_workedOut_80 : decode cX5_workedOut 80 = .ok (.iaload, 1) := by decide +kernel
theorem dX5_workedOut_81 : decode cX5_workedOut 81 = .ok (.iastore, 1) := by decide +kernel
theorem dX5_workedOut_82 : decode cX5_workedOut 82 = .ok (.iinc 2 1, 3) := by decide +kernel
theorem dX5_workedOut_85 : decode cX5_workedOut 85 = .ok (.goto 133, 3) := by decide +kernel
theorem dX5_workedOut_88 : decode cX5_workedOut 88 = .ok (.iload 5, 2) := by decide +kernel
theorem dX5_workedOut_90 : decode cX5_workedOut 90 = .ok (.bipush (-33), 2) := by decide +kernel
theorem dX5_workedOut_92 : decode cX5_workedOut 92 = .ok (.if_icmp .ne 26, 3) := by decide +kernel
theorem dX5_workedOut_95 : decode cX5_workedOut 95 = .ok (.aload_n 0, 1) := by decide +kernel
theorem dX5_workedOut_96 : decode cX5_workedOut 96 = .ok (.getfield 21, 3) := by decide +kernel
theorem dX5_workedOut_99 : decode cX5_workedOut 99 = .ok (.iload_n 2, 1) := by decide +kernel
theorem dX5_workedOut_100 : decode cX5_workedOut 100 = .ok (.iconst 1, 1) := by decide +kernel
theorem dX5_workedOut_101 : decode cX5_workedOut 101 = .ok (.isub, 1) := by decide +kernel
theorem dX5_workedOut_102 : decode cX5_workedOut 102 = .ok (.iload_n 1, 1) := by decide +kernel
theorem dX5_workedOut_103 : decode cX5_workedOut 103 = .ok (.iand, 1) := by decide +kernel
theorem dX5_workedOut_104 : decode cX5_workedOut 104 = .ok (.iload 6, 2) := by decide +kernel
theorem dX5_workedOut_106 : decode cX5_workedOut 106 = .ok (.ifCond .ne 7, 3) := by decide +kernel
theorem dX5_workedOut_109 : decode cX5_workedOut 109 = .ok (.iconst 1, 1) := by decide +kernel
theorem dX5_workedOut_110 : decode cX5_workedOut 110 = .ok (.goto 4, 3) := by decide +kernel
theorem dX5_workedOut_113 : decode cX5_workedOut 113 = .ok (.iconst 0, 1) := by decide +kernel
theorem dX5_workedOut_114 : decode cX5_workedOut 114 = .ok (.iastore, 1) := by decide +kernel
theorem dX5_workedOut_115 : decode cX5_workedOut 115 = .ok (.goto 103, 3) := by decide +kernel
theorem dX5_workedOut_118 : decode cX5_workedOut 118 = .ok (.iload 5, 2) := by decide +kernel
theorem dX5_workedOut_120 : decode cX5_workedOut 120 = .ok (.bipush (-126), 2) := by decide +kernel
theorem dX5_workedOut_122 : decode cX5_workedOut 122 = .ok (.if_icmp .ne 19, 3) := by decide +kernel
theorem dX5_workedOut_125 : decode cX5_workedOut 125 = .ok (.aload_n 0, 1) := by decide +kernel
theorem dX5_workedOut_126 : decode cX5_workedOut 126 = .ok (.getfield 21, 3) := by decide +kernel
theorem dX5_workedOut_129 : decode cX5_workedOut 129 = .ok (.iload_n 2, 1) := by decide +kernel
theorem dX5_workedOut_130 : decode cX5_workedOut 130 = .ok (.iconst 1, 1) := by decide +kernel
theorem dX5_workedOut_131 : decode cX5_workedOut 131 = .ok (.isub, 1) := by decide +kernel
theorem dX5_workedOut_132 : decode cX5_workedOut 132 = .ok (.iload_n 1, 1) := by decide +kernel
theorem dX5_workedOut_133 : decode cX5_workedOut 133 = .ok (.iand, 1) := by decide +kernel
theorem dX5_workedOut_134 : decode cX5_workedOut 134 = .ok (.iload 6, 2) := by decide +kernel
theorem dX5_workedOut_136 : decode cX5_workedOut 136 = .ok (.ineg, 1) := by decide +kernel
theorem dX5_workedOut_137 : decode cX5_workedOut 137 = .ok (.iastore, 1) := by decide +kernel
theorem dX5_workedOut_138 : decode cX5_workedOut 138 = .ok (.goto 80, 3) := by decide +kernel
theorem dX5_workedOut_141 : decode cX5_workedOut 141 = .ok (.iload 5, 2) := by decide +kernel
theorem dX5_workedOut_143 : decode cX5_workedOut 143 = .ok (.bipush (-63), 2) := by decide +kernel
theorem dX5_workedOut_145 : decode cX5_workedOut 145 = .ok (.if_icmp .ne 20, 3) := by decide +kernel
theorem dX5_workedOut_148 : decode cX5_workedOut 148 = .ok (.iload 6, 2) := by decide +kernel
theorem dX5_workedOut_150 : decode cX5_workedOut 150 = .ok (.ifCond .eq 7, 3) := by decide +kernel
theorem dX5_workedOut_153 : decode cX5_workedOut 153 = .ok (.iconst 1, 1) := by decide +kernel
theorem dX5_workedOut_154 : decode cX5_workedOut 154 = .ok (.goto 4, 3) := by decide +kernel
theorem dX5_workedOut_157 : decode cX5_workedOut 157 = .ok (.iconst 0, 1) := by decide +kernel
theorem dX5_workedOut_158 : decode cX5_workedOut 158 = .ok (.istore_n 3, 1) := by decide +kernel
theorem dX5_workedOut_159 : decode cX5_workedOut 159 = .ok (.iinc 2 (-1), 3) := by decide +kernel
theorem dX5_workedOut_162 : decode cX5_workedOut 162 = .ok (.goto 56, 3) := by decide +kernel
theorem dX5_workedOut_165 : decode cX5_workedOut 165 = .ok (.iload 5, 2) := by decide +kernel
theorem dX5_workedOut_167 : decode cX5_workedOut 167 = .ok (.bipush (-59), 2) := by decide +kernel
theorem dX5_workedOut_169 : decode cX5_workedOut 169 = .ok (.if_icmp .ne 18, 3) := by decide +kernel
theorem dX5_workedOut_172 : decode cX5_workedOut 172 = .ok (.iload_n 3, 1) := by decide +kernel
theorem dX5_workedOut_173 : decode cX5_workedOut 173 = .ok (.ifCond .eq 6, 3) := by decide +kernel
theorem dX5_workedOut_176 : decode cX5_workedOut 176 = .ok (.iload 6, 2) := by decide +kernel
theorem dX5_workedOut_178 : decode cX5_workedOut 178 = .ok (.ireturn, 1) := by decide +kernel
theorem dX5_workedOut_179 : decode cX5_workedOut 179 = .ok (.iconst 1, 1) := by decide +kernel
theorem dX5_workedOut_180 : decode cX5_workedOut 180 = .ok (.istore_n 3, 1) := by decide +kernel
theorem dX5_workedOut_181 : decode cX5_workedOut 181 = .ok (.iinc 2 (-1), 3) := by decide +kernel
theorem dX5_workedOut_184 : decode cX5_workedOut 184 = .ok (.goto 34, 3) := by decide +kernel
theorem dX5_workedOut_187 : decode cX5_workedOut 187 = .ok (.iinc 2 (-1), 3) := by decide +kernel
theorem dX5_workedOut_190 : decode cX5_workedOut 190 = .ok (.aload_n 0, 1) := by decide +kernel
theorem dX5_workedOut_191 : decode cX5_workedOut 191 = .ok (.getfield 21, 3) := by decide +kernel
theorem dX5_workedOut_194 : decode cX5_workedOut 194 = .ok (.iload_n 2, 1) := by decide +kernel
theorem dX5_workedOut_195 : decode cX5_workedOut 195 = .ok (.iconst 1, 1) := by decide +kernel
theorem dX5_workedOut_196 : decode cX5_workedOut 196 = .ok (.isub, 1) := by decide +kernel
theorem dX5_workedOut_197 : decode cX5_workedOut 197 = .ok (.iload_n 1, 1) := by decide +kernel
theorem dX5_workedOut_198 : decode cX5_workedOut 198 = .ok (.iand, 1) := by decide +kernel
theorem dX5_workedOut_199 : decode cX5_workedOut 199 = .ok (.iload 5, 2) := by decide +kernel
theorem dX5_workedOut_201 : decode cX5_workedOut 201 = .ok (.ineg, 1) := by decide +kernel
theorem dX5_workedOut_202 : decode cX5_workedOut 202 = .ok (.aload_n 0, 1) := by decide +kernel
theorem dX5_workedOut_203 : decode cX5_workedOut 203 = .ok (.getfield 21, 3) := by decide +kernel
theorem dX5_workedOut_206 : decode cX5_workedOut 206 = .ok (.iload_n 2, 1) := by decide +kernel
theorem dX5_workedOut_207 : decode cX5_workedOut 207 = .ok (.iconst 1, 1) := by decide +kernel
theorem dX5_workedOut_208 : decode cX5_workedOut 208 = .ok (.isub, 1) := by decide +kernel
theorem dX5_workedOut_209 : decode cX5_workedOut 209 = .ok (.iload_n 1, 1) := by decide +kernel
theorem dX5_workedOut_210 : decode cX5_workedOut 210 = .ok (.iand, 1) := by decide +kernel
theorem dX5_workedOut_211 : decode cX5_workedOut 211 = .ok (.iaload, 1) := by decide +kernel
theorem dX5_workedOut_212 : decode cX5_workedOut 212 = .ok (.iload 6, 2) := by decide +kernel
theorem dX5_workedOut_214 : decode cX5_workedOut 214 = .ok (.invokestatic 125, 3) := by decide +kernel
theorem dX5_workedOut_217 : decode cX5_workedOut 217 = .ok (.iastore, 1) := by decide +kernel
theorem dX5_workedOut_218 : decode cX5_workedOut 218 = .ok (.iinc 4 1, 3) := by decide +kernel
theorem dX5_workedOut_221 : decode cX5_workedOut 221 = .ok (.goto (-211), 3) := by decide +kernel
theorem dX5_workedOut_224 : decode cX5_workedOut 224 = .ok (.iconst 0, 1) := by decide +kernel
theorem dX5_workedOut_225 : decode cX5_workedOut 225 = .ok (.ireturn, 1) := by decide +kernel
theorem dX5_joined_0 : decode cX5_joined 0 = .ok (.iload_n 0, 1) := by decide +kernel
theorem dX5_joined_1 : decode cX5_joined 1 = .ok (.lookupswitch 168 #[(38, 97), (42, 152), (43, 144), (45, 148), (47, 156), (60, 111), (61, 122), (62, 133), (124, 83)], 83) := by decide +kernel
theorem dX5_joined_84 : decode cX5_joined 84 = .ok (.iload_n 1, 1) := by decide +kernel
theorem dX5_joined_85 : decode cX5_joined 85 = .ok (.ifCond .ne 7, 3) := by decide +kernel
theorem dX5_joined_88 : decode cX5_joined 88 = .ok (.iload_n 2, 1) := by decide +kernel
theorem dX5_joined_89 : decode cX5_joined 89 = .ok (.ifCond .eq 7, 3) := by decide +kernel
theorem dX5_joined_92 : decode cX5_joined 92 = .ok (.iconst 1, 1) := by decide +kernel
theorem dX5_joined_93 : decode cX5_joined 93 = .ok (.goto 4, 3) := by decide +kernel
theorem dX5_joined_96 : decode cX5_joined 96 = .ok (.iconst 0, 1) := by decide +kernel
theorem dX5_joined_97 : decode cX5_joined 97 = .ok (.ireturn, 1) := by decide +kernel
theorem dX5_joined_98 : decode cX5_joined 98 = .ok (.iload_n 1, 1) := by decide +kernel
theorem dX5_joined_99 : decode cX5_joined 99 = .ok (.ifCond .eq 11, 3) := by decide +kernel
theorem dX5_joined_102 : decode cX5_joined 102 = .ok (.iload_n 2, 1) := by decide +kernel
theorem dX5_joined_103 : decode cX5_joined 103 = .ok (.ifCond .eq 7, 3) := by decide +kernel
theorem dX5_joined_106 : decode cX5_joined 106 = .ok (.iconst 1, 1) := by decide +kernel
theorem dX5_joined_107 : decode cX5_joined 107 = .ok (.goto 4, 3) := by decide +kernel
theorem dX5_joined_110 : decode cX5_joined 110 = .ok (.iconst 0, 1) := by decide +kernel
theorem dX5_joined_111 : decode cX5_joined 111 = .ok (.ireturn, 1) := by decide +kernel
theorem dX5_joined_112 : decode cX5_joined 112 = .ok (.iload_n 1, 1) := by decide +kernel
theorem dX5_joined_113 : decode cX5_joined 113 = .ok (.iload_n 2, 1) := by decide +kernel
theorem dX5_joined_114 : decode cX5_joined 114 = .ok (.if_icmp .ge 7, 3) := by decide +kernel
theorem dX5_joined_117 : decode cX5_joined 117 = .ok (.iconst 1, 1) := by decide +kernel
theorem dX5_joined_118 : decode cX5_joined 118 = .ok (.goto 4, 3) := by decide +kernel
theorem dX5_joined_121 : decode cX5_joined 121 = .ok (.iconst 0, 1) := by decide +kernel
theorem dX5_joined_122 : decode cX5_joined 122 = .ok (.ireturn, 1) := by decide +kernel
theorem dX5_joined_123 : decode cX5_joined 123 = .ok (.iload_n 1, 1) := by decide +kernel
theorem dX5_joined_124 : decode cX5_joined 124 = .ok (.iload_n 2, 1) := by decide +kernel
theorem dX5_joined_125 : decode cX5_joined 125 = .ok (.if_icmp .ne 7, 3) := by decide +kernel
theorem dX5_joined_128 : decode cX5_joined 128 = .ok (.iconst 1, 1) := by decide +kernel
theorem dX5_joined_129 : decode cX5_joined 129 = .ok (.goto 4, 3) := by decide +kernel
theorem dX5_joined_132 : decode cX5_joined 132 = .ok (.iconst 0, 1) := by decide +kernel
theorem dX5_joined_133 : decode cX5_joined 133 = .ok (.ireturn, 1) := by decide +kernel
theorem dX5_joined_134 : decode cX5_joined 134 = .ok (.iload_n 1, 1) := by decide +kernel
theorem dX5_joined_135 : decode cX5_joined 135 = .ok (.iload_n 2, 1) := by decide +kernel
theorem dX5_joined_136 : decode cX5_joined 136 = .ok (.if_icmp .le 7, 3) := by decide +kernel
theorem dX5_joined_139 : decode cX5_joined 139 = .ok (.iconst 1, 1) := by decide +kernel
theorem dX5_joined_140 : decode cX5_joined 140 = .ok (.goto 4, 3) := by decide +kernel
theorem dX5_joined_143 : decode cX5_joined 143 = .ok (.iconst 0, 1) := by decide +kernel
theorem dX5_joined_144 : decode cX5_joined 144 = .ok (.ireturn, 1) := by decide +kernel
theorem dX5_joined_145 : decode cX5_joined 145 = .ok (.iload_n 1, 1) := by decide +kernel
theorem dX5_joined_146 : decode cX5_joined 146 = .ok (.iload_n 2, 1) := by decide +kernel
theorem dX5_joined_147 : decode cX5_joined 147 = .ok (.iadd, 1) := by decide +kernel
theorem dX5_joined_148 : decode cX5_joined 148 = .ok (.ireturn, 1) := by decide +kernel
theorem dX5_joined_149 : decode cX5_joined 149 = .ok (.iload_n 1, 1) := by decide +kernel
theorem dX5_joined_150 : decode cX5_joined 150 = .ok (.iload_n 2, 1) := by decide +kernel
theorem dX5_joined_151 : decode cX5_joined 151 = .ok (.isub, 1) := by decide +kernel
theorem dX5_joined_152 : decode cX5_joined 152 = .ok (.ireturn, 1) := by decide +kernel
theorem dX5_joined_153 : decode cX5_joined 153 = .ok (.iload_n 1, 1) := by decide +kernel
theorem dX5_joined_154 : decode cX5_joined 154 = .ok (.iload_n 2, 1) := by decide +kernel
theorem dX5_joined_155 : decode cX5_joined 155 = .ok (.imul, 1) := by decide +kernel
theorem dX5_joined_156 : decode cX5_joined 156 = .ok (.ireturn, 1) := by decide +kernel
theorem dX5_joined_157 : decode cX5_joined 157 = .ok (.iload_n 2, 1) := by decide +kernel
theorem dX5_joined_158 : decode cX5_joined 158 = .ok (.ifCond .ne 7, 3) := by decide +kernel
theorem dX5_joined_161 : decode cX5_joined 161 = .ok (.iconst 0, 1) := by decide +kernel
theorem dX5_joined_162 : decode cX5_joined 162 = .ok (.goto 6, 3) := by decide +kernel
theorem dX5_joined_165 : decode cX5_joined 165 = .ok (.iload_n 1, 1) := by decide +kernel
theorem dX5_joined_166 : decode cX5_joined 166 = .ok (.iload_n 2, 1) := by decide +kernel
theorem dX5_joined_167 : decode cX5_joined 167 = .ok (.idiv, 1) := by decide +kernel
theorem dX5_joined_168 : decode cX5_joined 168 = .ok (.ireturn, 1) := by decide +kernel
theorem dX5_joined_169 : decode cX5_joined 169 = .ok (.iload_n 2, 1) := by decide +kernel
theorem dX5_joined_170 : decode cX5_joined 170 = .ok (.ifCond .ne 7, 3) := by decide +kernel
theorem dX5_joined_173 : decode cX5_joined 173 = .ok (.iconst 0, 1) := by decide +kernel
theorem dX5_joined_174 : decode cX5_joined 174 = .ok (.goto 6, 3) := by decide +kernel
theorem dX5_joined_177 : decode cX5_joined 177 = .ok (.iload_n 1, 1) := by decide +kernel
theorem dX5_joined_178 : decode cX5_joined 178 = .ok (.iload_n 2, 1) := by decide +kernel
theorem dX5_joined_179 : decode cX5_joined 179 = .ok (.irem, 1) := by decide +kernel
theorem dX5_joined_180 : decode cX5_joined 180 = .ok (.ireturn, 1) := by decide +kernel
theorem dX6_init_0 : decode cX6_init 0 = .ok (.aload_n 0, 1) := by decide +kernel
theorem dX6_init_1 : decode cX6_init 1 = .ok (.invokespecial 3, 3) := by decide +kernel
theorem dX6_init_4 : decode cX6_init 4 = .ok (.aload_n 0, 1) := by decide +kernel
theorem dX6_init_5 : decode cX6_init 5 = .ok (.bipush 40, 2) := by decide +kernel
theorem dX6_init_7 : decode cX6_init 7 = .ok (.newarray .int, 2) := by decide +kernel
theorem dX6_init_9 : decode cX6_init 9 = .ok (.putfield 9, 3) := by decide +kernel
theorem dX6_init_12 : decode cX6_init 12 = .ok (.aload_n 0, 1) := by decide +kernel
theorem dX6_init_13 : decode cX6_init 13 = .ok (.iconst 4, 1) := by decide +kernel
theorem dX6_init_14 : decode cX6_init 14 = .ok (.newarray .int, 2) := by decide +kernel
theorem dX6_init_16 : decode cX6_init 16 = .ok (.putfield 15, 3) := by decide +kernel
theorem dX6_init_19 : decode cX6_init 19 = .ok (.aload_n 0, 1) := by decide +kernel
theorem dX6_init_20 : decode cX6_init 20 = .ok (.iconst 4, 1) := by decide +kernel
theorem dX6_init_21 : decode cX6_init 21 = .ok (.newarray .int, 2) := by decide +kernel
theorem dX6_init_23 : decode cX6_init 23 = .ok (.putfield 18, 3) := by decide +kernel
theorem dX6_init_26 : decode cX6_init 26 = .ok (.aload_n 0, 1) := by decide +kernel
theorem dX6_init_27 : decode cX6_init 27 = .ok (.aload_n 1, 1) := by decide +kernel
theorem dX6_init_28 : decode cX6_init 28 = .ok (.putfield 21, 3) := by decide +kernel
theorem dX6_init_31 : decode cX6_init 31 = .ok (.aload_n 0, 1) := by decide +kernel
theorem dX6_init_32 : decode cX6_init 32 = .ok (.new 25, 3) := by decide +kernel
theorem dX6_init_35 : decode cX6_init 35 = .ok (.dup, 1) := by decide +kernel
theorem dX6_init_36 : decode cX6_init 36 = .ok (.aload_n 1, 1) := by decide +kernel
theorem dX6_init_37 : decode cX6_init 37 = .ok (.aload_n 2, 1) := by decide +kernel
theorem dX6_init_38 : decode cX6_init 38 = .ok (.invokespecial 27, 3) := by decide +kernel
theorem dX6_init_41 : decode cX6_init 41 = .ok (.putfield 30, 3) := by decide +kernel
theorem dX6_init_44 : decode cX6_init 44 = .ok (.return_, 1) := by decide +kernel
theorem dX6_closedOnes_0 : decode cX6_closedOnes 0 = .ok (.aload_n 0, 1) := by decide +kernel
theorem dX6_closedOnes_1 : decode cX6_closedOnes 1 = .ok (.getfield 21, 3) := by decide +kernel
theorem dX6_closedOnes_4 : decode cX6_closedOnes 4 = .ok (.invokevirtual 34, 3) := by decide +kernel
theorem dX6_closedOnes_7 : decode cX6_closedOnes 7 = .ok (.aload_n 0, 1) := by decide +kernel
theorem dX6_closedOnes_8 : decode cX6_closedOnes 8 = .ok (.getfield 21, 3) := by decide +kernel
theorem dX6_closedOnes_11 : decode cX6_closedOnes 11 = .ok (.invokevirtual 40, 3) := by decide +kernel
theorem dX6_closedOnes_14 : decode cX6_closedOnes 14 = .ok (.isub, 1) := by decide +kernel
theorem dX6_closedOnes_15 : decode cX6_closedOnes 15 = .ok (.ireturn, 1) := by decide +kernel
theorem dX6_sayers_0 : decode cX6_sayers 0 = .ok (.iconst 0, 1) := by decide +kernel
theorem dX6_sayers_1 : decode cX6_sayers 1 = .ok (.istore_n 2, 1) := by decide +kernel
theorem dX6_sayers_2 : decode cX6_sayers 2 = .ok (.iconst 0, 1) := by decide +kernel
theorem dX6_sayers_3 : decode cX6_sayers 3 = .ok (.istore_n 3, 1) := by decide +kernel
theorem dX6_sayers_4 : decode cX6_sayers 4 = .ok (.iload_n 3, 1) := by decide +kernel
theorem dX6_sayers_5 : decode cX6_sayers 5 = .ok (.aload_n 0, 1) := by decide +kernel
theorem dX6_sayers_6 : decode cX6_sayers 6 = .ok (.getfield 21, 3) := by decide +kernel
theorem dX6_sayers_9 : decode cX6_sayers 9 = .ok (.invokevirtual 34, 3) := by decide +kernel
theorem dX6_sayers_12 : decode cX6_sayers 12 = .ok (.if_icmp .ge 35, 3) := by decide +kernel
theorem dX6_sayers_15 : decode cX6_sayers 15 = .ok (.aload_n 0, 1) := by decide +kernel
theorem dX6_sayers_16 : decode cX6_sayers 16 = .ok (.getfield 21, 3) := by decide +kernel
theorem dX6_sayers_19 : decode cX6_sayers 19 = .ok (.iload_n 3, 1) := by decide +kernel
theorem dX6_sayers_20 : decode cX6_sayers 20 = .ok (.invokevirtual 43, 3) := by decide +kernel
theorem dX6_sayers_23 : decode cX6_sayers 23 = .ok (.ifCond .ne 18, 3) := by decide +kernel
theorem dX6_sayers_26 : decode cX6_sayers 26 = .ok (.aload_n 0, 1) := by decide +kernel
theorem dX6_sayers_27 : decode cX6_sayers 27 = .ok (.getfield 21, 3) := by decide +kernel
theorem dX6_sayers_30 : decode cX6_sayers 30 = .ok (.iload_n 3, 1) := by decide +kernel
theorem dX6_sayers_31 : decode cX6_sayers 31 = .ok (.invokevirtual 47, 3) := by decide +kernel
theorem dX6_sayers_34 : decode cX6_sayers 34 = .ok (.iload_n 1, 1) := by decide +kernel
theorem dX6_sayers_35 : decode cX6_sayers 35 = .ok (.if_icmp .ne 6, 3) := by decide +kernel
theorem dX6_sayers_38 : decode cX6_sayers 38 = .ok (.iinc 2 1, 3) := by decide +kernel
theorem dX6_sayers_41 : decode cX6_sayers 41 = .ok (.iinc 3 1, 3) := by decide +kernel
theorem dX6_sayers_44 : decode cX6_sayers 44 = .ok (.goto (-40), 3) := by decide +kernel
theorem dX6_sayers_47 : decode cX6_sayers 47 = .ok (.iload_n 2, 1) := by decide +kernel
theorem dX6_sayers_48 : decode cX6_sayers 48 = .ok (.ireturn, 1) := by decide +kernel
theorem dX6_pairs_0 : decode cX6_pairs 0 = .ok (.aload_n 0, 1) := by decide +kernel
theorem dX6_pairs_1 : decode cX6_pairs 1 = .ok (.invokevirtual 51, 3) := by decide +kernel
theorem dX6_pairs_4 : decode cX6_pairs 4 = .ok (.aload_n 0, 1) := by decide +kernel
theorem dX6_pairs_5 : decode cX6_pairs 5 = .ok (.invokevirtual 51, 3) := by decide +kernel
theorem dX6_pairs_8 : decode cX6_pairs 8 = .ok (.iconst 1, 1) := by decide +kernel
theorem dX6_pairs_9 : decode cX6_pairs 9 = .ok (.isub, 1) := by decide +kernel
theorem dX6_pairs_10 : decode cX6_pairs 10 = .ok (.imul, 1) := by decide +kernel
theorem dX6_pairs_11 : decode cX6_pairs 11 = .ok (.iconst 2, 1) := by decide +kernel
theorem dX6_pairs_12 : decode cX6_pairs 12 = .ok (.idiv, 1) := by decide +kernel
theorem dX6_pairs_13 : decode cX6_pairs 13 = .ok (.ireturn, 1) := by decide +kernel
theorem dX6_likePairs_0 : decode cX6_likePairs 0 = .ok (.iconst 0, 1) := by decide +kernel
theorem dX6_likePairs_1 : decode cX6_likePairs 1 = .ok (.istore_n 1, 1) := by decide +kernel
theorem dX6_likePairs_2 : decode cX6_likePairs 2 = .ok (.iconst 0, 1) := by decide +kernel
theorem dX6_likePairs_3 : decode cX6_likePairs 3 = .ok (.istore_n 2, 1) := by decide +kernel
theorem dX6_likePairs_4 : decode cX6_likePairs 4 = .ok (.iload_n 2, 1) := by decide +kernel
theorem dX6_likePairs_5 : decode cX6_likePairs 5 = .ok (.bipush 10, 2) := by decide +kernel
theorem dX6_likePairs_7 : decode cX6_likePairs 7 = .ok (.if_icmp .ge 27, 3) := by decide +kernel
theorem dX6_likePairs_10 : decode cX6_likePairs 10 = .ok (.iload_n 1, 1) := by decide +kernel
theorem dX6_likePairs_11 : decode cX6_likePairs 11 = .ok (.aload_n 0, 1) := by decide +kernel
theorem dX6_likePairs_12 : decode cX6_likePairs 12 = .ok (.iload_n 2, 1) := by decide +kernel
theorem dX6_likePairs_13 : decode cX6_likePairs 13 = .ok (.invokevirtual 54, 3) := by decide +kernel
theorem dX6_likePairs_16 : decode cX6_likePairs 16 = .ok (.aload_n 0, 1) := by decide +kernel
theorem dX6_likePairs_17 : decode cX6_likePairs 17 = .ok (.iload_n 2, 1) := by decide +kernel
theorem dX6_likePairs_18 : decode cX6_likePairs 18 = .ok (.invokevirtual 54, 3) := by decide +kernel
theorem dX6_likePairs_21 : decode cX6_likePairs 21 = .ok (.iconst 1, 1) := by decide +kernel
theorem dX6_likePairs_22 : decode cX6_likePairs 22 = .ok (.isub, 1) := by decide +kernel
theorem dX6_likePairs_23 : decode cX6_likePairs 23 = .ok (.imul, 1) := by decide +kernel
theorem dX6_likePairs_24 : decode cX6_likePairs 24 = .ok (.iconst 2, 1) := by decide +kernel
theorem dX6_likePairs_25 : decode cX6_likePairs 25 = .ok (.idiv, 1) := by decide +kernel
theorem dX6_likePairs_26 : decode cX6_likePairs 26 = .ok (.iadd, 1) := by decide +kernel
theorem dX6_likePairs_27 : decode cX6_likePairs 27 = .ok (.istore_n 1, 1) := by decide +kernel
theorem dX6_likePairs_28 : decode cX6_likePairs 28 = .ok (.iinc 2 1, 3) := by decide +kernel
theorem dX6_likePairs_31 : decode cX6_likePairs 31 = .ok (.goto (-27), 3) := by decide +kernel
theorem dX6_likePairs_34 : decode cX6_likePairs 34 = .ok (.iload_n 1, 1) := by decide +kernel
theorem dX6_likePairs_35 : decode cX6_likePairs 35 = .ok (.ireturn, 1) := by decide +kernel
theorem dX6_closedBits_0 : decode cX6_closedBits 0 = .ok (.iconst 0, 1) := by decide +kernel
theorem dX6_closedBits_1 : decode cX6_closedBits 1 = .ok (.istore_n 1, 1) := by decide +kernel
theorem dX6_closedBits_2 : decode cX6_closedBits 2 = .ok (.iconst 0, 1) := by decide +kernel
theorem dX6_closedBits_3 : decode cX6_closedBits 3 = .ok (.istore_n 2, 1) := by decide +kernel
theorem dX6_closedBits_4 : decode cX6_closedBits 4 = .ok (.iload_n 2, 1) := by decide +kernel
theorem dX6_closedBits_5 : decode cX6_closedBits 5 = .ok (.aload_n 0, 1) := by decide +kernel
theorem dX6_closedBits_6 : decode cX6_closedBits 6 = .ok (.getfield 21, 3) := by decide +kernel
theorem dX6_closedBits_9 : decode cX6_closedBits 9 = .ok (.invokevirtual 34, 3) := by decide +kernel
theorem dX6_closedBits_12 : decode cX6_closedBits 12 = .ok (.if_icmp .ge 26, 3) := by decide +kernel
theorem dX6_closedBits_15 : decode cX6_closedBits 15 = .ok (.aload_n 0, 1) := by decide +kernel
theorem dX6_closedBits_16 : decode cX6_closedBits 16 = .ok (.getfield 21, 3) := by decide +kernel
theorem dX6_closedBits_19 : decode cX6_closedBits 19 = .ok (.iload_n 2, 1) := by decide +kernel
theorem dX6_closedBits_20 : decode cX6_closedBits 20 = .ok (.invokevirtual 43, 3) := by decide +kernel
theorem dX6_closedBits_23 : decode cX6_closedBits 23 = .ok (.ifCond .ne 9, 3) := by decide +kernel
theorem dX6_closedBits_26 : decode cX6_closedBits 26 = .ok (.iload_n 1, 1) := by decide +kernel
theorem dX6_closedBits_27 : decode cX6_closedBits 27 = .ok (.iconst 1, 1) := by decide +kernel
theorem dX6_closedBits_28 : decode cX6_closedBits 28 = .ok (.iload_n 2, 1) := by decide +kernel
theorem dX6_closedBits_29 : decode cX6_closedBits 29 = .ok (.ishl, 1) := by decide +kernel
theorem dX6_closedBits_30 : decode cX6_closedBits 30 = .ok (.ior, 1) := by decide +kernel
theorem dX6_closedBits_31 : decode cX6_closedBits 31 = .ok (.istore_n 1, 1) := by decide +kernel
theorem dX6_closedBits_32 : decode cX6_closedBits 32 = .ok (.iinc 2 1, 3) := by decide +kernel
theorem dX6_closedBits_35 : decode cX6_closedBits 35 = .ok (.goto (-31), 3) := by decide +kernel
theorem dX6_closedBits_38 : decode cX6_closedBits 38 = .ok (.iload_n 1, 1) := by decide +kernel
theorem dX6_closedBits_39 : decode cX6_closedBits 39 = .ok (.ireturn, 1) := by decide +kernel
theorem dX6_fewestThatSay_0 : decode cX6_fewestThatSay 0 = .ok (.aload_n 0, 1) := by decide +kernel
theorem dX6_fewestThatSay_1 : decode cX6_fewestThatSay 1 = .ok (.invokevirtual 57, 3) := by decide +kernel
theorem dX6_fewestThatSay_4 : decode cX6_fewestThatSay 4 = .ok (.istore_n 2, 1) := by decide +kernel
theorem dX6_fewestThatSay_5 : decode cX6_fewestThatSay 5 = .ok (.bipush (-2), 2) := by decide +kernel
theorem dX6_fewestThatSay_7 : decode cX6_fewestThatSay 7 = .ok (.istore_n 3, 1) := by decide +kernel
theorem dX6_fewestThatSay_8 : decode cX6_fewestThatSay 8 = .ok (.iconst 0, 1) := by decide +kernel
theorem dX6_fewestThatSay_9 : decode cX6_fewestThatSay 9 = .ok (.istore 4, 2) := by decide +kernel
theorem dX6_fewestThatSay_11 : decode cX6_fewestThatSay 11 = .ok (.iload 4, 2) := by decide +kernel
theorem dX6_fewestThatSay_13 : decode cX6_fewestThatSay 13 = .ok (.iconst 1, 1) := by decide +kernel
theorem dX6_fewestThatSay_14 : decode cX6_fewestThatSay 14 = .ok (.aload_n 0, 1) := by decide +kernel
theorem dX6_fewestThatSay_15 : decode cX6_fewestThatSay 15 = .ok (.getfield 21, 3) := by decide +kernel
theorem dX6_fewestThatSay_18 : decode cX6_fewestThatSay 18 = .ok (.invokevirtual 34, 3) := by decide +kernel
theorem dX6_fewestThatSay_21 : decode cX6_fewestThatSay 21 = .ok (.ishl, 1) := by decide +kernel
theorem dX6_fewestThatSay_22 : decode cX6_fewestThatSay 22 = .ok (.if_icmp .ge 64, 3) := by decide +kernel
theorem dX6_fewestThatSay_25 : decode cX6_fewestThatSay 25 = .ok (.iload_n 3, 1) := by decide +kernel
theorem dX6_fewestThatSay_26 : decode cX6_fewestThatSay 26 = .ok (.bipush (-2), 2) := by decide +kernel
theorem dX6_fewestThatSay_28 : decode cX6_fewestThatSay 28 = .ok (.if_icmp .eq 15, 3) := by decide +kernel
theorem dX6_fewestThatSay_31 : decode cX6_fewestThatSay 31 = .ok (.iload 4, 2) := by decide +kernel
theorem dX6_fewestThatSay_33 : decode cX6_fewestThatSay 33 = .ok (.invokestatic 60, 3) := by decide +kernel
theorem dX6_fewestThatSay_36 : decode cX6_fewestThatSay 36 = .ok (.iload_n 3, 1) := by decide +kernel
theorem dX6_fewestThatSay_37 : decode cX6_fewestThatSay 37 = .ok (.invokestatic 60, 3) := by decide +kernel
theorem dX6_fewestThatSay_40 : decode cX6_fewestThatSay 40 = .ok (.if_icmp .ge 7, 3) := by decide +kernel
theorem dX6_fewestThatSay_43 : decode cX6_fewestThatSay 43 = .ok (.iconst 1, 1) := by decide +kernel
theorem dX6_fewestThatSay_44 : decode cX6_fewestThatSay 44 = .ok (.goto 4, 3) := by decide +kernel
theorem dX6_fewestThatSay_47 : decode cX6_fewestThatSay 47 = .ok (.iconst 0, 1) := by decide +kernel
theorem dX6_fewestThatSay_48 : decode cX6_fewestThatSay 48 = .ok (.istore 5, 2) := by decide +kernel
theorem dX6_fewestThatSay_50 : decode cX6_fewestThatSay 50 = .ok (.iload 4, 2) := by decide +kernel
theorem dX6_fewestThatSay_52 : decode cX6_fewestThatSay 52 = .ok (.iload_n 2, 1) := by decide +kernel
theorem dX6_fewestThatSay_53 : decode cX6_fewestThatSay 53 = .ok (.iconst (-1), 1) := by decide +kernel
theorem dX6_fewestThatSay_54 : decode cX6_fewestThatSay 54 = .ok (.ixor, 1) := by decide +kernel
theorem dX6_fewestThatSay_55 : decode cX6_fewestThatSay 55 = .ok (.iand, 1) := by decide +kernel
theorem dX6_fewestThatSay_56 : decode cX6_fewestThatSay 56 = .ok (.ifCond .ne 24, 3) := by decide +kernel
theorem dX6_fewestThatSay_59 : decode cX6_fewestThatSay 59 = .ok (.iload 5, 2) := by decide +kernel
theorem dX6_fewestThatSay_61 : decode cX6_fewestThatSay 61 = .ok (.ifCond .eq 19, 3) := by decide +kernel
theorem dX6_fewestThatSay_64 : decode cX6_fewestThatSay 64 = .ok (.iload_n 1, 1) := by decide +kernel
theorem dX6_fewestThatSay_65 : decode cX6_fewestThatSay 65 = .ok (.aload_n 0, 1) := by decide +kernel
theorem dX6_fewestThatSay_66 : decode cX6_fewestThatSay 66 = .ok (.iload 4, 2) := by decide +kernel
theorem dX6_fewestThatSay_68 : decode cX6_fewestThatSay 68 = .ok (.invokevirtual 65, 3) := by decide +kernel
theorem dX6_fewestThatSay_71 : decode cX6_fewestThatSay 71 = .ok (.iconst (-1), 1) := by decide +kernel
theorem dX6_fewestThatSay_72 : decode cX6_fewestThatSay 72 = .ok (.ixor, 1) := by decide +kernel
theorem dX6_fewestThatSay_73 : decode cX6_fewestThatSay 73 = .ok (.iand, 1) := by decide +kernel
theorem dX6_fewestThatSay_74 : decode cX6_fewestThatSay 74 = .ok (.ifCond .ne 6, 3) := by decide +kernel
theorem dX6_fewestThatSay_77 : decode cX6_fewestThatSay 77 = .ok (.iload 4, 2) := by decide +kernel
theorem dX6_fewestThatSay_79 : decode cX6_fewestThatSay 79 = .ok (.istore_n 3, 1) := by decide +kernel
theorem dX6_fewestThatSay_80 : decode cX6_fewestThatSay 80 = .ok (.iinc 4 1, 3) := by decide +kernel
theorem dX6_fewestThatSay_83 : decode cX6_fewestThatSay 83 = .ok (.goto (-72), 3) := by decide +kernel
theorem dX6_fewestThatSay_86 : decode cX6_fewestThatSay 86 = .ok (.iload_n 3, 1) := by decide +kernel
theorem dX6_fewestThatSay_87 : decode cX6_fewestThatSay 87 = .ok (.ireturn, 1) := by decide +kernel
theorem dX6_wordsOf_0 : decode cX6_wordsOf 0 = .ok (.iconst 0, 1) := by decide +kernel
theorem dX6_wordsOf_1 : decode cX6_wordsOf 1 = .ok (.istore_n 2, 1) := by decide +kernel
theorem dX6_wordsOf_2 : decode cX6_wordsOf 2 = .ok (.iconst 0, 1) := by decide +kernel
theorem dX6_wordsOf_3 : decode cX6_wordsOf 3 = .ok (.istore_n 3, 1) := by decide +kernel
theorem dX6_wordsOf_4 : decode cX6_wordsOf 4 = .ok (.iload_n 3, 1) := by decide +kernel
theorem dX6_wordsOf_5 : decode cX6_wordsOf 5 = .ok (.aload_n 0, 1) := by decide +kernel
theorem dX6_wordsOf_6 : decode cX6_wordsOf 6 = .ok (.getfield 21, 3) := by decide +kernel
theorem dX6_wordsOf_9 : decode cX6_wordsOf 9 = .ok (.invokevirtual 34, 3) := by decide +kernel
theorem dX6_wordsOf_12 : decode cX6_wordsOf 12 = .ok (.if_icmp .ge 31, 3) := by decide +kernel
theorem dX6_wordsOf_15 : decode cX6_wordsOf 15 = .ok (.iload_n 1, 1) := by decide +kernel
theorem dX6_wordsOf_16 : decode cX6_wordsOf 16 = .ok (.iload_n 3, 1) := by decide +kernel
theorem dX6_wordsOf_17 : decode cX6_wordsOf 17 = .ok (.ishr, 1) := by decide +kernel
theorem dX6_wordsOf_18 : decode cX6_wordsOf 18 = .ok (.iconst 1, 1) := by decide +kernel
theorem dX6_wordsOf_19 : decode cX6_wordsOf 19 = .ok (.iand, 1) := by decide +kernel
theorem dX6_wordsOf_20 : decode cX6_wordsOf 20 = .ok (.iconst 1, 1) := by decide +kernel
theorem dX6_wordsOf_21 : decode cX6_wordsOf 21 = .ok (.if_icmp .ne 16, 3) := by decide +kernel
theorem dX6_wordsOf_24 : decode cX6_wordsOf 24 = .ok (.iload_n 2, 1) := by decide +kernel
theorem dX6_wordsOf_25 : decode cX6_wordsOf 25 = .ok (.iconst 1, 1) := by decide +kernel
theorem dX6_wordsOf_26 : decode cX6_wordsOf 26 = .ok (.aload_n 0, 1) := by decide +kernel
theorem dX6_wordsOf_27 : decode cX6_wordsOf 27 = .ok (.getfield 21, 3) := by decide +kernel
theorem dX6_wordsOf_30 : decode cX6_wordsOf 30 = .ok (.iload_n 3, 1) := by decide +kernel
theorem dX6_wordsOf_31 : decode cX6_wordsOf 31 = .ok (.invokevirtual 47, 3) := by decide +kernel
theorem dX6_wordsOf_34 : decode cX6_wordsOf 34 = .ok (.ishl, 1) := by decide +kernel
theorem dX6_wordsOf_35 : decode cX6_wordsOf 35 = .ok (.ior, 1) := by decide +kernel
theorem dX6_wordsOf_36 : decode cX6_wordsOf 36 = .ok (.istore_n 2, 1) := by decide +kernel
theorem dX6_wordsOf_37 : decode cX6_wordsOf 37 = .ok (.iinc 3 1, 3) := by decide +kernel
theorem dX6_wordsOf_40 : decode cX6_wordsOf 40 = .ok (.goto (-36), 3) := by decide +kernel
theorem dX6_wordsOf_43 : decode cX6_wordsOf 43 = .ok (.iload_n 2, 1) := by decide +kernel
theorem dX6_wordsOf_44 : decode cX6_wordsOf 44 = .ok (.ireturn, 1) := by decide +kernel
theorem dX6_mostUnlike_0 : decode cX6_mostUnlike 0 = .ok (.aload_n 0, 1) := by decide +kernel
theorem dX6_mostUnlike_1 : decode cX6_mostUnlike 1 = .ok (.iload_n 1, 1) := by decide +kernel
theorem dX6_mostUnlike_2 : decode cX6_mostUnlike 2 = .ok (.invokevirtual 68, 3) := by decide +kernel
theorem dX6_mostUnlike_5 : decode cX6_mostUnlike 5 = .ok (.aload_n 0, 1) := by decide +kernel
theorem dX6_mostUnlike_6 : decode cX6_mostUnlike 6 = .ok (.getfield 72, 3) := by decide +kernel
theorem dX6_mostUnlike_9 : decode cX6_mostUnlike 9 = .ok (.ireturn, 1) := by decide +kernel
theorem dX6_openedInOrder_0 : decode cX6_openedInOrder 0 = .ok (.aload_n 0, 1) := by decide +kernel
theorem dX6_openedInOrder_1 : decode cX6_openedInOrder 1 = .ok (.iload_n 1, 1) := by decide +kernel
theorem dX6_openedInOrder_2 : decode cX6_openedInOrder 2 = .ok (.invokevirtual 68, 3) := by decide +kernel
theorem dX6_openedInOrder_5 : decode cX6_openedInOrder 5 = .ok (.iload_n 2, 1) := by decide +kernel
theorem dX6_openedInOrder_6 : decode cX6_openedInOrder 6 = .ok (.ifCond .lt 20, 3) := by decide +kernel
theorem dX6_openedInOrder_9 : decode cX6_openedInOrder 9 = .ok (.iload_n 2, 1) := by decide +kernel
theorem dX6_openedInOrder_10 : decode cX6_openedInOrder 10 = .ok (.aload_n 0, 1) := by decide +kernel
theorem dX6_openedInOrder_11 : decode cX6_openedInOrder 11 = .ok (.getfield 76, 3) := by decide +kernel
theorem dX6_openedInOrder_14 : decode cX6_openedInOrder 14 = .ok (.if_icmp .ge 12, 3) := by decide +kernel
theorem dX6_openedInOrder_17 : decode cX6_openedInOrder 17 = .ok (.aload_n 0, 1) := by decide +kernel
theorem dX6_openedInOrder_18 : decode cX6_openedInOrder 18 = .ok (.getfield 18, 3) := by decide +kernel
theorem dX6_openedInOrder_21 : decode cX6_openedInOrder 21 = .ok (.iload_n 2, 1) := by decide +kernel
theorem dX6_openedInOrder_22 : decode cX6_openedInOrder 22 = .ok (.iaload, 1) := by decide +kernel
theorem dX6_openedInOrder_23 : decode cX6_openedInOrder 23 = .ok (.goto 5, 3) := by decide +kernel
theorem dX6_openedInOrder_26 : decode cX6_openedInOrder 26 = .ok (.bipush (-2), 2) := by decide +kernel
theorem dX6_openedInOrder_28 : decode cX6_openedInOrder 28 = .ok (.ireturn, 1) := by decide +kernel
theorem dX6_seekBestOrder_0 : decode cX6_seekBestOrder 0 = .ok (.aload_n 0, 1) := by decide +kernel
theorem dX6_seekBestOrder_1 : decode cX6_seekBestOrder 1 = .ok (.iload_n 1, 1) := by decide +kernel
theorem dX6_seekBestOrder_2 : decode cX6_seekBestOrder 2 = .ok (.aload_n 0, 1) := by decide +kernel
theorem dX6_seekBestOrder_3 : decode cX6_seekBestOrder 3 = .ok (.invokevirtual 51, 3) := by decide +kernel
theorem dX6_seekBestOrder_6 : decode cX6_seekBestOrder 6 = .ok (.invokestatic 79, 3) := by decide +kernel
theorem dX6_seekBestOrder_9 : decode cX6_seekBestOrder 9 = .ok (.iconst 4, 1) := by decide +kernel
theorem dX6_seekBestOrder_10 : decode cX6_seekBestOrder 10 = .ok (.invokestatic 79, 3) := by decide +kernel
theorem dX6_seekBestOrder_13 : decode cX6_seekBestOrder 13 = .ok (.putfield 76, 3) := by decide +kernel
theorem dX6_seekBestOrder_16 : decode cX6_seekBestOrder 16 = .ok (.aload_n 0, 1) := by decide +kernel
theorem dX6_seekBestOrder_17 : decode cX6_seekBestOrder 17 = .ok (.iconst (-1), 1) := by decide +kernel
theorem dX6_seekBestOrder_18 : decode cX6_seekBestOrder 18 = .ok (.putfield 72, 3) := by decide +kernel
theorem dX6_seekBestOrder_21 : decode cX6_seekBestOrder 21 = .ok (.iconst 0, 1) := by decide +kernel
theorem dX6_seekBestOrder_22 : decode cX6_seekBestOrder 22 = .ok (.istore_n 2, 1) := by decide +kernel
theorem dX6_seekBestOrder_23 : decode cX6_seekBestOrder 23 = .ok (.iload_n 2, 1) := by decide +kernel
theorem dX6_seekBestOrder_24 : decode cX6_seekBestOrder 24 = .ok (.aload_n 0, 1) := by decide +kernel
theorem dX6_seekBestOrder_25 : decode cX6_seekBestOrder 25 = .ok (.getfield 21, 3) := by decide +kernel
theorem dX6_seekBestOrder_28 : decode cX6_seekBestOrder 28 = .ok (.invokevirtual 34, 3) := by decide +kernel
theorem dX6_seekBestOrder_31 : decode cX6_seekBestOrder 31 = .ok (.if_icmp .ge 14, 3) := by decide +kernel
theorem dX6_seekBestOrder_34 : decode cX6_seekBestOrder 34 = .ok (.aload_n 0, 1) := by decide +kernel
theorem dX6_seekBestOrder_35 : decode cX6_seekBestOrder 35 = .ok (.iload_n 2, 1) := by decide +kernel
theorem dX6_seekBestOrder_36 : decode cX6_seekBestOrder 36 = .ok (.invokevirtual 85, 3) := by decide +kernel
theorem dX6_seekBestOrder_39 : decode cX6_seekBestOrder 39 = .ok (.iinc 2 1, 3) := by decide +kernel
theorem dX6_seekBestOrder_42 : decode cX6_seekBestOrder 42 = .ok (.goto (-19), 3) := by decide +kernel
theorem dX6_seekBestOrder_45 : decode cX6_seekBestOrder 45 = .ok (.aload_n 0, 1) := by decide +kernel
theorem dX6_seekBestOrder_46 : decode cX6_seekBestOrder 46 = .ok (.iconst 0, 1) := by decide +kernel
theorem dX6_seekBestOrder_47 : decode cX6_seekBestOrder 47 = .ok (.aload_n 0, 1) := by decide +kernel
theorem dX6_seekBestOrder_48 : decode cX6_seekBestOrder 48 = .ok (.invokevirtual 57, 3) := by decide +kernel
theorem dX6_seekBestOrder_51 : decode cX6_seekBestOrder 51 = .ok (.iconst 0, 1) := by decide +kernel
theorem dX6_seekBestOrder_52 : decode cX6_seekBestOrder 52 = .ok (.invokevirtual 88, 3) := by decide +kernel
theorem dX6_seekBestOrder_55 : decode cX6_seekBestOrder 55 = .ok (.return_, 1) := by decide +kernel
theorem dX6_foretell_0 : decode cX6_foretell 0 = .ok (.aload_n 0, 1) := by decide +kernel
theorem dX6_foretell_1 : decode cX6_foretell 1 = .ok (.getfield 30, 3) := by decide +kernel
theorem dX6_foretell_4 : decode cX6_foretell 4 = .ok (.iload_n 1, 1) := by decide +kernel
theorem dX6_foretell_5 : decode cX6_foretell 5 = .ok (.invokevirtual 92, 3) := by decide +kernel
theorem dX6_foretell_8 : decode cX6_foretell 8 = .ok (.aload_n 0, 1) := by decide +kernel
theorem dX6_foretell_9 : decode cX6_foretell 9 = .ok (.getfield 21, 3) := by decide +kernel
theorem dX6_foretell_12 : decode cX6_foretell 12 = .ok (.invokevirtual 40, 3) := by decide +kernel
theorem dX6_foretell_15 : decode cX6_foretell 15 = .ok (.istore_n 2, 1) := by decide +kernel
theorem dX6_foretell_16 : decode cX6_foretell 16 = .ok (.iconst 0, 1) := by decide +kernel
theorem dX6_foretell_17 : decode cX6_foretell 17 = .ok (.istore_n 3, 1) := by decide +kernel
theorem dX6_foretell_18 : decode cX6_foretell 18 = .ok (.iload_n 3, 1) := by decide +kernel
theorem dX6_foretell_19 : decode cX6_foretell 19 = .ok (.iconst 4, 1) := by decide +kernel
theorem dX6_foretell_20 : decode cX6_foretell 20 = .ok (.if_icmp .ge 38, 3) := by decide +kernel
theorem dX6_foretell_23 : decode cX6_foretell 23 = .ok (.aload_n 0, 1) := by decide +kernel
theorem dX6_foretell_24 : decode cX6_foretell 24 = .ok (.getfield 9, 3) := by decide +kernel
theorem dX6_foretell_27 : decode cX6_foretell 27 = .ok (.iload_n 3, 1) := by decide +kernel
theorem dX6_foretell_28 : decode cX6_foretell 28 = .ok (.bipush 10, 2) := by decide +kernel
theorem dX6_foretell_30 : decode cX6_foretell 30 = .ok (.imul, 1) := by decide +kernel
theorem dX6_foretell_31 : decode cX6_foretell 31 = .ok (.iload_n 1, 1) := by decide +kernel
theorem dX6_foretell_32 : decode cX6_foretell 32 = .ok (.iadd, 1) := by decide +kernel
theorem dX6_foretell_33 : decode cX6_foretell 33 = .ok (.aload_n 0, 1) := by decide +kernel
theorem dX6_foretell_34 : decode cX6_foretell 34 = .ok (.getfield 30, 3) := by decide +kernel
theorem dX6_foretell_37 : decode cX6_foretell 37 = .ok (.invokevirtual 95, 3) := by decide +kernel
theorem dX6_foretell_40 : decode cX6_foretell 40 = .ok (.iastore, 1) := by decide +kernel
theorem dX6_foretell_41 : decode cX6_foretell 41 = .ok (.iinc 2 1, 3) := by decide +kernel
theorem dX6_foretell_44 : decode cX6_foretell 44 = .ok (.aload_n 0, 1) := by decide +kernel
theorem dX6_foretell_45 : decode cX6_foretell 45 = .ok (.getfield 30, 3) := by decide +kernel
theorem dX6_foretell_48 : decode cX6_foretell 48 = .ok (.iload_n 2, 1) := by decide +kernel
theorem dX6_foretell_49 : decode cX6_foretell 49 = .ok (.invokevirtual 98, 3) := by decide +kernel
theorem dX6_foretell_52 : decode cX6_foretell 52 = .ok (.iinc 3 1, 3) := by decide +kernel
theorem dX6_foretell_55 : decode cX6_foretell 55 = .ok (.goto (-37), 3) := by decide +kernel
theorem dX6_foretell_58 : decode cX6_foretell 58 = .ok (.return_, 1) := by decide +kernel
theorem dX6_tryOrders_0 : decode cX6_tryOrders 0 = .ok (.iload_n 1, 1) := by decide +kernel
theorem dX6_tryOrders_1 : decode cX6_tryOrders 1 = .ok (.aload_n 0, 1) := by decide +kernel
theorem dX6_tryOrders_2 : decode cX6_tryOrders 2 = .ok (.getfield 76, 3) := by decide +kernel
theorem dX6_tryOrders_5 : decode cX6_tryOrders 5 = .ok (.if_icmp .lt 12, 3) := by decide +kernel
theorem dX6_tryOrders_8 : decode cX6_tryOrders 8 = .ok (.aload_n 0, 1) := by decide +kernel
theorem dX6_tryOrders_9 : decode cX6_tryOrders 9 = .ok (.iload_n 3, 1) := by decide +kernel
theorem dX6_tryOrders_10 : decode cX6_tryOrders 10 = .ok (.invokestatic 60, 3) := by decide +kernel
theorem dX6_tryOrders_13 : decode cX6_tryOrders 13 = .ok (.invokevirtual 101, 3) := by decide +kernel
theorem dX6_tryOrders_16 : decode cX6_tryOrders 16 = .ok (.return_, 1) := by decide +kernel
theorem dX6_tryOrders_17 : decode cX6_tryOrders 17 = .ok (.iconst 0, 1) := by decide +kernel
theorem dX6_tryOrders_18 : decode cX6_tryOrders 18 = .ok (.istore 4, 2) := by decide +kernel
theorem dX6_tryOrders_20 : decode cX6_tryOrders 20 = .ok (.iload 4, 2) := by decide +kernel
theorem dX6_tryOrders_22 : decode cX6_tryOrders 22 = .ok (.aload_n 0, 1) := by decide +kernel
theorem dX6_tryOrders_23 : decode cX6_tryOrders 23 = .ok (.getfield 21, 3) := by decide +kernel
theorem dX6_tryOrders_26 : decode cX6_tryOrders 26 = .ok (.invokevirtual 34, 3) := by decide +kernel
theorem dX6_tryOrders_29 : decode cX6_tryOrders 29 = .ok (.if_icmp .ge 58, 3) := by decide +kernel
theorem dX6_tryOrders_32 : decode cX6_tryOrders 32 = .ok (.iload_n 2, 1) := by decide +kernel
theorem dX6_tryOrders_33 : decode cX6_tryOrders 33 = .ok (.iload 4, 2) := by decide +kernel
theorem dX6_tryOrders_35 : decode cX6_tryOrders 35 = .ok (.ishr, 1) := by decide +kernel
theorem dX6_tryOrders_36 : decode cX6_tryOrders 36 = .ok (.iconst 1, 1) := by decide +kernel
theorem dX6_tryOrders_37 : decode cX6_tryOrders 37 = .ok (.iand, 1) := by decide +kernel
theorem dX6_tryOrders_38 : decode cX6_tryOrders 38 = .ok (.iconst 1, 1) := by decide +kernel
theorem dX6_tryOrders_39 : decode cX6_tryOrders 39 = .ok (.if_icmp .ne 42, 3) := by decide +kernel
theorem dX6_tryOrders_42 : decode cX6_tryOrders 42 = .ok (.aload_n 0, 1) := by decide +kernel
theorem dX6_tryOrders_43 : decode cX6_tryOrders 43 = .ok (.getfield 15, 3) := by decide +kernel
theorem dX6_tryOrders_46 : decode cX6_tryOrders 46 = .ok (.iload_n 1, 1) := by decide +kernel
theorem dX6_tryOrders_47 : decode cX6_tryOrders 47 = .ok (.iload 4, 2) := by decide +kernel
theorem dX6_tryOrders_49 : decode cX6_tryOrders 49 = .ok (.iastore, 1) := by decide +kernel
theorem dX6_tryOrders_50 : decode cX6_tryOrders 50 = .ok (.aload_n 0, 1) := by decide +kernel
theorem dX6_tryOrders_51 : decode cX6_tryOrders 51 = .ok (.iload_n 1, 1) := by decide +kernel
theorem dX6_tryOrders_52 : decode cX6_tryOrders 52 = .ok (.iconst 1, 1) := by decide +kernel
theorem dX6_tryOrders_53 : decode cX6_tryOrders 53 = .ok (.iadd, 1) := by decide +kernel
theorem dX6_tryOrders_54 : decode cX6_tryOrders 54 = .ok (.iload_n 2, 1) := by decide +kernel
theorem dX6_tryOrders_55 : decode cX6_tryOrders 55 = .ok (.iconst 1, 1) := by decide +kernel
theorem dX6_tryOrders_56 : decode cX6_tryOrders 56 = .ok (.iload 4, 2) := by decide +kernel
theorem dX6_tryOrders_58 : decode cX6_tryOrders 58 = .ok (.ishl, 1) := by decide +kernel
theorem dX6_tryOrders_59 : decode cX6_tryOrders 59 = .ok (.iconst (-1), 1) := by decide +kernel
theorem dX6_tryOrders_60 : decode cX6_tryOrders 60 = .ok (.ixor, 1) := by decide +kernel
theorem dX6_tryOrders_61 : decode cX6_tryOrders 61 = .ok (.iand, 1) := by decide +kernel
theorem dX6_tryOrders_62 : decode cX6_tryOrders 62 = .ok (.iload_n 3, 1) := by decide +kernel
theorem dX6_tryOrders_63 : decode cX6_tryOrders 63 = .ok (.iconst 1, 1) := by decide +kernel
theorem dX6_tryOrders_64 : decode cX6_tryOrders 64 = .ok (.aload_n 0, 1) := by decide +kernel
theorem dX6_tryOrders_65 : decode cX6_tryOrders 65 = .ok (.getfield 9, 3) := by decide +kernel
theorem dX6_tryOrders_68 : decode cX6_tryOrders 68 = .ok (.iload_n 1, 1) := by decide +kernel
theorem dX6_tryOrders_69 : decode cX6_tryOrders 69 = .ok (.bipush 10, 2) := by decide +kernel
theorem dX6_tryOrders_71 : decode cX6_tryOrders 71 = .ok (.imul, 1) := by decide +kernel
theorem dX6_tryOrders_72 : decode cX6_tryOrders 72 = .ok (.iload 4, 2) := by decide +kernel
theorem dX6_tryOrders_74 : decode cX6_tryOrders 74 = .ok (.iadd, 1) := by decide +kernel
theorem dX6_tryOrders_75 : decode cX6_tryOrders 75 = .ok (.iaload, 1) := by decide +kernel
theorem dX6_tryOrders_76 : decode cX6_tryOrders 76 = .ok (.ishl, 1) := by decide +kernel
theorem dX6_tryOrders_77 : decode cX6_tryOrders 77 = .ok (.ior, 1) := by decide +kernel
theorem dX6_tryOrders_78 : decode cX6_tryOrders 78 = .ok (.invokevirtual 88, 3) := by decide +kernel
theorem dX6_tryOrders_81 : decode cX6_tryOrders 81 = .ok (.iinc 4 1, 3) := by decide +kernel
theorem dX6_tryOrders_84 : decode cX6_tryOrders 84 = .ok (.goto (-64), 3) := by decide +kernel
theorem dX6_tryOrders_87 : decode cX6_tryOrders 87 = .ok (.return_, 1) := by decide +kernel
theorem dX6_keepIfBetter_0 : decode cX6_keepIfBetter 0 = .ok (.iload_n 1, 1) := by decide +kernel
theorem dX6_keepIfBetter_1 : decode cX6_keepIfBetter 1 = .ok (.aload_n 0, 1) := by decide +kernel
theorem dX6_keepIfBetter_2 : decode cX6_keepIfBetter 2 = .ok (.getfield 72, 3) := by decide +kernel
theorem dX6_keepIfBetter_5 : decode cX6_keepIfBetter 5 = .ok (.if_icmp .gt 4, 3) := by decide +kernel
theorem dX6_keepIfBetter_8 : decode cX6_keepIfBetter 8 = .ok (.return_, 1) := by decide +kernel
theorem dX6_keepIfBetter_9 : decode cX6_keepIfBetter 9 = .ok (.aload_n 0, 1) := by decide +kernel
theorem dX6_keepIfBetter_10 : decode cX6_keepIfBetter 10 = .ok (.iload_n 1, 1) := by decide +kernel
theorem dX6_keepIfBetter_11 : decode cX6_keepIfBetter 11 = .ok (.putfield 72, 3) := by decide +kernel
theorem dX6_keepIfBetter_14 : decode cX6_keepIfBetter 14 = .ok (.aload_n 0, 1) := by decide +kernel
theorem dX6_keepIfBetter_15 : decode cX6_keepIfBetter 15 = .ok (.getfield 15, 3) := by decide +kernel
theorem dX6_keepIfBetter_18 : decode cX6_keepIfBetter 18 = .ok (.iconst 0, 1) := by decide +kernel
theorem dX6_keepIfBetter_19 : decode cX6_keepIfBetter 19 = .ok (.aload_n 0, 1) := by decide +kernel
theorem dX6_keepIfBetter_20 : decode cX6_keepIfBetter 20 = .ok (.getfield 18, 3) := by decide +kernel
theorem dX6_keepIfBetter_23 : decode cX6_keepIfBetter 23 = .ok (.iconst 0, 1) := by decide +kernel
theorem dX6_keepIfBetter_24 : decode cX6_keepIfBetter 24 = .ok (.aload_n 0, 1) := by decide +kernel
theorem dX6_keepIfBetter_25 : decode cX6_keepIfBetter 25 = .ok (.getfield 76, 3) := by decide +kernel
theorem dX6_keepIfBetter_28 : decode cX6_keepIfBetter 28 = .ok (.invokestatic 104, 3) := by decide +kernel
theorem dX6_keepIfBetter_31 : decode cX6_keepIfBetter 31 = .ok (.return_, 1) := by decide +kernel
theorem dX6_gainOf_0 : decode cX6_gainOf 0 = .ok (.aload_n 0, 1) := by decide +kernel
theorem dX6_gainOf_1 : decode cX6_gainOf 1 = .ok (.iload_n 1, 1) := by decide +kernel
theorem dX6_gainOf_2 : decode cX6_gainOf 2 = .ok (.aload_n 0, 1) := by decide +kernel
theorem dX6_gainOf_3 : decode cX6_gainOf 3 = .ok (.invokevirtual 57, 3) := by decide +kernel
theorem dX6_gainOf_6 : decode cX6_gainOf 6 = .ok (.invokevirtual 110, 3) := by decide +kernel
theorem dX6_gainOf_9 : decode cX6_gainOf 9 = .ok (.ireturn, 1) := by decide +kernel
theorem dX6_firstChoice_0 : decode cX6_firstChoice 0 = .ok (.aload_n 0, 1) := by decide +kernel
theorem dX6_firstChoice_1 : decode cX6_firstChoice 1 = .ok (.invokevirtual 57, 3) := by decide +kernel
theorem dX6_firstChoice_4 : decode cX6_firstChoice 4 = .ok (.istore_n 2, 1) := by decide +kernel
theorem dX6_firstChoice_5 : decode cX6_firstChoice 5 = .ok (.aload_n 0, 1) := by decide +kernel
theorem dX6_firstChoice_6 : decode cX6_firstChoice 6 = .ok (.iload_n 1, 1) := by decide +kernel
theorem dX6_firstChoice_7 : decode cX6_firstChoice 7 = .ok (.invokevirtual 113, 3) := by decide +kernel
theorem dX6_firstChoice_10 : decode cX6_firstChoice 10 = .ok (.istore_n 3, 1) := by decide +kernel
theorem dX6_firstChoice_11 : decode cX6_firstChoice 11 = .ok (.iconst 0, 1) := by decide +kernel
theorem dX6_firstChoice_12 : decode cX6_firstChoice 12 = .ok (.istore 4, 2) := by decide +kernel
theorem dX6_firstChoice_14 : decode cX6_firstChoice 14 = .ok (.iload 4, 2) := by decide +kernel
theorem dX6_firstChoice_16 : decode cX6_firstChoice 16 = .ok (.aload_n 0, 1) := by decide +kernel
theorem dX6_firstChoice_17 : decode cX6_firstChoice 17 = .ok (.getfield 21, 3) := by decide +kernel
theorem dX6_firstChoice_20 : decode cX6_firstChoice 20 = .ok (.invokevirtual 34, 3) := by decide +kernel
theorem dX6_firstChoice_23 : decode cX6_firstChoice 23 = .ok (.if_icmp .ge 34, 3) := by decide +kernel
theorem dX6_firstChoice_26 : decode cX6_firstChoice 26 = .ok (.iload_n 2, 1) := by decide +kernel
theorem dX6_firstChoice_27 : decode cX6_firstChoice 27 = .ok (.iload 4, 2) := by decide +kernel
theorem dX6_firstChoice_29 : decode cX6_firstChoice 29 = .ok (.ishr, 1) := by decide +kernel
theorem dX6_firstChoice_30 : decode cX6_firstChoice 30 = .ok (.iconst 1, 1) := by decide +kernel
theorem dX6_firstChoice_31 : decode cX6_firstChoice 31 = .ok (.iand, 1) := by decide +kernel
theorem dX6_firstChoice_32 : decode cX6_firstChoice 32 = .ok (.iconst 1, 1) := by decide +kernel
theorem dX6_firstChoice_33 : decode cX6_firstChoice 33 = .ok (.if_icmp .ne 18, 3) := by decide +kernel
theorem dX6_firstChoice_36 : decode cX6_firstChoice 36 = .ok (.aload_n 0, 1) := by decide +kernel
theorem dX6_firstChoice_37 : decode cX6_firstChoice 37 = .ok (.iload 4, 2) := by decide +kernel
theorem dX6_firstChoice_39 : decode cX6_firstChoice 39 = .ok (.iload_n 1, 1) := by decide +kernel
theorem dX6_firstChoice_40 : decode cX6_firstChoice 40 = .ok (.iload_n 2, 1) := by decide +kernel
theorem dX6_firstChoice_41 : decode cX6_firstChoice 41 = .ok (.invokevirtual 116, 3) := by decide +kernel
theorem dX6_firstChoice_44 : decode cX6_firstChoice 44 = .ok (.iload_n 3, 1) := by decide +kernel
theorem dX6_firstChoice_45 : decode cX6_firstChoice 45 = .ok (.if_icmp .ne 6, 3) := by decide +kernel
theorem dX6_firstChoice_48 : decode cX6_firstChoice 48 = .ok (.iload 4, 2) := by decide +kernel
theorem dX6_firstChoice_50 : decode cX6_firstChoice 50 = .ok (.ireturn, 1) := by decide +kernel
theorem dX6_firstChoice_51 : decode cX6_firstChoice 51 = .ok (.iinc 4 1, 3) := by decide +kernel
theorem dX6_firstChoice_54 : decode cX6_firstChoice 54 = .ok (.goto (-40), 3) := by decide +kernel
theorem dX6_firstChoice_57 : decode cX6_firstChoice 57 = .ok (.bipush 10, 2) := by decide +kernel
theorem dX6_firstChoice_59 : decode cX6_firstChoice 59 = .ok (.ireturn, 1) := by decide +kernel
theorem dX6_bestGain_0 : decode cX6_bestGain 0 = .ok (.iload_n 1, 1) := by decide +kernel
theorem dX6_bestGain_1 : decode cX6_bestGain 1 = .ok (.ifCond .le 7, 3) := by decide +kernel
theorem dX6_bestGain_4 : decode cX6_bestGain 4 = .ok (.iload_n 2, 1) := by decide +kernel
theorem dX6_bestGain_5 : decode cX6_bestGain 5 = .ok (.ifCond .ne 5, 3) := by decide +kernel
theorem dX6_bestGain_8 : decode cX6_bestGain 8 = .ok (.iconst 0, 1) := by decide +kernel
theorem dX6_bestGain_9 : decode cX6_bestGain 9 = .ok (.ireturn, 1) := by decide +kernel
theorem dX6_bestGain_10 : decode cX6_bestGain 10 = .ok (.ldc 120, 2) := by decide +kernel
theorem dX6_bestGain_12 : decode cX6_bestGain 12 = .ok (.istore_n 3, 1) := by decide +kernel
theorem dX6_bestGain_13 : decode cX6_bestGain 13 = .ok (.iconst 0, 1) := by decide +kernel
theorem dX6_bestGain_14 : decode cX6_bestGain 14 = .ok (.istore 4, 2) := by decide +kernel
theorem dX6_bestGain_16 : decode cX6_bestGain 16 = .ok (.iload 4, 2) := by decide +kernel
theorem dX6_bestGain_18 : decode cX6_bestGain 18 = .ok (.aload_n 0, 1) := by decide +kernel
theorem dX6_bestGain_19 : decode cX6_bestGain 19 = .ok (.getfield 21, 3) := by decide +kernel
theorem dX6_bestGain_22 : decode cX6_bestGain 22 = .ok (.invokevirtual 34, 3) := by decide +kernel
theorem dX6_bestGain_25 : decode cX6_bestGain 25 = .ok (.if_icmp .ge 32, 3) := by decide +kernel
theorem dX6_bestGain_28 : decode cX6_bestGain 28 = .ok (.iload_n 2, 1) := by decide +kernel
theorem dX6_bestGain_29 : decode cX6_bestGain 29 = .ok (.iload 4, 2) := by decide +kernel
theorem dX6_bestGain_31 : decode cX6_bestGain 31 = .ok (.ishr, 1) := by decide +kernel
theorem dX6_bestGain_32 : decode cX6_bestGain 32 = .ok (.iconst 1, 1) := by decide +kernel
theorem dX6_bestGain_33 : decode cX6_bestGain 33 = .ok (.iand, 1) := by decide +kernel
theorem dX6_bestGain_34 : decode cX6_bestGain 34 = .ok (.iconst 1, 1) := by decide +kernel
theorem dX6_bestGain_35 : decode cX6_bestGain 35 = .ok (.if_icmp .ne 16, 3) := by decide +kernel
theorem dX6_bestGain_38 : decode cX6_bestGain 38 = .ok (.iload_n 3, 1) := by decide +kernel
theorem dX6_bestGain_39 : decode cX6_bestGain 39 = .ok (.aload_n 0, 1) := by decide +kernel
theorem dX6_bestGain_40 : decode cX6_bestGain 40 = .ok (.iload 4, 2) := by decide +kernel
theorem dX6_bestGain_42 : decode cX6_bestGain 42 = .ok (.iload_n 1, 1) := by decide +kernel
theorem dX6_bestGain_43 : decode cX6_bestGain 43 = .ok (.iload_n 2, 1) := by decide +kernel
theorem dX6_bestGain_44 : decode cX6_bestGain 44 = .ok (.invokevirtual 116, 3) := by decide +kernel
theorem dX6_bestGain_47 : decode cX6_bestGain 47 = .ok (.invokestatic 121, 3) := by decide +kernel
theorem dX6_bestGain_50 : decode cX6_bestGain 50 = .ok (.istore_n 3, 1) := by decide +kernel
theorem dX6_bestGain_51 : decode cX6_bestGain 51 = .ok (.iinc 4 1, 3) := by decide +kernel
theorem dX6_bestGain_54 : decode cX6_bestGain 54 = .ok (.goto (-38), 3) := by decide +kernel
theorem dX6_bestGain_57 : decode cX6_bestGain 57 = .ok (.iload_n 3, 1) := by decide +kernel
theorem dX6_bestGain_58 : decode cX6_bestGain 58 = .ok (.ireturn, 1) := by decide +kernel
theorem dX6_gainBy_0 : decode cX6_gainBy 0 = .ok (.aload_n 0, 1) := by decide +kernel
theorem dX6_gainBy_1 : decode cX6_gainBy 1 = .ok (.getfield 21, 3) := by decide +kernel
theorem dX6_gainBy_4 : decode cX6_gainBy 4 = .ok (.iload_n 1, 1) := by decide +kernel
theorem dX6_gainBy_5 : decode cX6_gainBy 5 = .ok (.invokevirtual 47, 3) := by decide +kernel
theorem dX6_gainBy_8 : decode cX6_gainBy 8 = .ok (.aload_n 0, 1) := by decide +kernel
theorem dX6_gainBy_9 : decode cX6_gainBy 9 = .ok (.iload_n 2, 1) := by decide +kernel
theorem dX6_gainBy_10 : decode cX6_gainBy 10 = .ok (.iconst 1, 1) := by decide +kernel
theorem dX6_gainBy_11 : decode cX6_gainBy 11 = .ok (.isub, 1) := by decide +kernel
theorem dX6_gainBy_12 : decode cX6_gainBy 12 = .ok (.iload_n 3, 1) := by decide +kernel
theorem dX6_gainBy_13 : decode cX6_gainBy 13 = .ok (.iconst 1, 1) := by decide +kernel
theorem dX6_gainBy_14 : decode cX6_gainBy 14 = .ok (.iload_n 1, 1) := by decide +kernel
theorem dX6_gainBy_15 : decode cX6_gainBy 15 = .ok (.ishl, 1) := by decide +kernel
theorem dX6_gainBy_16 : decode cX6_gainBy 16 = .ok (.iconst (-1), 1) := by decide +kernel
theorem dX6_gainBy_17 : decode cX6_gainBy 17 = .ok (.ixor, 1) := by decide +kernel
theorem dX6_gainBy_18 : decode cX6_gainBy 18 = .ok (.iand, 1) := by decide +kernel
theorem dX6_gainBy_19 : decode cX6_gainBy 19 = .ok (.invokevirtual 110, 3) := by decide +kernel
theorem dX6_gainBy_22 : decode cX6_gainBy 22 = .ok (.isub, 1) := by decide +kernel
theorem dX6_gainBy_23 : decode cX6_gainBy 23 = .ok (.ireturn, 1) := by decide +kernel
theorem dX7_init_0 : decode cX7_init 0 = .ok (.aload_n 0, 1) := by decide +kernel
theorem dX7_init_1 : decode cX7_init 1 = .ok (.invokespecial 3, 3) := by decide +kernel
theorem dX7_init_4 : decode cX7_init 4 = .ok (.aload_n 0, 1) := by decide +kernel
theorem dX7_init_5 : decode cX7_init 5 = .ok (.bipush 10, 2) := by decide +kernel
theorem dX7_init_7 : decode cX7_init 7 = .ok (.newarray .int, 2) := by decide +kernel
theorem dX7_init_9 : decode cX7_init 9 = .ok (.putfield 9, 3) := by decide +kernel
theorem dX7_init_12 : decode cX7_init 12 = .ok (.aload_n 0, 1) := by decide +kernel
theorem dX7_init_13 : decode cX7_init 13 = .ok (.bipush 10, 2) := by decide +kernel
theorem dX7_init_15 : decode cX7_init 15 = .ok (.newarray .int, 2) := by decide +kernel
theorem dX7_init_17 : decode cX7_init 17 = .ok (.putfield 15, 3) := by decide +kernel
theorem dX7_init_20 : decode cX7_init 20 = .ok (.aload_n 0, 1) := by decide +kernel
theorem dX7_init_21 : decode cX7_init 21 = .ok (.bipush 10, 2) := by decide +kernel
theorem dX7_init_23 : decode cX7_init 23 = .ok (.newarray .int, 2) := by decide +kernel
theorem dX7_init_25 : decode cX7_init 25 = .ok (.putfield 18, 3) := by decide +kernel
theorem dX7_init_28 : decode cX7_init 28 = .ok (.aload_n 0, 1) := by decide +kernel
theorem dX7_init_29 : decode cX7_init 29 = .ok (.bipush 10, 2) := by decide +kernel
theorem dX7_init_31 : decode cX7_init 31 = .ok (.newarray .int, 2) := by decide +kernel
theorem dX7_init_33 : decode cX7_init 33 = .ok (.putfield 21, 3) := by decide +kernel
theorem dX7_init_36 : decode cX7_init 36 = .ok (.aload_n 0, 1) := by decide +kernel
theorem dX7_init_37 : decode cX7_init 37 = .ok (.bipush 10, 2) := by decide +kernel
theorem dX7_init_39 : decode cX7_init 39 = .ok (.newarray .int, 2) := by decide +kernel
theorem dX7_init_41 : decode cX7_init 41 = .ok (.putfield 24, 3) := by decide +kernel
theorem dX7_init_44 : decode cX7_init 44 = .ok (.aload_n 0, 1) := by decide +kernel
theorem dX7_init_45 : decode cX7_init 45 = .ok (.bipush 16, 2) := by decide +kernel
theorem dX7_init_47 : decode cX7_init 47 = .ok (.newarray .int, 2) := by decide +kernel
theorem dX7_init_49 : decode cX7_init 49 = .ok (.putfield 27, 3) := by decide +kernel
theorem dX7_init_52 : decode cX7_init 52 = .ok (.aload_n 0, 1) := by decide +kernel
theorem dX7_init_53 : decode cX7_init 53 = .ok (.bipush 16, 2) := by decide +kernel
theorem dX7_init_55 : decode cX7_init 55 = .ok (.newarray .int, 2) := by decide +kernel
theorem dX7_init_57 : decode cX7_init 57 = .ok (.putfield 30, 3) := by decide +kernel
theorem dX7_init_60 : decode cX7_init 60 = .ok (.aload_n 0, 1) := by decide +kernel
theorem dX7_init_61 : decode cX7_init 61 = .ok (.iconst 1, 1) := by decide +kernel
theorem dX7_init_62 : decode cX7_init 62 = .ok (.newarray .int, 2) := by decide +kernel
theorem dX7_init_64 : decode cX7_init 64 = .ok (.putfield 33, 3) := by decide +kernel
theorem dX7_init_67 : decode cX7_init 67 = .ok (.iconst 0, 1) := by decide +kernel
theorem dX7_init_68 : decode cX7_init 68 = .ok (.istore_n 1, 1) := by decide +kernel
theorem dX7_init_69 : decode cX7_init 69 = .ok (.iload_n 1, 1) := by decide +kernel
theorem dX7_init_70 : decode cX7_init 70 = .ok (.bipush 16, 2) := by decide +kernel
theorem dX7_init_72 : decode cX7_init 72 = .ok (.if_icmp .ge 33, 3) := by decide +kernel
theorem dX7_init_75 : decode cX7_init 75 = .ok (.aload_n 0, 1) := by decide +kernel
theorem dX7_init_76 : decode cX7_init 76 = .ok (.getfield 27, 3) := by decide +kernel
theorem dX7_init_79 : decode cX7_init 79 = .ok (.iload_n 1, 1) := by decide +kernel
theorem dX7_init_80 : decode cX7_init 80 = .ok (.iload_n 1, 1) := by decide +kernel
theorem dX7_init_81 : decode cX7_init 81 = .ok (.iconst 1, 1) := by decide +kernel
theorem dX7_init_82 : decode cX7_init 82 = .ok (.iadd, 1) := by decide +kernel
theorem dX7_init_83 : decode cX7_init 83 = .ok (.bipush 15, 2) := by decide +kernel
theorem dX7_init_85 : decode cX7_init 85 = .ok (.invokestatic 36, 3) := by decide +kernel
theorem dX7_init_88 : decode cX7_init 88 = .ok (.iastore, 1) := by decide +kernel
theorem dX7_init_89 : decode cX7_init 89 = .ok (.aload_n 0, 1) := by decide +kernel
theorem dX7_init_90 : decode cX7_init 90 = .ok (.getfield 30, 3) := by decide +kernel
theorem dX7_init_93 : decode cX7_init 93 = .ok (.iload_n 1, 1) := by decide +kernel
theorem dX7_init_94 : decode cX7_init 94 = .ok (.iload_n 1, 1) := by decide +kernel
theorem dX7_init_95 : decode cX7_init 95 = .ok (.bipush 10, 2) := by decide +kernel
theorem dX7_init_97 : decode cX7_init 97 = .ok (.irem, 1) := by decide +kernel
theorem dX7_init_98 : decode cX7_init 98 = .ok (.iastore, 1) := by decide +kernel
theorem dX7_init_99 : decode cX7_init 99 = .ok (.iinc 1 1, 3) := by decide +kernel
theorem dX7_init_102 : decode cX7_init 102 = .ok (.goto (-33), 3) := by decide +kernel
theorem dX7_init_105 : decode cX7_init 105 = .ok (.return_, 1) := by decide +kernel
theorem dX7_size_0 : decode cX7_size 0 = .ok (.aload_n 0, 1) := by decide +kernel
theorem dX7_size_1 : decode cX7_size 1 = .ok (.getfield 42, 3) := by decide +kernel
theorem dX7_size_4 : decode cX7_size 4 = .ok (.ireturn, 1) := by decide +kernel
theorem dX7_isFull_0 : decode cX7_isFull 0 = .ok (.aload_n 0, 1) := by decide +kernel
theorem dX7_isFull_1 : decode cX7_isFull 1 = .ok (.getfield 42, 3) := by decide +kernel
theorem dX7_isFull_4 : decode cX7_isFull 4 = .ok (.bipush 10, 2) := by decide +kernel
theorem dX7_isFull_6 : decode cX7_isFull 6 = .ok (.if_icmp .lt 7, 3) := by decide +kernel
theorem dX7_isFull_9 : decode cX7_isFull 9 = .ok (.iconst 1, 1) := by decide +kernel
theorem dX7_isFull_10 : decode cX7_isFull 10 = .ok (.goto 4, 3) := by decide +kernel
theorem dX7_isFull_13 : decode cX7_isFull 13 = .ok (.iconst 0, 1) := by decide +kernel
theorem dX7_isFull_14 : decode cX7_isFull 14 = .ok (.ireturn, 1) := by decide +kernel
theorem dX7_add_0 : decode cX7_add 0 = .ok (.aload_n 0, 1) := by decide +kernel
theorem dX7_add_1 : decode cX7_add 1 = .ok (.invokevirtual 46, 3) := by decide +kernel
theorem dX7_add_4 : decode cX7_add 4 = .ok (.ifCond .eq 6, 3) := by decide +kernel
theorem dX7_add_7 : decode cX7_add 7 = .ok (.bipush (-3), 2) := by decide +kernel
theorem dX7_add_9 : decode cX7_add 9 = .ok (.ireturn, 1) := by decide +kernel
theorem dX7_add_10 : decode cX7_add 10 = .ok (.aload_n 0, 1) := by decide +kernel
theorem dX7_add_11 : decode cX7_add 11 = .ok (.getfield 9, 3) := by decide +kernel
theorem dX7_add_14 : decode cX7_add 14 = .ok (.aload_n 0, 1) := by decide +kernel
theorem dX7_add_15 : decode cX7_add 15 = .ok (.getfield 42, 3) := by decide +kernel
theorem dX7_add_18 : decode cX7_add 18 = .ok (.iload_n 1, 1) := by decide +kernel
theorem dX7_add_19 : decode cX7_add 19 = .ok (.iastore, 1) := by decide +kernel
theorem dX7_add_20 : decode cX7_add 20 = .ok (.aload_n 0, 1) := by decide +kernel
theorem dX7_add_21 : decode cX7_add 21 = .ok (.getfield 15, 3) := by decide +kernel
theorem dX7_add_24 : decode cX7_add 24 = .ok (.aload_n 0, 1) := by decide +kernel
theorem dX7_add_25 : decode cX7_add 25 = .ok (.getfield 42, 3) := by decide +kernel
theorem dX7_add_28 : decode cX7_add 28 = .ok (.iload_n 2, 1) := by decide +kernel
theorem dX7_add_29 : decode cX7_add 29 = .ok (.iastore, 1) := by decide +kernel
theorem dX7_add_30 : decode cX7_add 30 = .ok (.aload_n 0, 1) := by decide +kernel
theorem dX7_add_31 : decode cX7_add 31 = .ok (.getfield 18, 3) := by decide +kernel
theorem dX7_add_34 : decode cX7_add 34 = .ok (.aload_n 0, 1) := by decide +kernel
theorem dX7_add_35 : decode cX7_add 35 = .ok (.getfield 42, 3) := by decide +kernel
theorem dX7_add_38 : decode cX7_add 38 = .ok (.iload_n 3, 1) := by decide +kernel
theorem dX7_add_39 : decode cX7_add 39 = .ok (.iastore, 1) := by decide +kernel
theorem dX7_add_40 : decode cX7_add 40 = .ok (.aload_n 0, 1) := by decide +kernel
theorem dX7_add_41 : decode cX7_add 41 = .ok (.dup, 1) := by decide +kernel
theorem dX7_add_42 : decode cX7_add 42 = .ok (.getfield 42, 3) := by decide +kernel
theorem dX7_add_45 : decode cX7_add 45 = .ok (.iconst 1, 1) := by decide +kernel
theorem dX7_add_46 : decode cX7_add 46 = .ok (.iadd, 1) := by decide +kernel
theorem dX7_add_47 : decode cX7_add 47 = .ok (.putfield 42, 3) := by decide +kernel
theorem dX7_add_50 : decode cX7_add 50 = .ok (.aload_n 0, 1) := by decide +kernel
theorem dX7_add_51 : decode cX7_add 51 = .ok (.getfield 42, 3) := by decide +kernel
theorem dX7_add_54 : decode cX7_add 54 = .ok (.iconst 1, 1) := by decide +kernel
theorem dX7_add_55 : decode cX7_add 55 = .ok (.isub, 1) := by decide +kernel
theorem dX7_add_56 : decode cX7_add 56 = .ok (.ireturn, 1) := by decide +kernel
theorem dX7_hasBlock_0 : decode cX7_hasBlock 0 = .ok (.iload_n 1, 1) := by decide +kernel
theorem dX7_hasBlock_1 : decode cX7_hasBlock 1 = .ok (.iconst 0, 1) := by decide +kernel
theorem dX7_hasBlock_2 : decode cX7_hasBlock 2 = .ok (.aload_n 0, 1) := by decide +kernel
theorem dX7_hasBlock_3 : decode cX7_hasBlock 3 = .ok (.getfield 42, 3) := by decide +kernel
theorem dX7_hasBlock_6 : decode cX7_hasBlock 6 = .ok (.iconst 1, 1) := by decide +kernel
theorem dX7_hasBlock_7 : decode cX7_hasBlock 7 = .ok (.isub, 1) := by decide +kernel
theorem dX7_hasBlock_8 : decode cX7_hasBlock 8 = .ok (.invokestatic 50, 3) := by decide +kernel
theorem dX7_hasBlock_11 : decode cX7_hasBlock 11 = .ok (.ireturn, 1) := by decide +kernel
theorem dX7_has_0 : decode cX7_has 0 = .ok (.iload_n 2, 1) := by decide +kernel
theorem dX7_has_1 : decode cX7_has 1 = .ok (.ifCond .lt 13, 3) := by decide +kernel
theorem dX7_has_4 : decode cX7_has 4 = .ok (.iload_n 2, 1) := by decide +kernel
theorem dX7_has_5 : decode cX7_has 5 = .ok (.bipush 7, 2) := by decide +kernel
theorem dX7_has_7 : decode cX7_has 7 = .ok (.if_icmp .gt 7, 3) := by decide +kernel
theorem dX7_has_10 : decode cX7_has 10 = .ok (.iload_n 1, 1) := by decide +kernel
theorem dX7_has_11 : decode cX7_has 11 = .ok (.ifCond .ge 5, 3) := by decide +kernel
theorem dX7_has_14 : decode cX7_has 14 = .ok (.iconst 0, 1) := by decide +kernel
theorem dX7_has_15 : decode cX7_has 15 = .ok (.ireturn, 1) := by decide +kernel
theorem dX7_has_16 : decode cX7_has 16 = .ok (.iload_n 2, 1) := by decide +kernel
theorem dX7_has_17 : decode cX7_has 17 = .ok (.iconst 4, 1) := by decide +kernel
theorem dX7_has_18 : decode cX7_has 18 = .ok (.if_icmp .gt 17, 3) := by decide +kernel
theorem dX7_has_21 : decode cX7_has 21 = .ok (.iload_n 1, 1) := by decide +kernel
theorem dX7_has_22 : decode cX7_has 22 = .ok (.aload_n 0, 1) := by decide +kernel
theorem dX7_has_23 : decode cX7_has 23 = .ok (.getfield 42, 3) := by decide +kernel
theorem dX7_has_26 : decode cX7_has 26 = .ok (.if_icmp .ge 7, 3) := by decide +kernel
theorem dX7_has_29 : decode cX7_has 29 = .ok (.iconst 1, 1) := by decide +kernel
theorem dX7_has_30 : decode cX7_has 30 = .ok (.goto 4, 3) := by decide +kernel
theorem dX7_has_33 : decode cX7_has 33 = .ok (.iconst 0, 1) := by decide +kernel
theorem dX7_has_34 : decode cX7_has 34 = .ok (.ireturn, 1) := by decide +kernel
theorem dX7_has_35 : decode cX7_has 35 = .ok (.iload_n 2, 1) := by decide +kernel
theorem dX7_has_36 : decode cX7_has 36 = .ok (.bipush 7, 2) := by decide +kernel
theorem dX7_has_38 : decode cX7_has 38 = .ok (.if_icmp .ne 15, 3) := by decide +kernel
theorem dX7_has_41 : decode cX7_has 41 = .ok (.iload_n 1, 1) := by decide +kernel
theorem dX7_has_42 : decode cX7_has 42 = .ok (.ifCond .ne 7, 3) := by decide +kernel
theorem dX7_has_45 : decode cX7_has 45 = .ok (.iconst 1, 1) := by decide +kernel
theorem dX7_has_46 : decode cX7_has 46 = .ok (.goto 18, 3) := by decide +kernel
theorem dX7_has_49 : decode cX7_has 49 = .ok (.iconst 0, 1) := by decide +kernel
theorem dX7_has_50 : decode cX7_has 50 = .ok (.goto 14, 3) := by decide +kernel
theorem dX7_has_53 : decode cX7_has 53 = .ok (.iload_n 1, 1) := by decide +kernel
theorem dX7_has_54 : decode cX7_has 54 = .ok (.bipush 16, 2) := by decide +kernel
theorem dX7_has_56 : decode cX7_has 56 = .ok (.if_icmp .ge 7, 3) := by decide +kernel
theorem dX7_has_59 : decode cX7_has 59 = .ok (.iconst 1, 1) := by decide +kernel
theorem dX7_has_60 : decode cX7_has 60 = .ok (.goto 4, 3) := by decide +kernel
theorem dX7_has_63 : decode cX7_has 63 = .ok (.iconst 0, 1) := by decide +kernel
theorem dX7_has_64 : decode cX7_has 64 = .ok (.ireturn, 1) := by decide +kernel
theorem dX7_isSo_0 : decode cX7_isSo 0 = .ok (.iload_n 0, 1) := by decide +kernel
theorem dX7_isSo_1 : decode cX7_isSo 1 = .ok (.iconst 0, 1) := by decide +kernel
theorem dX7_isSo_2 : decode cX7_isSo 2 = .ok (.bipush 7, 2) := by decide +kernel
theorem dX7_isSo_4 : decode cX7_isSo 4 = .ok (.invokestatic 50, 3) := by decide +kernel
theorem dX7_isSo_7 : decode cX7_isSo 7 = .ok (.ifCond .eq 20, 3) := by decide +kernel
theorem dX7_isSo_10 : decode cX7_isSo 10 = .ok (.iload_n 1, 1) := by decide +kernel
theorem dX7_isSo_11 : decode cX7_isSo 11 = .ok (.iconst 0, 1) := by decide +kernel
theorem dX7_isSo_12 : decode cX7_isSo 12 = .ok (.getstatic 54, 3) := by decide +kernel
theorem dX7_isSo_15 : decode cX7_isSo 15 = .ok (.iload_n 0, 1) := by decide +kernel
theorem dX7_isSo_16 : decode cX7_isSo 16 = .ok (.iaload, 1) := by decide +kernel
theorem dX7_isSo_17 : decode cX7_isSo 17 = .ok (.invokestatic 50, 3) := by decide +kernel
theorem dX7_isSo_20 : decode cX7_isSo 20 = .ok (.ifCond .eq 7, 3) := by decide +kernel
theorem dX7_isSo_23 : decode cX7_isSo 23 = .ok (.iconst 1, 1) := by decide +kernel
theorem dX7_isSo_24 : decode cX7_isSo 24 = .ok (.goto 4, 3) := by decide +kernel
theorem dX7_isSo_27 : decode cX7_isSo 27 = .ok (.iconst 0, 1) := by decide +kernel
theorem dX7_isSo_28 : decode cX7_isSo 28 = .ok (.ireturn, 1) := by decide +kernel
theorem dX7_told_0 : decode cX7_told 0 = .ok (.aload_n 0, 1) := by decide +kernel
theorem dX7_told_1 : decode cX7_told 1 = .ok (.iload_n 1, 1) := by decide +kernel
theorem dX7_told_2 : decode cX7_told 2 = .ok (.iload_n 2, 1) := by decide +kernel
theorem dX7_told_3 : decode cX7_told 3 = .ok (.invokevirtual 57, 3) := by decide +kernel
theorem dX7_told_6 : decode cX7_told 6 = .ok (.ifCond .eq 13, 3) := by decide +kernel
theorem dX7_told_9 : decode cX7_told 9 = .ok (.aload_n 0, 1) := by decide +kernel
theorem dX7_told_10 : decode cX7_told 10 = .ok (.iload_n 2, 1) := by decide +kernel
theorem dX7_told_11 : decode cX7_told 11 = .ok (.invokevirtual 61, 3) := by decide +kernel
theorem dX7_told_14 : decode cX7_told 14 = .ok (.iload_n 1, 1) := by decide +kernel
theorem dX7_told_15 : decode cX7_told 15 = .ok (.iaload, 1) := by decide +kernel
theorem dX7_told_16 : decode cX7_told 16 = .ok (.goto 4, 3) := by decide +kernel
theorem dX7_told_19 : decode cX7_told 19 = .ok (.iconst (-1), 1) := by decide +kernel
theorem dX7_told_20 : decode cX7_told 20 = .ok (.ireturn, 1) := by decide +kernel
theorem dX7_become_0 : decode cX7_become 0 = .ok (.aload_n 0, 1) := by decide +kernel
theorem dX7_become_1 : decode cX7_become 1 = .ok (.iload_n 1, 1) := by decide +kernel
theorem dX7_become_2 : decode cX7_become 2 = .ok (.iload_n 2, 1) := by decide +kernel
theorem dX7_become_3 : decode cX7_become 3 = .ok (.invokevirtual 57, 3) := by decide +kernel
theorem dX7_become_6 : decode cX7_become 6 = .ok (.ifCond .eq 19, 3) := by decide +kernel
theorem dX7_become_9 : decode cX7_become 9 = .ok (.iload_n 2, 1) := by decide +kernel
theorem dX7_become_10 : decode cX7_become 10 = .ok (.iload_n 3, 1) := by decide +kernel
theorem dX7_become_11 : decode cX7_become 11 = .ok (.invokestatic 65, 3) := by decide +kernel
theorem dX7_become_14 : decode cX7_become 14 = .ok (.ifCond .eq 11, 3) := by decide +kernel
theorem dX7_become_17 : decode cX7_become 17 = .ok (.aload_n 0, 1) := by decide +kernel
theorem dX7_become_18 : decode cX7_become 18 = .ok (.iload_n 2, 1) := by decide +kernel
theorem dX7_become_19 : decode cX7_become 19 = .ok (.invokevirtual 61, 3) := by decide +kernel
theorem dX7_become_22 : decode cX7_become 22 = .ok (.iload_n 1, 1) := by decide +kernel
theorem dX7_become_23 : decode cX7_become 23 = .ok (.iload_n 3, 1) := by decide +kernel
theorem dX7_become_24 : decode cX7_become 24 = .ok (.iastore, 1) := by decide +kernel
theorem dX7_become_25 : decode cX7_become 25 = .ok (.return_, 1) := by decide +kernel
theorem dX7_numbers_0 : decode cX7_numbers 0 = .ok (.iload_n 1, 1) := by decide +kernel
theorem dX7_numbers_1 : decode cX7_numbers 1 = .ok (.tableswitch 78 0 6 #[43, 48, 53, 58, 63, 68, 73], 43) := by decide +kernel
theorem dX7_numbers_44 : decode cX7_numbers 44 = .ok (.aload_n 0, 1) := by decide +kernel
theorem dX7_numbers_45 : decode cX7_numbers 45 = .ok (.getfield 9, 3) := by decide +kernel
theorem dX7_numbers_48 : decode cX7_numbers 48 = .ok (.areturn, 1) := by decide +kernel
theorem dX7_numbers_49 : decode cX7_numbers 49 = .ok (.aload_n 0, 1) := by decide +kernel
theorem dX7_numbers_50 : decode cX7_numbers 50 = .ok (.getfield 15, 3) := by decide +kernel
theorem dX7_numbers_53 : decode cX7_numbers 53 = .ok (.areturn, 1) := by decide +kernel
theorem dX7_numbers_54 : decode cX7_numbers 54 = .ok (.aload_n 0, 1) := by decide +kernel
theorem dX7_numbers_55 : decode cX7_numbers 55 = .ok (.getfield 18, 3) := by decide +kernel
theorem dX7_numbers_58 : decode cX7_numbers 58 = .ok (.areturn, 1) := by decide +kernel
theorem dX7_numbers_59 : decode cX7_numbers 59 = .ok (.aload_n 0, 1) := by decide +kernel
theorem dX7_numbers_60 : decode cX7_numbers 60 = .ok (.getfield 21, 3) := by decide +kernel
theorem dX7_numbers_63 : decode cX7_numbers 63 = .ok (.areturn, 1) := by decide +kernel
theorem dX7_numbers_64 : decode cX7_numbers 64 = .ok (.aload_n 0, 1) := by decide +kernel
theorem dX7_numbers_65 : decode cX7_numbers 65 = .ok (.getfield 24, 3) := by decide +kernel
theorem dX7_numbers_68 : decode cX7_numbers 68 = .ok (.areturn, 1) := by decide +kernel
theorem dX7_numbers_69 : decode cX7_numbers 69 = .ok (.aload_n 0, 1) := by decide +kernel
theorem dX7_numbers_70 : decode cX7_numbers 70 = .ok (.getfield 27, 3) := by decide +kernel
theorem dX7_numbers_73 : decode cX7_numbers 73 = .ok (.areturn, 1) := by decide +kernel
theorem dX7_numbers_74 : decode cX7_numbers 74 = .ok (.aload_n 0, 1) := by decide +kernel
theorem dX7_numbers_75 : decode cX7_numbers 75 = .ok (.getfield 30, 3) := by decide +kernel
theorem dX7_numbers_78 : decode cX7_numbers 78 = .ok (.areturn, 1) := by decide +kernel
theorem dX7_numbers_79 : decode cX7_numbers 79 = .ok (.aload_n 0, 1) := by decide +kernel
theorem dX7_numbers_80 : decode cX7_numbers 80 = .ok (.getfield 33, 3) := by decide +kernel
theorem dX7_numbers_83 : decode cX7_numbers 83 = .ok (.areturn, 1) := by decide +kernel
theorem dX7_centuryNow_0 : decode cX7_centuryNow 0 = .ok (.aload_n 0, 1) := by decide +kernel
theorem dX7_centuryNow_1 : decode cX7_centuryNow 1 = .ok (.getfield 33, 3) := by decide +kernel
theorem dX7_centuryNow_4 : decode cX7_centuryNow 4 = .ok (.iconst 0, 1) := by decide +kernel
theorem dX7_centuryNow_5 : decode cX7_centuryNow 5 = .ok (.iaload, 1) := by decide +kernel
theorem dX7_centuryNow_6 : decode cX7_centuryNow 6 = .ok (.ireturn, 1) := by decide +kernel
theorem dX7_isOpen_0 : decode cX7_isOpen 0 = .ok (.aload_n 0, 1) := by decide +kernel
theorem dX7_isOpen_1 : decode cX7_isOpen 1 = .ok (.iload_n 1, 1) := by decide +kernel
theorem dX7_isOpen_2 : decode cX7_isOpen 2 = .ok (.invokevirtual 68, 3) := by decide +kernel
theorem dX7_isOpen_5 : decode cX7_isOpen 5 = .ok (.ifCond .eq 17, 3) := by decide +kernel
theorem dX7_isOpen_8 : decode cX7_isOpen 8 = .ok (.aload_n 0, 1) := by decide +kernel
theorem dX7_isOpen_9 : decode cX7_isOpen 9 = .ok (.getfield 21, 3) := by decide +kernel
theorem dX7_isOpen_12 : decode cX7_isOpen 12 = .ok (.iload_n 1, 1) := by decide +kernel
theorem dX7_isOpen_13 : decode cX7_isOpen 13 = .ok (.iaload, 1) := by decide +kernel
theorem dX7_isOpen_14 : decode cX7_isOpen 14 = .ok (.iconst 1, 1) := by decide +kernel
theorem dX7_isOpen_15 : decode cX7_isOpen 15 = .ok (.if_icmp .ne 7, 3) := by decide +kernel
theorem dX7_isOpen_18 : decode cX7_isOpen 18 = .ok (.iconst 1, 1) := by decide +kernel
theorem dX7_isOpen_19 : decode cX7_isOpen 19 = .ok (.goto 4, 3) := by decide +kernel
theorem dX7_isOpen_22 : decode cX7_isOpen 22 = .ok (.iconst 0, 1) := by decide +kernel
theorem dX7_isOpen_23 : decode cX7_isOpen 23 = .ok (.ireturn, 1) := by decide +kernel
theorem dX7_openOnes_0 : decode cX7_openOnes 0 = .ok (.iconst 0, 1) := by decide +kernel
theorem dX7_openOnes_1 : decode cX7_openOnes 1 = .ok (.istore_n 1, 1) := by decide +kernel
theorem dX7_openOnes_2 : decode cX7_openOnes 2 = .ok (.iconst 0, 1) := by decide +kernel
theorem dX7_openOnes_3 : decode cX7_openOnes 3 = .ok (.istore_n 2, 1) := by decide +kernel
theorem dX7_openOnes_4 : decode cX7_openOnes 4 = .ok (.iload_n 2, 1) := by decide +kernel
theorem dX7_openOnes_5 : decode cX7_openOnes 5 = .ok (.aload_n 0, 1) := by decide +kernel
theorem dX7_openOnes_6 : decode cX7_openOnes 6 = .ok (.getfield 42, 3) := by decide +kernel
theorem dX7_openOnes_9 : decode cX7_openOnes 9 = .ok (.if_icmp .ge 18, 3) := by decide +kernel
theorem dX7_openOnes_12 : decode cX7_openOnes 12 = .ok (.iload_n 1, 1) := by decide +kernel
theorem dX7_openOnes_13 : decode cX7_openOnes 13 = .ok (.aload_n 0, 1) := by decide +kernel
theorem dX7_openOnes_14 : decode cX7_openOnes 14 = .ok (.getfield 21, 3) := by decide +kernel
theorem dX7_openOnes_17 : decode cX7_openOnes 17 = .ok (.iload_n 2, 1) := by decide +kernel
theorem dX7_openOnes_18 : decode cX7_openOnes 18 = .ok (.iaload, 1) := by decide +kernel
theorem dX7_openOnes_19 : decode cX7_openOnes 19 = .ok (.iadd, 1) := by decide +kernel
theorem dX7_openOnes_20 : decode cX7_openOnes 20 = .ok (.istore_n 1, 1) := by decide +kernel
theorem dX7_openOnes_21 : decode cX7_openOnes 21 = .ok (.iinc 2 1, 3) := by decide +kernel
theorem dX7_openOnes_24 : decode cX7_openOnes 24 = .ok (.goto (-20), 3) := by decide +kernel
theorem dX7_openOnes_27 : decode cX7_openOnes 27 = .ok (.iload_n 1, 1) := by decide +kernel
theorem dX7_openOnes_28 : decode cX7_openOnes 28 = .ok (.ireturn, 1) := by decide +kernel
theorem dX7_wordAt_0 : decode cX7_wordAt 0 = .ok (.aload_n 0, 1) := by decide +kernel
theorem dX7_wordAt_1 : decode cX7_wordAt 1 = .ok (.getfield 30, 3) := by decide +kernel
theorem dX7_wordAt_4 : decode cX7_wordAt 4 = .ok (.iload_n 1, 1) := by decide +kernel
theorem dX7_wordAt_5 : decode cX7_wordAt 5 = .ok (.bipush 15, 2) := by decide +kernel
theorem dX7_wordAt_7 : decode cX7_wordAt 7 = .ok (.iand, 1) := by decide +kernel
theorem dX7_wordAt_8 : decode cX7_wordAt 8 = .ok (.iaload, 1) := by decide +kernel
theorem dX7_wordAt_9 : decode cX7_wordAt 9 = .ok (.ireturn, 1) := by decide +kernel
theorem dX7_leadsFrom_0 : decode cX7_leadsFrom 0 = .ok (.aload_n 0, 1) := by decide +kernel
theorem dX7_leadsFrom_1 : decode cX7_leadsFrom 1 = .ok (.getfield 27, 3) := by decide +kernel
theorem dX7_leadsFrom_4 : decode cX7_leadsFrom 4 = .ok (.iload_n 1, 1) := by decide +kernel
theorem dX7_leadsFrom_5 : decode cX7_leadsFrom 5 = .ok (.bipush 15, 2) := by decide +kernel
theorem dX7_leadsFrom_7 : decode cX7_leadsFrom 7 = .ok (.iand, 1) := by decide +kernel
theorem dX7_leadsFrom_8 : decode cX7_leadsFrom 8 = .ok (.iaload, 1) := by decide +kernel
theorem dX7_leadsFrom_9 : decode cX7_leadsFrom 9 = .ok (.ireturn, 1) := by decide +kernel
theorem dX7_wordsAt_0 : decode cX7_wordsAt 0 = .ok (.iconst 0, 1) := by decide +kernel
theorem dX7_wordsAt_1 : decode cX7_wordsAt 1 = .ok (.istore_n 2, 1) := by decide +kernel
theorem dX7_wordsAt_2 : decode cX7_wordsAt 2 = .ok (.iconst 0, 1) := by decide +kernel
theorem dX7_wordsAt_3 : decode cX7_wordsAt 3 = .ok (.istore_n 3, 1) := by decide +kernel
theorem dX7_wordsAt_4 : decode cX7_wordsAt 4 = .ok (.iload_n 3, 1) := by decide +kernel
theorem dX7_wordsAt_5 : decode cX7_wordsAt 5 = .ok (.bipush 16, 2) := by decide +kernel
theorem dX7_wordsAt_7 : decode cX7_wordsAt 7 = .ok (.if_icmp .ge 29, 3) := by decide +kernel
theorem dX7_wordsAt_10 : decode cX7_wordsAt 10 = .ok (.iload_n 1, 1) := by decide +kernel
theorem dX7_wordsAt_11 : decode cX7_wordsAt 11 = .ok (.iload_n 3, 1) := by decide +kernel
theorem dX7_wordsAt_12 : decode cX7_wordsAt 12 = .ok (.ishr, 1) := by decide +kernel
theorem dX7_wordsAt_13 : decode cX7_wordsAt 13 = .ok (.iconst 1, 1) := by decide +kernel
theorem dX7_wordsAt_14 : decode cX7_wordsAt 14 = .ok (.iand, 1) := by decide +kernel
theorem dX7_wordsAt_15 : decode cX7_wordsAt 15 = .ok (.iconst 1, 1) := by decide +kernel
theorem dX7_wordsAt_16 : decode cX7_wordsAt 16 = .ok (.if_icmp .ne 14, 3) := by decide +kernel
theorem dX7_wordsAt_19 : decode cX7_wordsAt 19 = .ok (.iload_n 2, 1) := by decide +kernel
theorem dX7_wordsAt_20 : decode cX7_wordsAt 20 = .ok (.iconst 1, 1) := by decide +kernel
theorem dX7_wordsAt_21 : decode cX7_wordsAt 21 = .ok (.aload_n 0, 1) := by decide +kernel
theorem dX7_wordsAt_22 : decode cX7_wordsAt 22 = .ok (.getfield 30, 3) := by decide +kernel
theorem dX7_wordsAt_25 : decode cX7_wordsAt 25 = .ok (.iload_n 3, 1) := by decide +kernel
theorem dX7_wordsAt_26 : decode cX7_wordsAt 26 = .ok (.iaload, 1) := by decide +kernel
theorem dX7_wordsAt_27 : decode cX7_wordsAt 27 = .ok (.ishl, 1) := by decide +kernel
theorem dX7_wordsAt_28 : decode cX7_wordsAt 28 = .ok (.ior, 1) := by decide +kernel
theorem dX7_wordsAt_29 : decode cX7_wordsAt 29 = .ok (.istore_n 2, 1) := by decide +kernel
theorem dX7_wordsAt_30 : decode cX7_wordsAt 30 = .ok (.iinc 3 1, 3) := by decide +kernel
theorem dX7_wordsAt_33 : decode cX7_wordsAt 33 = .ok (.goto (-29), 3) := by decide +kernel
theorem dX7_wordsAt_36 : decode cX7_wordsAt 36 = .ok (.iload_n 2, 1) := by decide +kernel
theorem dX7_wordsAt_37 : decode cX7_wordsAt 37 = .ok (.ireturn, 1) := by decide +kernel
theorem dX7_wordNow_0 : decode cX7_wordNow 0 = .ok (.aload_n 0, 1) := by decide +kernel
theorem dX7_wordNow_1 : decode cX7_wordNow 1 = .ok (.iload_n 1, 1) := by decide +kernel
theorem dX7_wordNow_2 : decode cX7_wordNow 2 = .ok (.invokevirtual 68, 3) := by decide +kernel
theorem dX7_wordNow_5 : decode cX7_wordNow 5 = .ok (.ifCond .eq 16, 3) := by decide +kernel
theorem dX7_wordNow_8 : decode cX7_wordNow 8 = .ok (.aload_n 0, 1) := by decide +kernel
theorem dX7_wordNow_9 : decode cX7_wordNow 9 = .ok (.aload_n 0, 1) := by decide +kernel
theorem dX7_wordNow_10 : decode cX7_wordNow 10 = .ok (.getfield 15, 3) := by decide +kernel
theorem dX7_wordNow_13 : decode cX7_wordNow 13 = .ok (.iload_n 1, 1) := by decide +kernel
theorem dX7_wordNow_14 : decode cX7_wordNow 14 = .ok (.iaload, 1) := by decide +kernel
theorem dX7_wordNow_15 : decode cX7_wordNow 15 = .ok (.invokevirtual 72, 3) := by decide +kernel
theorem dX7_wordNow_18 : decode cX7_wordNow 18 = .ok (.goto 4, 3) := by decide +kernel
theorem dX7_wordNow_21 : decode cX7_wordNow 21 = .ok (.iconst 0, 1) := by decide +kernel
theorem dX7_wordNow_22 : decode cX7_wordNow 22 = .ok (.ireturn, 1) := by decide +kernel
theorem dX7_stepsBetween_0 : decode cX7_stepsBetween 0 = .ok (.iload_n 1, 1) := by decide +kernel
theorem dX7_stepsBetween_1 : decode cX7_stepsBetween 1 = .ok (.istore_n 3, 1) := by decide +kernel
theorem dX7_stepsBetween_2 : decode cX7_stepsBetween 2 = .ok (.iconst 0, 1) := by decide +kernel
theorem dX7_stepsBetween_3 : decode cX7_stepsBetween 3 = .ok (.istore 4, 2) := by decide +kernel
theorem dX7_stepsBetween_5 : decode cX7_stepsBetween 5 = .ok (.iload 4, 2) := by decide +kernel
theorem dX7_stepsBetween_7 : decode cX7_stepsBetween 7 = .ok (.bipush 16, 2) := by decide +kernel
theorem dX7_stepsBetween_9 : decode cX7_stepsBetween 9 = .ok (.if_icmp .ge 23, 3) := by decide +kernel
theorem dX7_stepsBetween_12 : decode cX7_stepsBetween 12 = .ok (.iload_n 3, 1) := by decide +kernel
theorem dX7_stepsBetween_13 : decode cX7_stepsBetween 13 = .ok (.iload_n 2, 1) := by decide +kernel
theorem dX7_stepsBetween_14 : decode cX7_stepsBetween 14 = .ok (.if_icmp .ne 6, 3) := by decide +kernel
theorem dX7_stepsBetween_17 : decode cX7_stepsBetween 17 = .ok (.iload 4, 2) := by decide +kernel
theorem dX7_stepsBetween_19 : decode cX7_stepsBetween 19 = .ok (.ireturn, 1) := by decide +kernel
theorem dX7_stepsBetween_20 : decode cX7_stepsBetween 20 = .ok (.aload_n 0, 1) := by decide +kernel
theorem dX7_stepsBetween_21 : decode cX7_stepsBetween 21 = .ok (.iload_n 3, 1) := by decide +kernel
theorem dX7_stepsBetween_22 : decode cX7_stepsBetween 22 = .ok (.invokevirtual 76, 3) := by decide +kernel
theorem dX7_stepsBetween_25 : decode cX7_stepsBetween 25 = .ok (.istore_n 3, 1) := by decide +kernel
theorem dX7_stepsBetween_26 : decode cX7_stepsBetween 26 = .ok (.iinc 4 1, 3) := by decide +kernel
theorem dX7_stepsBetween_29 : decode cX7_stepsBetween 29 = .ok (.goto (-24), 3) := by decide +kernel
theorem dX7_stepsBetween_32 : decode cX7_stepsBetween 32 = .ok (.bipush (-2), 2) := by decide +kernel
theorem dX7_stepsBetween_34 : decode cX7_stepsBetween 34 = .ok (.ireturn, 1) := by decide +kernel
theorem dX7_leadingTo_0 : decode cX7_leadingTo 0 = .ok (.iconst 0, 1) := by decide +kernel
theorem dX7_leadingTo_1 : decode cX7_leadingTo 1 = .ok (.istore_n 2, 1) := by decide +kernel
theorem dX7_leadingTo_2 : decode cX7_leadingTo 2 = .ok (.iconst 0, 1) := by decide +kernel
theorem dX7_leadingTo_3 : decode cX7_leadingTo 3 = .ok (.istore_n 3, 1) := by decide +kernel
theorem dX7_leadingTo_4 : decode cX7_leadingTo 4 = .ok (.iload_n 3, 1) := by decide +kernel
theorem dX7_leadingTo_5 : decode cX7_leadingTo 5 = .ok (.bipush 16, 2) := by decide +kernel
theorem dX7_leadingTo_7 : decode cX7_leadingTo 7 = .ok (.if_icmp .ge 24, 3) := by decide +kernel
theorem dX7_leadingTo_10 : decode cX7_leadingTo 10 = .ok (.aload_n 0, 1) := by decide +kernel
theorem dX7_leadingTo_11 : decode cX7_leadingTo 11 = .ok (.iload_n 3, 1) := by decide +kernel
theorem dX7_leadingTo_12 : decode cX7_leadingTo 12 = .ok (.iload_n 1, 1) := by decide +kernel
theorem dX7_leadingTo_13 : decode cX7_leadingTo 13 = .ok (.invokevirtual 79, 3) := by decide +kernel
theorem dX7_leadingTo_16 : decode cX7_leadingTo 16 = .ok (.ifCond .lt 9, 3) := by decide +kernel
theorem dX7_leadingTo_19 : decode cX7_leadingTo 19 = .ok (.iload_n 2, 1) := by decide +kernel
theorem dX7_leadingTo_20 : decode cX7_leadingTo 20 = .ok (.iconst 1, 1) := by decide +kernel
theorem dX7_leadingTo_21 : decode cX7_leadingTo 21 = .ok (.iload_n 3, 1) := by decide +kernel
theorem dX7_leadingTo_22 : decode cX7_leadingTo 22 = .ok (.ishl, 1) := by decide +kernel
theorem dX7_leadingTo_23 : decode cX7_leadingTo 23 = .ok (.ior, 1) := by decide +kernel
theorem dX7_leadingTo_24 : decode cX7_leadingTo 24 = .ok (.istore_n 2, 1) := by decide +kernel
theorem dX7_leadingTo_25 : decode cX7_leadingTo 25 = .ok (.iinc 3 1, 3) := by decide +kernel
theorem dX7_leadingTo_28 : decode cX7_leadingTo 28 = .ok (.goto (-24), 3) := by decide +kernel
theorem dX7_leadingTo_31 : decode cX7_leadingTo 31 = .ok (.iload_n 2, 1) := by decide +kernel
theorem dX7_leadingTo_32 : decode cX7_leadingTo 32 = .ok (.ireturn, 1) := by decide +kernel
theorem dX7_ringOf_0 : decode cX7_ringOf 0 = .ok (.iload_n 1, 1) := by decide +kernel
theorem dX7_ringOf_1 : decode cX7_ringOf 1 = .ok (.istore_n 2, 1) := by decide +kernel
theorem dX7_ringOf_2 : decode cX7_ringOf 2 = .ok (.iconst 0, 1) := by decide +kernel
theorem dX7_ringOf_3 : decode cX7_ringOf 3 = .ok (.istore_n 3, 1) := by decide +kernel
theorem dX7_ringOf_4 : decode cX7_ringOf 4 = .ok (.iload_n 3, 1) := by decide +kernel
theorem dX7_ringOf_5 : decode cX7_ringOf 5 = .ok (.bipush 16, 2) := by decide +kernel
theorem dX7_ringOf_7 : decode cX7_ringOf 7 = .ok (.if_icmp .ge 15, 3) := by decide +kernel
theorem dX7_ringOf_10 : decode cX7_ringOf 10 = .ok (.aload_n 0, 1) := by decide +kernel
theorem dX7_ringOf_11 : decode cX7_ringOf 11 = .ok (.iload_n 2, 1) := by decide +kernel
theorem dX7_ringOf_12 : decode cX7_ringOf 12 = .ok (.invokevirtual 76, 3) := by decide +kernel
theorem dX7_ringOf_15 : decode cX7_ringOf 15 = .ok (.istore_n 2, 1) := by decide +kernel
theorem dX7_ringOf_16 : decode cX7_ringOf 16 = .ok (.iinc 3 1, 3) := by decide +kernel
theorem dX7_ringOf_19 : decode cX7_ringOf 19 = .ok (.goto (-15), 3) := by decide +kernel
theorem dX7_ringOf_22 : decode cX7_ringOf 22 = .ok (.aload_n 0, 1) := by decide +kernel
theorem dX7_ringOf_23 : decode cX7_ringOf 23 = .ok (.aload_n 0, 1) := by decide +kernel
theorem dX7_ringOf_24 : decode cX7_ringOf 24 = .ok (.iload_n 2, 1) := by decide +kernel
theorem dX7_ringOf_25 : decode cX7_ringOf 25 = .ok (.invokevirtual 76, 3) := by decide +kernel
theorem dX7_ringOf_28 : decode cX7_ringOf 28 = .ok (.iload_n 2, 1) := by decide +kernel
theorem dX7_ringOf_29 : decode cX7_ringOf 29 = .ok (.invokevirtual 79, 3) := by decide +kernel
theorem dX7_ringOf_32 : decode cX7_ringOf 32 = .ok (.iconst 1, 1) := by decide +kernel
theorem dX7_ringOf_33 : decode cX7_ringOf 33 = .ok (.iadd, 1) := by decide +kernel
theorem dX7_ringOf_34 : decode cX7_ringOf 34 = .ok (.ireturn, 1) := by decide +kernel
theorem dX7_aheadOfRing_0 : decode cX7_aheadOfRing 0 = .ok (.iload_n 1, 1) := by decide +kernel
theorem dX7_aheadOfRing_1 : decode cX7_aheadOfRing 1 = .ok (.istore_n 2, 1) := by decide +kernel
theorem dX7_aheadOfRing_2 : decode cX7_aheadOfRing 2 = .ok (.iconst 0, 1) := by decide +kernel
theorem dX7_aheadOfRing_3 : decode cX7_aheadOfRing 3 = .ok (.istore_n 3, 1) := by decide +kernel
theorem dX7_aheadOfRing_4 : decode cX7_aheadOfRing 4 = .ok (.iload_n 3, 1) := by decide +kernel
theorem dX7_aheadOfRing_5 : decode cX7_aheadOfRing 5 = .ok (.bipush 16, 2) := by decide +kernel
theorem dX7_aheadOfRing_7 : decode cX7_aheadOfRing 7 = .ok (.if_icmp .ge 30, 3) := by decide +kernel
theorem dX7_aheadOfRing_10 : decode cX7_aheadOfRing 10 = .ok (.aload_n 0, 1) := by decide +kernel
theorem dX7_aheadOfRing_11 : decode cX7_aheadOfRing 11 = .ok (.aload_n 0, 1) := by decide +kernel
theorem dX7_aheadOfRing_12 : decode cX7_aheadOfRing 12 = .ok (.iload_n 2, 1) := by decide +kernel
theorem dX7_aheadOfRing_13 : decode cX7_aheadOfRing 13 = .ok (.invokevirtual 76, 3) := by decide +kernel
theorem dX7_aheadOfRing_16 : decode cX7_aheadOfRing 16 = .ok (.iload_n 2, 1) := by decide +kernel
theorem dX7_aheadOfRing_17 : decode cX7_aheadOfRing 17 = .ok (.invokevirtual 79, 3) := by decide +kernel
theorem dX7_aheadOfRing_20 : decode cX7_aheadOfRing 20 = .ok (.ifCond .lt 5, 3) := by decide +kernel
theorem dX7_aheadOfRing_23 : decode cX7_aheadOfRing 23 = .ok (.iload_n 3, 1) := by decide +kernel
theorem dX7_aheadOfRing_24 : decode cX7_aheadOfRing 24 = .ok (.ireturn, 1) := by decide +kernel
theorem dX7_aheadOfRing_25 : decode cX7_aheadOfRing 25 = .ok (.aload_n 0, 1) := by decide +kernel
theorem dX7_aheadOfRing_26 : decode cX7_aheadOfRing 26 = .ok (.iload_n 2, 1) := by decide +kernel
theorem dX7_aheadOfRing_27 : decode cX7_aheadOfRing 27 = .ok (.invokevirtual 76, 3) := by decide +kernel
theorem dX7_aheadOfRing_30 : decode cX7_aheadOfRing 30 = .ok (.istore_n 2, 1) := by decide +kernel
theorem dX7_aheadOfRing_31 : decode cX7_aheadOfRing 31 = .ok (.iinc 3 1, 3) := by decide +kernel
theorem dX7_aheadOfRing_34 : decode cX7_aheadOfRing 34 = .ok (.goto (-30), 3) := by decide +kernel
theorem dX7_aheadOfRing_37 : decode cX7_aheadOfRing 37 = .ok (.bipush 16, 2) := by decide +kernel
theorem dX7_aheadOfRing_39 : decode cX7_aheadOfRing 39 = .ok (.ireturn, 1) := by decide +kernel
theorem dX8_init_0 : decode cX8_init 0 = .ok (.aload_n 0, 1) := by decide +kernel
theorem dX8_init_1 : decode cX8_init 1 = .ok (.invokespecial 1, 3) := by decide +kernel
theorem dX8_init_4 : decode cX8_init 4 = .ok (.aload_n 0, 1) := by decide +kernel
theorem dX8_init_5 : decode cX8_init 5 = .ok (.bipush 60, 2) := by decide +kernel
theorem dX8_init_7 : decode cX8_init 7 = .ok (.newarray .long, 2) := by decide +kernel
theorem dX8_init_9 : decode cX8_init 9 = .ok (.putfield 9, 3) := by decide +kernel
theorem dX8_init_12 : decode cX8_init 12 = .ok (.return_, 1) := by decide +kernel
theorem dX8_isSort_0 : decode cX8_isSort 0 = .ok (.iload_n 0, 1) := by decide +kernel
theorem dX8_isSort_1 : decode cX8_isSort 1 = .ok (.iconst 0, 1) := by decide +kernel
theorem dX8_isSort_2 : decode cX8_isSort 2 = .ok (.iconst 4, 1) := by decide +kernel
theorem dX8_isSort_3 : decode cX8_isSort 3 = .ok (.invokestatic 13, 3) := by decide +kernel
theorem dX8_isSort_6 : decode cX8_isSort 6 = .ok (.ireturn, 1) := by decide +kernel
theorem dX8_isBare_0 : decode cX8_isBare 0 = .ok (.aload_n 0, 1) := by decide +kernel
theorem dX8_isBare_1 : decode cX8_isBare 1 = .ok (.getfield 19, 3) := by decide +kernel
theorem dX8_isBare_4 : decode cX8_isBare 4 = .ok (.ifCond .ne 7, 3) := by decide +kernel
theorem dX8_isBare_7 : decode cX8_isBare 7 = .ok (.iconst 1, 1) := by decide +kernel
theorem dX8_isBare_8 : decode cX8_isBare 8 = .ok (.goto 4, 3) := by decide +kernel
theorem dX8_isBare_11 : decode cX8_isBare 11 = .ok (.iconst 0, 1) := by decide +kernel
theorem dX8_isBare_12 : decode cX8_isBare 12 = .ok (.ireturn, 1) := by decide +kernel
theorem dX8_isRow_0 : decode cX8_isRow 0 = .ok (.aload_n 0, 1) := by decide +kernel
theorem dX8_isRow_1 : decode cX8_isRow 1 = .ok (.getfield 19, 3) := by decide +kernel
theorem dX8_isRow_4 : decode cX8_isRow 4 = .ok (.iconst 2, 1) := by decide +kernel
theorem dX8_isRow_5 : decode cX8_isRow 5 = .ok (.if_icmp .ne 7, 3) := by decide +kernel
theorem dX8_isRow_8 : decode cX8_isRow 8 = .ok (.iconst 1, 1) := by decide +kernel
theorem dX8_isRow_9 : decode cX8_isRow 9 = .ok (.goto 4, 3) := by decide +kernel
theorem dX8_isRow_12 : decode cX8_isRow 12 = .ok (.iconst 0, 1) := by decide +kernel
theorem dX8_isRow_13 : decode cX8_isRow 13 = .ok (.ireturn, 1) := by decide +kernel
theorem dX8_isRowOfBytes_0 : decode cX8_isRowOfBytes 0 = .ok (.aload_n 0, 1) := by decide +kernel
theorem dX8_isRowOfBytes_1 : decode cX8_isRowOfBytes 1 = .ok (.getfield 19, 3) := by decide +kernel
theorem dX8_isRowOfBytes_4 : decode cX8_isRowOfBytes 4 = .ok (.iconst 2, 1) := by decide +kernel
theorem dX8_isRowOfBytes_5 : decode cX8_isRowOfBytes 5 = .ok (.if_icmp .ne 14, 3) := by decide +kernel
theorem dX8_isRowOfBytes_8 : decode cX8_isRowOfBytes 8 = .ok (.aload_n 0, 1) := by decide +kernel
theorem dX8_isRowOfBytes_9 : decode cX8_isRowOfBytes 9 = .ok (.getfield 23, 3) := by decide +kernel
theorem dX8_isRowOfBytes_12 : decode cX8_isRowOfBytes 12 = .ok (.ifCond .ne 7, 3) := by decide +kernel
theorem dX8_isRowOfBytes_15 : decode cX8_isRowOfBytes 15 = .ok (.iconst 1, 1) := by decide +kernel
theorem dX8_isRowOfBytes_16 : decode cX8_isRowOfBytes 16 = .ok (.goto 4, 3) := by decide +kernel
theorem dX8_isRowOfBytes_19 : decode cX8_isRowOfBytes 19 = .ok (.iconst 0, 1) := by decide +kernel
theorem dX8_isRowOfBytes_20 : decode cX8_isRowOfBytes 20 = .ok (.ireturn, 1) := by decide +kernel
theorem dX8_sort_0 : decode cX8_sort 0 = .ok (.aload_n 0, 1) := by decide +kernel
theorem dX8_sort_1 : decode cX8_sort 1 = .ok (.getfield 23, 3) := by decide +kernel
theorem dX8_sort_4 : decode cX8_sort 4 = .ok (.ireturn, 1) := by decide +kernel
theorem dX8_size_0 : decode cX8_size 0 = .ok (.aload_n 0, 1) := by decide +kernel
theorem dX8_size_1 : decode cX8_size 1 = .ok (.getfield 26, 3) := by decide +kernel
theorem dX8_size_4 : decode cX8_size 4 = .ok (.ireturn, 1) := by decide +kernel
theorem dX8_toad_0 : decode cX8_toad 0 = .ok (.aload_n 0, 1) := by decide +kernel
theorem dX8_toad_1 : decode cX8_toad 1 = .ok (.getfield 29, 3) := by decide +kernel
theorem dX8_toad_4 : decode cX8_toad 4 = .ok (.ireturn, 1) := by decide +kernel
theorem dX8_clear_0 : decode cX8_clear 0 = .ok (.aload_n 0, 1) := by decide +kernel
theorem dX8_clear_1 : decode cX8_clear 1 = .ok (.iconst 0, 1) := by decide +kernel
theorem dX8_clear_2 : decode cX8_clear 2 = .ok (.putfield 19, 3) := by decide +kernel
theorem dX8_clear_5 : decode cX8_clear 5 = .ok (.return_, 1) := by decide +kernel
theorem dX8_holdToad_0 : decode cX8_holdToad 0 = .ok (.aload_n 0, 1) := by decide +kernel
theorem dX8_holdToad_1 : decode cX8_holdToad 1 = .ok (.iconst 1, 1) := by decide +kernel
theorem dX8_holdToad_2 : decode cX8_holdToad 2 = .ok (.putfield 19, 3) := by decide +kernel
theorem dX8_holdToad_5 : decode cX8_holdToad 5 = .ok (.aload_n 0, 1) := by decide +kernel
theorem dX8_holdToad_6 : decode cX8_holdToad 6 = .ok (.iload_n 1, 1) := by decide +kernel
theorem dX8_holdToad_7 : decode cX8_holdToad 7 = .ok (.putfield 29, 3) := by decide +kernel
theorem dX8_holdToad_10 : decode cX8_holdToad 10 = .ok (.return_, 1) := by decide +kernel
theorem dX8_holdRow_0 : decode cX8_holdRow 0 = .ok (.aload_n 0, 1) := by decide +kernel
theorem dX8_holdRow_1 : decode cX8_holdRow 1 = .ok (.iconst 2, 1) := by decide +kernel
theorem dX8_holdRow_2 : decode cX8_holdRow 2 = .ok (.putfield 19, 3) := by decide +kernel
theorem dX8_holdRow_5 : decode cX8_holdRow 5 = .ok (.aload_n 0, 1) := by decide +kernel
theorem dX8_holdRow_6 : decode cX8_holdRow 6 = .ok (.iload_n 1, 1) := by decide +kernel
theorem dX8_holdRow_7 : decode cX8_holdRow 7 = .ok (.putfield 23, 3) := by decide +kernel
theorem dX8_holdRow_10 : decode cX8_holdRow 10 = .ok (.aload_n 0, 1) := by decide +kernel
theorem dX8_holdRow_11 : decode cX8_holdRow 11 = .ok (.iconst 0, 1) := by decide +kernel
theorem dX8_holdRow_12 : decode cX8_holdRow 12 = .ok (.iload_n 2, 1) := by decide +kernel
theorem dX8_holdRow_13 : decode cX8_holdRow 13 = .ok (.bipush 60, 2) := by decide +kernel
theorem dX8_holdRow_15 : decode cX8_holdRow 15 = .ok (.invokestatic 32, 3) := by decide +kernel
theorem dX8_holdRow_18 : decode cX8_holdRow 18 = .ok (.invokestatic 38, 3) := by decide +kernel
theorem dX8_holdRow_21 : decode cX8_holdRow 21 = .ok (.putfield 26, 3) := by decide +kernel
theorem dX8_holdRow_24 : decode cX8_holdRow 24 = .ok (.aload_n 0, 1) := by decide +kernel
theorem dX8_holdRow_25 : decode cX8_holdRow 25 = .ok (.getfield 9, 3) := by decide +kernel
theorem dX8_holdRow_28 : decode cX8_holdRow 28 = .ok (.lconst 0, 1) := by decide +kernel
theorem dX8_holdRow_29 : decode cX8_holdRow 29 = .ok (.invokestatic 41, 3) := by decide +kernel
theorem dX8_holdRow_32 : decode cX8_holdRow 32 = .ok (.return_, 1) := by decide +kernel
theorem dX8_at_0 : decode cX8_at 0 = .ok (.iload_n 1, 1) := by decide +kernel
theorem dX8_at_1 : decode cX8_at 1 = .ok (.iconst 0, 1) := by decide +kernel
theorem dX8_at_2 : decode cX8_at 2 = .ok (.aload_n 0, 1) := by decide +kernel
theorem dX8_at_3 : decode cX8_at 3 = .ok (.getfield 26, 3) := by decide +kernel
theorem dX8_at_6 : decode cX8_at 6 = .ok (.iconst 1, 1) := by decide +kernel
theorem dX8_at_7 : decode cX8_at 7 = .ok (.isub, 1) := by decide +kernel
theorem dX8_at_8 : decode cX8_at 8 = .ok (.invokestatic 13, 3) := by decide +kernel
theorem dX8_at_11 : decode cX8_at 11 = .ok (.ifCond .eq 12, 3) := by decide +kernel
theorem dX8_at_14 : decode cX8_at 14 = .ok (.aload_n 0, 1) := by decide +kernel
theorem dX8_at_15 : decode cX8_at 15 = .ok (.getfield 9, 3) := by decide +kernel
theorem dX8_at_18 : decode cX8_at 18 = .ok (.iload_n 1, 1) := by decide +kernel
theorem dX8_at_19 : decode cX8_at 19 = .ok (.laload, 1) := by decide +kernel
theorem dX8_at_20 : decode cX8_at 20 = .ok (.goto 4, 3) := by decide +kernel
theorem dX8_at_23 : decode cX8_at 23 = .ok (.lconst 0, 1) := by decide +kernel
theorem dX8_at_24 : decode cX8_at 24 = .ok (.lreturn, 1) := by decide +kernel
theorem dX8_set_0 : decode cX8_set 0 = .ok (.iload_n 1, 1) := by decide +kernel
theorem dX8_set_1 : decode cX8_set 1 = .ok (.iconst 0, 1) := by decide +kernel
theorem dX8_set_2 : decode cX8_set 2 = .ok (.aload_n 0, 1) := by decide +kernel
theorem dX8_set_3 : decode cX8_set 3 = .ok (.getfield 26, 3) := by decide +kernel
theorem dX8_set_6 : decode cX8_set 6 = .ok (.iconst 1, 1) := by decide +kernel
theorem dX8_set_7 : decode cX8_set 7 = .ok (.isub, 1) := by decide +kernel
theorem dX8_set_8 : decode cX8_set 8 = .ok (.invokestatic 13, 3) := by decide +kernel
theorem dX8_set_11 : decode cX8_set 11 = .ok (.ifCond .eq 14, 3) := by decide +kernel
theorem dX8_set_14 : decode cX8_set 14 = .ok (.aload_n 0, 1) := by decide +kernel
theorem dX8_set_15 : decode cX8_set 15 = .ok (.getfield 9, 3) := by decide +kernel
theorem dX8_set_18 : decode cX8_set 18 = .ok (.iload_n 1, 1) := by decide +kernel
theorem dX8_set_19 : decode cX8_set 19 = .ok (.aload_n 0, 1) := by decide +kernel
theorem dX8_set_20 : decode cX8_set 20 = .ok (.lload_n 2, 1) := by decide +kernel
theorem dX8_set_21 : decode cX8_set 21 = .ok (.invokevirtual 47, 3) := by decide +kernel
theorem dX8_set_24 : decode cX8_set 24 = .ok (.lastore, 1) := by decide +kernel
theorem dX8_set_25 : decode cX8_set 25 = .ok (.return_, 1) := by decide +kernel
theorem dX8_cut_0 : decode cX8_cut 0 = .ok (.aload_n 0, 1) := by decide +kernel
theorem dX8_cut_1 : decode cX8_cut 1 = .ok (.getfield 23, 3) := by decide +kernel
theorem dX8_cut_4 : decode cX8_cut 4 = .ok (.tableswitch 48 0 3 #[32, 37, 42, 46], 32) := by decide +kernel
theorem dX8_cut_36 : decode cX8_cut 36 = .ok (.lload_n 1, 1) := by decide +kernel
theorem dX8_cut_37 : decode cX8_cut 37 = .ok (.l2i, 1) := by decide +kernel
theorem dX8_cut_38 : decode cX8_cut 38 = .ok (.i2b, 1) := by decide +kernel
theorem dX8_cut_39 : decode cX8_cut 39 = .ok (.i2l, 1) := by decide +kernel
theorem dX8_cut_40 : decode cX8_cut 40 = .ok (.lreturn, 1) := by decide +kernel
theorem dX8_cut_41 : decode cX8_cut 41 = .ok (.lload_n 1, 1) := by decide +kernel
theorem dX8_cut_42 : decode cX8_cut 42 = .ok (.l2i, 1) := by decide +kernel
theorem dX8_cut_43 : decode cX8_cut 43 = .ok (.i2s, 1) := by decide +kernel
theorem dX8_cut_44 : decode cX8_cut 44 = .ok (.i2l, 1) := by decide +kernel
theorem dX8_cut_45 : decode cX8_cut 45 = .ok (.lreturn, 1) := by decide +kernel
theorem dX8_cut_46 : decode cX8_cut 46 = .ok (.lload_n 1, 1) := by decide +kernel
theorem dX8_cut_47 : decode cX8_cut 47 = .ok (.l2i, 1) := by decide +kernel
theorem dX8_cut_48 : decode cX8_cut 48 = .ok (.i2l, 1) := by decide +kernel
theorem dX8_cut_49 : decode cX8_cut 49 = .ok (.lreturn, 1) := by decide +kernel
theorem dX8_cut_50 : decode cX8_cut 50 = .ok (.lload_n 1, 1) := by decide +kernel
theorem dX8_cut_51 : decode cX8_cut 51 = .ok (.lreturn, 1) := by decide +kernel
theorem dX8_cut_52 : decode cX8_cut 52 = .ok (.lload_n 1, 1) := by decide +kernel
theorem dX8_cut_53 : decode cX8_cut 53 = .ok (.lconst 0, 1) := by decide +kernel
theorem dX8_cut_54 : decode cX8_cut 54 = .ok (.lcmp, 1) := by decide +kernel
theorem dX8_cut_55 : decode cX8_cut 55 = .ok (.ifCond .eq 7, 3) := by decide +kernel
theorem dX8_cut_58 : decode cX8_cut 58 = .ok (.lconst 1, 1) := by decide +kernel
theorem dX8_cut_59 : decode cX8_cut 59 = .ok (.goto 4, 3) := by decide +kernel
theorem dX8_cut_62 : decode cX8_cut 62 = .ok (.lconst 0, 1) := by decide +kernel
theorem dX8_cut_63 : decode cX8_cut 63 = .ok (.lreturn, 1) := by decide +kernel
theorem dX8_hasPlaces_0 : decode cX8_hasPlaces 0 = .ok (.iload_n 1, 1) := by decide +kernel
theorem dX8_hasPlaces_1 : decode cX8_hasPlaces 1 = .ok (.ifCond .lt 29, 3) := by decide +kernel
theorem dX8_hasPlaces_4 : decode cX8_hasPlaces 4 = .ok (.iload_n 2, 1) := by decide +kernel
theorem dX8_hasPlaces_5 : decode cX8_hasPlaces 5 = .ok (.ifCond .lt 25, 3) := by decide +kernel
theorem dX8_hasPlaces_8 : decode cX8_hasPlaces 8 = .ok (.iload_n 2, 1) := by decide +kernel
theorem dX8_hasPlaces_9 : decode cX8_hasPlaces 9 = .ok (.aload_n 0, 1) := by decide +kernel
theorem dX8_hasPlaces_10 : decode cX8_hasPlaces 10 = .ok (.getfield 26, 3) := by decide +kernel
theorem dX8_hasPlaces_13 : decode cX8_hasPlaces 13 = .ok (.if_icmp .gt 17, 3) := by decide +kernel
theorem dX8_hasPlaces_16 : decode cX8_hasPlaces 16 = .ok (.iload_n 1, 1) := by decide +kernel
theorem dX8_hasPlaces_17 : decode cX8_hasPlaces 17 = .ok (.aload_n 0, 1) := by decide +kernel
theorem dX8_hasPlaces_18 : decode cX8_hasPlaces 18 = .ok (.getfield 26, 3) := by decide +kernel
theorem dX8_hasPlaces_21 : decode cX8_hasPlaces 21 = .ok (.iload_n 2, 1) := by decide +kernel
theorem dX8_hasPlaces_22 : decode cX8_hasPlaces 22 = .ok (.isub, 1) := by decide +kernel
theorem dX8_hasPlaces_23 : decode cX8_hasPlaces 23 = .ok (.if_icmp .gt 7, 3) := by decide +kernel
theorem dX8_hasPlaces_26 : decode cX8_hasPlaces 26 = .ok (.iconst 1, 1) := by decide +kernel
theorem dX8_hasPlaces_27 : decode cX8_hasPlaces 27 = .ok (.goto 4, 3) := by decide +kernel
theorem dX8_hasPlaces_30 : decode cX8_hasPlaces 30 = .ok (.iconst 0, 1) := by decide +kernel
theorem dX8_hasPlaces_31 : decode cX8_hasPlaces 31 = .ok (.ireturn, 1) := by decide +kernel
theorem dX8_copy_0 : decode cX8_copy 0 = .ok (.aload_n 1, 1) := by decide +kernel
theorem dX8_copy_1 : decode cX8_copy 1 = .ok (.iload_n 2, 1) := by decide +kernel
theorem dX8_copy_2 : decode cX8_copy 2 = .ok (.iload 4, 2) := by decide +kernel
theorem dX8_copy_4 : decode cX8_copy 4 = .ok (.invokevirtual 51, 3) := by decide +kernel
theorem dX8_copy_7 : decode cX8_copy 7 = .ok (.ifCond .eq 28, 3) := by decide +kernel
theorem dX8_copy_10 : decode cX8_copy 10 = .ok (.aload_n 0, 1) := by decide +kernel
theorem dX8_copy_11 : decode cX8_copy 11 = .ok (.iload_n 3, 1) := by decide +kernel
theorem dX8_copy_12 : decode cX8_copy 12 = .ok (.iload 4, 2) := by decide +kernel
theorem dX8_copy_14 : decode cX8_copy 14 = .ok (.invokevirtual 51, 3) := by decide +kernel
theorem dX8_copy_17 : decode cX8_copy 17 = .ok (.ifCond .eq 18, 3) := by decide +kernel
theorem dX8_copy_20 : decode cX8_copy 20 = .ok (.aload_n 1, 1) := by decide +kernel
theorem dX8_copy_21 : decode cX8_copy 21 = .ok (.getfield 9, 3) := by decide +kernel
theorem dX8_copy_24 : decode cX8_copy 24 = .ok (.iload_n 2, 1) := by decide +kernel
theorem dX8_copy_25 : decode cX8_copy 25 = .ok (.aload_n 0, 1) := by decide +kernel
theorem dX8_copy_26 : decode cX8_copy 26 = .ok (.getfield 9, 3) := by decide +kernel
theorem dX8_copy_29 : decode cX8_copy 29 = .ok (.iload_n 3, 1) := by decide +kernel
theorem dX8_copy_30 : decode cX8_copy 30 = .ok (.iload 4, 2) := by decide +kernel
theorem dX8_copy_32 : decode cX8_copy 32 = .ok (.invokestatic 55, 3) := by decide +kernel
theorem dX8_copy_35 : decode cX8_copy 35 = .ok (.return_, 1) := by decide +kernel
theorem dX9_init_0 : decode cX9_init 0 = .ok (.aload_n 0, 1) := by decide +kernel
theorem dX9_init_1 : decode cX9_init 1 = .ok (.invokespecial 3, 3) := by decide +kernel
theorem dX9_init_4 : decode cX9_init 4 = .ok (.aload_n 0, 1) := by decide +kernel
theorem dX9_init_5 : decode cX9_init 5 = .ok (.aload_n 1, 1) := by decide +kernel
theorem dX9_init_6 : decode cX9_init 6 = .ok (.putfield 9, 3) := by decide +kernel
theorem dX9_init_9 : decode cX9_init 9 = .ok (.aload_n 0, 1) := by decide +kernel
theorem dX9_init_10 : decode cX9_init 10 = .ok (.aload_n 2, 1) := by decide +kernel
theorem dX9_init_11 : decode cX9_init 11 = .ok (.putfield 15, 3) := by decide +kernel
theorem dX9_init_14 : decode cX9_init 14 = .ok (.return_, 1) := by decide +kernel
theorem dX9_begin_0 : decode cX9_begin 0 = .ok (.aload_n 0, 1) := by decide +kernel
theorem dX9_begin_1 : decode cX9_begin 1 = .ok (.iload_n 1, 1) := by decide +kernel
theorem dX9_begin_2 : decode cX9_begin 2 = .ok (.putfield 19, 3) := by decide +kernel
theorem dX9_begin_5 : decode cX9_begin 5 = .ok (.aload_n 0, 1) := by decide +kernel
theorem dX9_begin_6 : decode cX9_begin 6 = .ok (.aload_n 0, 1) := by decide +kernel
theorem dX9_begin_7 : decode cX9_begin 7 = .ok (.getfield 9, 3) := by decide +kernel
theorem dX9_begin_10 : decode cX9_begin 10 = .ok (.iload_n 1, 1) := by decide +kernel
theorem dX9_begin_11 : decode cX9_begin 11 = .ok (.iconst 0, 1) := by decide +kernel
theorem dX9_begin_12 : decode cX9_begin 12 = .ok (.invokevirtual 23, 3) := by decide +kernel
theorem dX9_begin_15 : decode cX9_begin 15 = .ok (.putfield 29, 3) := by decide +kernel
theorem dX9_begin_18 : decode cX9_begin 18 = .ok (.aload_n 0, 1) := by decide +kernel
theorem dX9_begin_19 : decode cX9_begin 19 = .ok (.aload_n 0, 1) := by decide +kernel
theorem dX9_begin_20 : decode cX9_begin 20 = .ok (.getfield 9, 3) := by decide +kernel
theorem dX9_begin_23 : decode cX9_begin 23 = .ok (.iload_n 1, 1) := by decide +kernel
theorem dX9_begin_24 : decode cX9_begin 24 = .ok (.iconst 1, 1) := by decide +kernel
theorem dX9_begin_25 : decode cX9_begin 25 = .ok (.invokevirtual 23, 3) := by decide +kernel
theorem dX9_begin_28 : decode cX9_begin 28 = .ok (.putfield 32, 3) := by decide +kernel
theorem dX9_begin_31 : decode cX9_begin 31 = .ok (.aload_n 0, 1) := by decide +kernel
theorem dX9_begin_32 : decode cX9_begin 32 = .ok (.aload_n 0, 1) := by decide +kernel
theorem dX9_begin_33 : decode cX9_begin 33 = .ok (.getfield 9, 3) := by decide +kernel
theorem dX9_begin_36 : decode cX9_begin 36 = .ok (.iload_n 1, 1) := by decide +kernel
theorem dX9_begin_37 : decode cX9_begin 37 = .ok (.invokevirtual 35, 3) := by decide +kernel
theorem dX9_begin_40 : decode cX9_begin 40 = .ok (.putfield 39, 3) := by decide +kernel
theorem dX9_begin_43 : decode cX9_begin 43 = .ok (.aload_n 0, 1) := by decide +kernel
theorem dX9_begin_44 : decode cX9_begin 44 = .ok (.aload_n 0, 1) := by decide +kernel
theorem dX9_begin_45 : decode cX9_begin 45 = .ok (.getfield 9, 3) := by decide +kernel
theorem dX9_begin_48 : decode cX9_begin 48 = .ok (.invokevirtual 43, 3) := by decide +kernel
theorem dX9_begin_51 : decode cX9_begin 51 = .ok (.putfield 47, 3) := by decide +kernel
theorem dX9_begin_54 : decode cX9_begin 54 = .ok (.aload_n 0, 1) := by decide +kernel
theorem dX9_begin_55 : decode cX9_begin 55 = .ok (.aload_n 0, 1) := by decide +kernel
theorem dX9_begin_56 : decode cX9_begin 56 = .ok (.getfield 9, 3) := by decide +kernel
theorem dX9_begin_59 : decode cX9_begin 59 = .ok (.invokevirtual 50, 3) := by decide +kernel
theorem dX9_begin_62 : decode cX9_begin 62 = .ok (.putfield 53, 3) := by decide +kernel
theorem dX9_begin_65 : decode cX9_begin 65 = .ok (.aload_n 0, 1) := by decide +kernel
theorem dX9_begin_66 : decode cX9_begin 66 = .ok (.iconst (-1), 1) := by decide +kernel
theorem dX9_begin_67 : decode cX9_begin 67 = .ok (.putfield 56, 3) := by decide +kernel
theorem dX9_begin_70 : decode cX9_begin 70 = .ok (.return_, 1) := by decide +kernel
theorem dX9_supposeAt_0 : decode cX9_supposeAt 0 = .ok (.aload_n 0, 1) := by decide +kernel
theorem dX9_supposeAt_1 : decode cX9_supposeAt 1 = .ok (.iload_n 1, 1) := by decide +kernel
theorem dX9_supposeAt_2 : decode cX9_supposeAt 2 = .ok (.putfield 32, 3) := by decide +kernel
theorem dX9_supposeAt_5 : decode cX9_supposeAt 5 = .ok (.return_, 1) := by decide +kernel
theorem dX9_supposeBed_0 : decode cX9_supposeBed 0 = .ok (.aload_n 0, 1) := by decide +kernel
theorem dX9_supposeBed_1 : decode cX9_supposeBed 1 = .ok (.iload_n 1, 1) := by decide +kernel
theorem dX9_supposeBed_2 : decode cX9_supposeBed 2 = .ok (.putfield 29, 3) := by decide +kernel
theorem dX9_supposeBed_5 : decode cX9_supposeBed 5 = .ok (.return_, 1) := by decide +kernel
theorem dX9_supposeLeads_0 : decode cX9_supposeLeads 0 = .ok (.aload_n 0, 1) := by decide +kernel
theorem dX9_supposeLeads_1 : decode cX9_supposeLeads 1 = .ok (.iload_n 1, 1) := by decide +kernel
theorem dX9_supposeLeads_2 : decode cX9_supposeLeads 2 = .ok (.putfield 56, 3) := by decide +kernel
theorem dX9_supposeLeads_5 : decode cX9_supposeLeads 5 = .ok (.aload_n 0, 1) := by decide +kernel
theorem dX9_supposeLeads_6 : decode cX9_supposeLeads 6 = .ok (.iload_n 2, 1) := by decide +kernel
theorem dX9_supposeLeads_7 : decode cX9_supposeLeads 7 = .ok (.putfield 59, 3) := by decide +kernel
theorem dX9_supposeLeads_10 : decode cX9_supposeLeads 10 = .ok (.return_, 1) := by decide +kernel
theorem dX9_beOpen_0 : decode cX9_beOpen 0 = .ok (.aload_n 0, 1) := by decide +kernel
theorem dX9_beOpen_1 : decode cX9_beOpen 1 = .ok (.iconst 1, 1) := by decide +kernel
theorem dX9_beOpen_2 : decode cX9_beOpen 2 = .ok (.putfield 39, 3) := by decide +kernel
theorem dX9_beOpen_5 : decode cX9_beOpen 5 = .ok (.return_, 1) := by decide +kernel
theorem dX9_isOpened_0 : decode cX9_isOpened 0 = .ok (.aload_n 0, 1) := by decide +kernel
theorem dX9_isOpened_1 : decode cX9_isOpened 1 = .ok (.getfield 39, 3) := by decide +kernel
theorem dX9_isOpened_4 : decode cX9_isOpened 4 = .ok (.ireturn, 1) := by decide +kernel
theorem dX9_place_0 : decode cX9_place 0 = .ok (.aload_n 0, 1) := by decide +kernel
theorem dX9_place_1 : decode cX9_place 1 = .ok (.getfield 32, 3) := by decide +kernel
theorem dX9_place_4 : decode cX9_place 4 = .ok (.ireturn, 1) := by decide +kernel
theorem dX9_wouldSay_0 : decode cX9_wouldSay 0 = .ok (.aload_n 0, 1) := by decide +kernel
theorem dX9_wouldSay_1 : decode cX9_wouldSay 1 = .ok (.getfield 9, 3) := by decide +kernel
theorem dX9_wouldSay_4 : decode cX9_wouldSay 4 = .ok (.aload_n 0, 1) := by decide +kernel
theorem dX9_wouldSay_5 : decode cX9_wouldSay 5 = .ok (.getfield 32, 3) := by decide +kernel
theorem dX9_wouldSay_8 : decode cX9_wouldSay 8 = .ok (.invokevirtual 62, 3) := by decide +kernel
theorem dX9_wouldSay_11 : decode cX9_wouldSay 11 = .ok (.ireturn, 1) := by decide +kernel
theorem dX9_goesOnNow_0 : decode cX9_goesOnNow 0 = .ok (.aload_n 0, 1) := by decide +kernel
theorem dX9_goesOnNow_1 : decode cX9_goesOnNow 1 = .ok (.getfield 15, 3) := by decide +kernel
theorem dX9_goesOnNow_4 : decode cX9_goesOnNow 4 = .ok (.aload_n 0, 1) := by decide +kernel
theorem dX9_goesOnNow_5 : decode cX9_goesOnNow 5 = .ok (.getfield 29, 3) := by decide +kernel
theorem dX9_goesOnNow_8 : decode cX9_goesOnNow 8 = .ok (.aload_n 0, 1) := by decide +kernel
theorem dX9_goesOnNow_9 : decode cX9_goesOnNow 9 = .ok (.getfield 32, 3) := by decide +kernel
theorem dX9_goesOnNow_12 : decode cX9_goesOnNow 12 = .ok (.aload_n 0, 1) := by decide +kernel
theorem dX9_goesOnNow_13 : decode cX9_goesOnNow 13 = .ok (.invokevirtual 66, 3) := by decide +kernel
theorem dX9_goesOnNow_16 : decode cX9_goesOnNow 16 = .ok (.aload_n 0, 1) := by decide +kernel
theorem dX9_goesOnNow_17 : decode cX9_goesOnNow 17 = .ok (.getfield 19, 3) := by decide +kernel
theorem dX9_goesOnNow_20 : decode cX9_goesOnNow 20 = .ok (.aload_n 0, 1) := by decide +kernel
theorem dX9_goesOnNow_21 : decode cX9_goesOnNow 21 = .ok (.getfield 53, 3) := by decide +kernel
theorem dX9_goesOnNow_24 : decode cX9_goesOnNow 24 = .ok (.aload_n 0, 1) := by decide +kernel
theorem dX9_goesOnNow_25 : decode cX9_goesOnNow 25 = .ok (.getfield 47, 3) := by decide +kernel
theorem dX9_goesOnNow_28 : decode cX9_goesOnNow 28 = .ok (.invokevirtual 69, 3) := by decide +kernel
theorem dX9_goesOnNow_31 : decode cX9_goesOnNow 31 = .ok (.ireturn, 1) := by decide +kernel
theorem dX9_passCenturies_0 : decode cX9_passCenturies 0 = .ok (.iconst 0, 1) := by decide +kernel
theorem dX9_passCenturies_1 : decode cX9_passCenturies 1 = .ok (.istore_n 2, 1) := by decide +kernel
theorem dX9_passCenturies_2 : decode cX9_passCenturies 2 = .ok (.iload_n 2, 1) := by decide +kernel
theorem dX9_passCenturies_3 : decode cX9_passCenturies 3 = .ok (.iload_n 1, 1) := by decide +kernel
theorem dX9_passCenturies_4 : decode cX9_passCenturies 4 = .ok (.if_icmp .ge 17, 3) := by decide +kernel
theorem dX9_passCenturies_7 : decode cX9_passCenturies 7 = .ok (.aload_n 0, 1) := by decide +kernel
theorem dX9_passCenturies_8 : decode cX9_passCenturies 8 = .ok (.aload_n 0, 1) := by decide +kernel
theorem dX9_passCenturies_9 : decode cX9_passCenturies 9 = .ok (.getfield 53, 3) := by decide +kernel
theorem dX9_passCenturies_12 : decode cX9_passCenturies 12 = .ok (.invokevirtual 75, 3) := by decide +kernel
theorem dX9_passCenturies_15 : decode cX9_passCenturies 15 = .ok (.iinc 2 1, 3) := by decide +kernel
theorem dX9_passCenturies_18 : decode cX9_passCenturies 18 = .ok (.goto (-16), 3) := by decide +kernel
theorem dX9_passCenturies_21 : decode cX9_passCenturies 21 = .ok (.return_, 1) := by decide +kernel
theorem dX9_passCentury_0 : decode cX9_passCentury 0 = .ok (.aload_n 0, 1) := by decide +kernel
theorem dX9_passCentury_1 : decode cX9_passCentury 1 = .ok (.getfield 39, 3) := by decide +kernel
theorem dX9_passCentury_4 : decode cX9_passCentury 4 = .ok (.ifCond .eq 7, 3) := by decide +kernel
theorem dX9_passCentury_7 : decode cX9_passCentury 7 = .ok (.iconst 0, 1) := by decide +kernel
theorem dX9_passCentury_8 : decode cX9_passCentury 8 = .ok (.goto 31, 3) := by decide +kernel
theorem dX9_passCentury_11 : decode cX9_passCentury 11 = .ok (.aload_n 0, 1) := by decide +kernel
theorem dX9_passCentury_12 : decode cX9_passCentury 12 = .ok (.getfield 15, 3) := by decide +kernel
theorem dX9_passCentury_15 : decode cX9_passCentury 15 = .ok (.aload_n 0, 1) := by decide +kernel
theorem dX9_passCentury_16 : decode cX9_passCentury 16 = .ok (.getfield 29, 3) := by decide +kernel
theorem dX9_passCentury_19 : decode cX9_passCentury 19 = .ok (.aload_n 0, 1) := by decide +kernel
theorem dX9_passCentury_20 : decode cX9_passCentury 20 = .ok (.getfield 32, 3) := by decide +kernel
theorem dX9_passCentury_23 : decode cX9_passCentury 23 = .ok (.aload_n 0, 1) := by decide +kernel
theorem dX9_passCentury_24 : decode cX9_passCentury 24 = .ok (.invokevirtual 66, 3) := by decide +kernel
theorem dX9_passCentury_27 : decode cX9_passCentury 27 = .ok (.aload_n 0, 1) := by decide +kernel
theorem dX9_passCentury_28 : decode cX9_passCentury 28 = .ok (.getfield 19, 3) := by decide +kernel
theorem dX9_passCentury_31 : decode cX9_passCentury 31 = .ok (.iload_n 1, 1) := by decide +kernel
theorem dX9_passCentury_32 : decode cX9_passCentury 32 = .ok (.aload_n 0, 1) := by decide +kernel
theorem dX9_passCentury_33 : decode cX9_passCentury 33 = .ok (.getfield 47, 3) := by decide +kernel
theorem dX9_passCentury_36 : decode cX9_passCentury 36 = .ok (.invokevirtual 69, 3) := by decide +kernel
theorem dX9_passCentury_39 : decode cX9_passCentury 39 = .ok (.istore_n 2, 1) := by decide +kernel
theorem dX9_passCentury_40 : decode cX9_passCentury 40 = .ok (.iconst 0, 1) := by decide +kernel
theorem dX9_passCentury_41 : decode cX9_passCentury 41 = .ok (.istore_n 3, 1) := by decide +kernel
theorem dX9_passCentury_42 : decode cX9_passCentury 42 = .ok (.iload_n 3, 1) := by decide +kernel
theorem dX9_passCentury_43 : decode cX9_passCentury 43 = .ok (.iload_n 2, 1) := by decide +kernel
theorem dX9_passCentury_44 : decode cX9_passCentury 44 = .ok (.if_icmp .ge 42, 3) := by decide +kernel
theorem dX9_passCentury_47 : decode cX9_passCentury 47 = .ok (.aload_n 0, 1) := by decide +kernel
theorem dX9_passCentury_48 : decode cX9_passCentury 48 = .ok (.aload_n 0, 1) := by decide +kernel
theorem dX9_passCentury_49 : decode cX9_passCentury 49 = .ok (.getfield 32, 3) := by decide +kernel
theorem dX9_passCentury_52 : decode cX9_passCentury 52 = .ok (.aload_n 0, 1) := by decide +kernel
theorem dX9_passCentury_53 : decode cX9_passCentury 53 = .ok (.getfield 56, 3) := by decide +kernel
theorem dX9_passCentury_56 : decode cX9_passCentury 56 = .ok (.if_icmp .ne 10, 3) := by decide +kernel
theorem dX9_passCentury_59 : decode cX9_passCentury 59 = .ok (.aload_n 0, 1) := by decide +kernel
theorem dX9_passCentury_60 : decode cX9_passCentury 60 = .ok (.getfield 59, 3) := by decide +kernel
theorem dX9_passCentury_63 : decode cX9_passCentury 63 = .ok (.goto 14, 3) := by decide +kernel
theorem dX9_passCentury_66 : decode cX9_passCentury 66 = .ok (.aload_n 0, 1) := by decide +kernel
theorem dX9_passCentury_67 : decode cX9_passCentury 67 = .ok (.getfield 9, 3) := by decide +kernel
theorem dX9_passCentury_70 : decode cX9_passCentury 70 = .ok (.aload_n 0, 1) := by decide +kernel
theorem dX9_passCentury_71 : decode cX9_passCentury 71 = .ok (.getfield 32, 3) := by decide +kernel
theorem dX9_passCentury_74 : decode cX9_passCentury 74 = .ok (.invokevirtual 79, 3) := by decide +kernel
theorem dX9_passCentury_77 : decode cX9_passCentury 77 = .ok (.putfield 32, 3) := by decide +kernel
theorem dX9_passCentury_80 : decode cX9_passCentury 80 = .ok (.iinc 3 1, 3) := by decide +kernel
theorem dX9_passCentury_83 : decode cX9_passCentury 83 = .ok (.goto (-41), 3) := by decide +kernel
theorem dX9_passCentury_86 : decode cX9_passCentury 86 = .ok (.aload_n 0, 1) := by decide +kernel
theorem dX9_passCentury_87 : decode cX9_passCentury 87 = .ok (.aload_n 0, 1) := by decide +kernel
theorem dX9_passCentury_88 : decode cX9_passCentury 88 = .ok (.getfield 47, 3) := by decide +kernel
theorem dX9_passCentury_91 : decode cX9_passCentury 91 = .ok (.iconst 1, 1) := by decide +kernel
theorem dX9_passCentury_92 : decode cX9_passCentury 92 = .ok (.iadd, 1) := by decide +kernel
theorem dX9_passCentury_93 : decode cX9_passCentury 93 = .ok (.bipush 99, 2) := by decide +kernel
theorem dX9_passCentury_95 : decode cX9_passCentury 95 = .ok (.invokestatic 82, 3) := by decide +kernel
theorem dX9_passCentury_98 : decode cX9_passCentury 98 = .ok (.putfield 47, 3) := by decide +kernel
theorem dX9_passCentury_101 : decode cX9_passCentury 101 = .ok (.return_, 1) := by decide +kernel
theorem dX10_init_0 : decode cX10_init 0 = .ok (.aload_n 0, 1) := by decide +kernel
theorem dX10_init_1 : decode cX10_init 1 = .ok (.invokespecial 3, 3) := by decide +kernel
theorem dX10_init_4 : decode cX10_init 4 = .ok (.aload_n 0, 1) := by decide +kernel
theorem dX10_init_5 : decode cX10_init 5 = .ok (.new 9, 3) := by decide +kernel
theorem dX10_init_8 : decode cX10_init 8 = .ok (.dup, 1) := by decide +kernel
theorem dX10_init_9 : decode cX10_init 9 = .ok (.invokespecial 11, 3) := by decide +kernel
theorem dX10_init_12 : decode cX10_init 12 = .ok (.putfield 12, 3) := by decide +kernel
theorem dX10_init_15 : decode cX10_init 15 = .ok (.aload_n 0, 1) := by decide +kernel
theorem dX10_init_16 : decode cX10_init 16 = .ok (.new 16, 3) := by decide +kernel
theorem dX10_init_19 : decode cX10_init 19 = .ok (.dup, 1) := by decide +kernel
theorem dX10_init_20 : decode cX10_init 20 = .ok (.invokespecial 18, 3) := by decide +kernel
theorem dX10_init_23 : decode cX10_init 23 = .ok (.putfield 19, 3) := by decide +kernel
theorem dX10_init_26 : decode cX10_init 26 = .ok (.aload_n 0, 1) := by decide +kernel
theorem dX10_init_27 : decode cX10_init 27 = .ok (.bipush 120, 2) := by decide +kernel
theorem dX10_init_29 : decode cX10_init 29 = .ok (.newarray .int, 2) := by decide +kernel
theorem dX10_init_31 : decode cX10_init 31 = .ok (.putfield 23, 3) := by decide +kernel
theorem dX10_init_34 : decode cX10_init 34 = .ok (.aload_n 0, 1) := by decide +kernel
theorem dX10_init_35 : decode cX10_init 35 = .ok (.new 27, 3) := by decide +kernel
theorem dX10_init_38 : decode cX10_init 38 = .ok (.dup, 1) := by decide +kernel
theorem dX10_init_39 : decode cX10_init 39 = .ok (.aload_n 0, 1) := by decide +kernel
theorem dX10_init_40 : decode cX10_init 40 = .ok (.getfield 12, 3) := by decide +kernel
theorem dX10_init_43 : decode cX10_init 43 = .ok (.aload_n 0, 1) := by decide +kernel
theorem dX10_init_44 : decode cX10_init 44 = .ok (.getfield 19, 3) := by decide +kernel
theorem dX10_init_47 : decode cX10_init 47 = .ok (.invokespecial 29, 3) := by decide +kernel
theorem dX10_init_50 : decode cX10_init 50 = .ok (.putfield 32, 3) := by decide +kernel
theorem dX10_init_53 : decode cX10_init 53 = .ok (.aload_n 0, 1) := by decide +kernel
theorem dX10_init_54 : decode cX10_init 54 = .ok (.new 36, 3) := by decide +kernel
theorem dX10_init_57 : decode cX10_init 57 = .ok (.dup, 1) := by decide +kernel
theorem dX10_init_58 : decode cX10_init 58 = .ok (.aload_n 0, 1) := by decide +kernel
theorem dX10_init_59 : decode cX10_init 59 = .ok (.getfield 12, 3) := by decide +kernel
theorem dX10_init_62 : decode cX10_init 62 = .ok (.aload_n 0, 1) := by decide +kernel
theorem dX10_init_63 : decode cX10_init 63 = .ok (.getfield 19, 3) := by decide +kernel
theorem dX10_init_66 : decode cX10_init 66 = .ok (.invokespecial 38, 3) := by decide +kernel
theorem dX10_init_69 : decode cX10_init 69 = .ok (.putfield 39, 3) := by decide +kernel
theorem dX10_init_72 : decode cX10_init 72 = .ok (.aload_n 0, 1) := by decide +kernel
theorem dX10_init_73 : decode cX10_init 73 = .ok (.new 43, 3) := by decide +kernel
theorem dX10_init_76 : decode cX10_init 76 = .ok (.dup, 1) := by decide +kernel
theorem dX10_init_77 : decode cX10_init 77 = .ok (.aload_n 0, 1) := by decide +kernel
theorem dX10_init_78 : decode cX10_init 78 = .ok (.getfield 12, 3) := by decide +kernel
theorem dX10_init_81 : decode cX10_init 81 = .ok (.aload_n 0, 1) := by decide +kernel
theorem dX10_init_82 : decode cX10_init 82 = .ok (.getfield 19, 3) := by decide +kernel
theorem dX10_init_85 : decode cX10_init 85 = .ok (.invokespecial 45, 3) := by decide +kernel
theorem dX10_init_88 : decode cX10_init 88 = .ok (.putfield 46, 3) := by decide +kernel
theorem dX10_init_91 : decode cX10_init 91 = .ok (.aload_n 0, 1) := by decide +kernel
theorem dX10_init_92 : decode cX10_init 92 = .ok (.new 50, 3) := by decide +kernel
theorem dX10_init_95 : decode cX10_init 95 = .ok (.dup, 1) := by decide +kernel
theorem dX10_init_96 : decode cX10_init 96 = .ok (.aload_n 0, 1) := by decide +kernel
theorem dX10_init_97 : decode cX10_init 97 = .ok (.getfield 12, 3) := by decide +kernel
theorem dX10_init_100 : decode cX10_init 100 = .ok (.aload_n 0, 1) := by decide +kernel
theorem dX10_init_101 : decode cX10_init 101 = .ok (.getfield 19, 3) := by decide +kernel
theorem dX10_init_104 : decode cX10_init 104 = .ok (.invokespecial 52, 3) := by decide +kernel
theorem dX10_init_107 : decode cX10_init 107 = .ok (.putfield 53, 3) := by decide +kernel
theorem dX10_init_110 : decode cX10_init 110 = .ok (.aload_n 0, 1) := by decide +kernel
theorem dX10_init_111 : decode cX10_init 111 = .ok (.new 57, 3) := by decide +kernel
theorem dX10_init_114 : decode cX10_init 114 = .ok (.dup, 1) := by decide +kernel
theorem dX10_init_115 : decode cX10_init 115 = .ok (.aload_n 0, 1) := by decide +kernel
theorem dX10_init_116 : decode cX10_init 116 = .ok (.getfield 12, 3) := by decide +kernel
theorem dX10_init_119 : decode cX10_init 119 = .ok (.invokespecial 59, 3) := by decide +kernel
theorem dX10_init_122 : decode cX10_init 122 = .ok (.putfield 62, 3) := by decide +kernel
theorem dX10_init_125 : decode cX10_init 125 = .ok (.aload_n 0, 1) := by decide +kernel
theorem dX10_init_126 : decode cX10_init 126 = .ok (.new 66, 3) := by decide +kernel
theorem dX10_init_129 : decode cX10_init 129 = .ok (.dup, 1) := by decide +kernel
theorem dX10_init_130 : decode cX10_init 130 = .ok (.invokespecial 68, 3) := by decide +kernel
theorem dX10_init_133 : decode cX10_init 133 = .ok (.putfield 69, 3) := by decide +kernel
theorem dX10_init_136 : decode cX10_init 136 = .ok (.aload_n 0, 1) := by decide +kernel
theorem dX10_init_137 : decode cX10_init 137 = .ok (.bipush 6, 2) := by decide +kernel
theorem dX10_init_139 : decode cX10_init 139 = .ok (.anewarray 73, 3) := by decide +kernel
theorem dX10_init_142 : decode cX10_init 142 = .ok (.putfield 75, 3) := by decide +kernel
theorem dX10_init_145 : decode cX10_init 145 = .ok (.iconst 0, 1) := by decide +kernel
theorem dX10_init_146 : decode cX10_init 146 = .ok (.istore_n 1, 1) := by decide +kernel
theorem dX10_init_147 : decode cX10_init 147 = .ok (.iload_n 1, 1) := by decide +kernel
theorem dX10_init_148 : decode cX10_init 148 = .ok (.bipush 6, 2) := by decide +kernel
theorem dX10_init_150 : decode cX10_init 150 = .ok (.if_icmp .ge 22, 3) := by decide +kernel
theorem dX10_init_153 : decode cX10_init 153 = .ok (.aload_n 0, 1) := by decide +kernel
theorem dX10_init_154 : decode cX10_init 154 = .ok (.getfield 75, 3) := by decide +kernel
theorem dX10_init_157 : decode cX10_init 157 = .ok (.iload_n 1, 1) := by decide +kernel
theorem dX10_init_158 : decode cX10_init 158 = .ok (.new 73, 3) := by decide +kernel
theorem dX10_init_161 : decode cX10_init 161 = .ok (.dup, 1) := by decide +kernel
theorem dX10_init_162 : decode cX10_init 162 = .ok (.invokespecial 79, 3) := by decide +kernel
theorem dX10_init_165 : decode cX10_init 165 = .ok (.aastore, 1) := by decide +kernel
theorem dX10_init_166 : decode cX10_init 166 = .ok (.iinc 1 1, 3) := by decide +kernel
theorem dX10_init_169 : decode cX10_init 169 = .ok (.goto (-22), 3) := by decide +kernel
theorem dX10_init_172 : decode cX10_init 172 = .ok (.return_, 1) := by decide +kernel
theorem dX10_block_0 : decode cX10_block 0 = .ok (.iload_n 1, 1) := by decide +kernel
theorem dX10_block_1 : decode cX10_block 1 = .ok (.iconst 0, 1) := by decide +kernel
theorem dX10_block_2 : decode cX10_block 2 = .ok (.bipush 9, 2) := by decide +kernel
theorem dX10_block_4 : decode cX10_block 4 = .ok (.invokestatic 80, 3) := by decide +kernel
theorem dX10_block_7 : decode cX10_block 7 = .ok (.ifCond .ne 5, 3) := by decide +kernel
theorem dX10_block_10 : decode cX10_block 10 = .ok (.iconst (-1), 1) := by decide +kernel
theorem dX10_block_11 : decode cX10_block 11 = .ok (.ireturn, 1) := by decide +kernel
theorem dX10_block_12 : decode cX10_block 12 = .ok (.aload_n 0, 1) := by decide +kernel
theorem dX10_block_13 : decode cX10_block 13 = .ok (.getfield 12, 3) := by decide +kernel
theorem dX10_block_16 : decode cX10_block 16 = .ok (.invokevirtual 84, 3) := by decide +kernel
theorem dX10_block_19 : decode cX10_block 19 = .ok (.ifCond .eq 6, 3) := by decide +kernel
theorem dX10_block_22 : decode cX10_block 22 = .ok (.bipush (-3), 2) := by decide +kernel
theorem dX10_block_24 : decode cX10_block 24 = .ok (.ireturn, 1) := by decide +kernel
theorem dX10_block_25 : decode cX10_block 25 = .ok (.aload_n 0, 1) := by decide +kernel
theorem dX10_block_26 : decode cX10_block 26 = .ok (.getfield 12, 3) := by decide +kernel
theorem dX10_block_29 : decode cX10_block 29 = .ok (.iload_n 1, 1) := by decide +kernel
theorem dX10_block_30 : decode cX10_block 30 = .ok (.iconst 0, 1) := by decide +kernel
theorem dX10_block_31 : decode cX10_block 31 = .ok (.iconst 3, 1) := by decide +kernel
theorem dX10_block_32 : decode cX10_block 32 = .ok (.invokevirtual 88, 3) := by decide +kernel
theorem dX10_block_35 : decode cX10_block 35 = .ok (.ireturn, 1) := by decide +kernel
theorem dX10_blocks_0 : decode cX10_blocks 0 = .ok (.iload_n 1, 1) := by decide +kernel
theorem dX10_blocks_1 : decode cX10_blocks 1 = .ok (.invokestatic 92, 3) := by decide +kernel
theorem dX10_blocks_4 : decode cX10_blocks 4 = .ok (.ifCond .eq 13, 3) := by decide +kernel
theorem dX10_blocks_7 : decode cX10_blocks 7 = .ok (.iload_n 3, 1) := by decide +kernel
theorem dX10_blocks_8 : decode cX10_blocks 8 = .ok (.iconst 1, 1) := by decide +kernel
theorem dX10_blocks_9 : decode cX10_blocks 9 = .ok (.bipush 10, 2) := by decide +kernel
theorem dX10_blocks_11 : decode cX10_blocks 11 = .ok (.invokestatic 80, 3) := by decide +kernel
theorem dX10_blocks_14 : decode cX10_blocks 14 = .ok (.ifCond .ne 5, 3) := by decide +kernel
theorem dX10_blocks_17 : decode cX10_blocks 17 = .ok (.iconst (-1), 1) := by decide +kernel
theorem dX10_blocks_18 : decode cX10_blocks 18 = .ok (.ireturn, 1) := by decide +kernel
theorem dX10_blocks_19 : decode cX10_blocks 19 = .ok (.aload_n 0, 1) := by decide +kernel
theorem dX10_blocks_20 : decode cX10_blocks 20 = .ok (.getfield 75, 3) := by decide +kernel
theorem dX10_blocks_23 : decode cX10_blocks 23 = .ok (.iload_n 1, 1) := by decide +kernel
theorem dX10_blocks_24 : decode cX10_blocks 24 = .ok (.aaload, 1) := by decide +kernel
theorem dX10_blocks_25 : decode cX10_blocks 25 = .ok (.astore 4, 2) := by decide +kernel
theorem dX10_blocks_27 : decode cX10_blocks 27 = .ok (.aload 4, 2) := by decide +kernel
theorem dX10_blocks_29 : decode cX10_blocks 29 = .ok (.invokevirtual 96, 3) := by decide +kernel
theorem dX10_blocks_32 : decode cX10_blocks 32 = .ok (.ifCond .eq 5, 3) := by decide +kernel
theorem dX10_blocks_35 : decode cX10_blocks 35 = .ok (.iconst 0, 1) := by decide +kernel
theorem dX10_blocks_36 : decode cX10_blocks 36 = .ok (.ireturn, 1) := by decide +kernel
theorem dX10_blocks_37 : decode cX10_blocks 37 = .ok (.aload 4, 2) := by decide +kernel
theorem dX10_blocks_39 : decode cX10_blocks 39 = .ok (.invokevirtual 99, 3) := by decide +kernel
theorem dX10_blocks_42 : decode cX10_blocks 42 = .ok (.ifCond .ne 6, 3) := by decide +kernel
theorem dX10_blocks_45 : decode cX10_blocks 45 = .ok (.bipush (-12), 2) := by decide +kernel
theorem dX10_blocks_47 : decode cX10_blocks 47 = .ok (.ireturn, 1) := by decide +kernel
theorem dX10_blocks_48 : decode cX10_blocks 48 = .ok (.iconst 0, 1) := by decide +kernel
theorem dX10_blocks_49 : decode cX10_blocks 49 = .ok (.istore 5, 2) := by decide +kernel
theorem dX10_blocks_51 : decode cX10_blocks 51 = .ok (.iload 5, 2) := by decide +kernel
theorem dX10_blocks_53 : decode cX10_blocks 53 = .ok (.iload_n 3, 1) := by decide +kernel
theorem dX10_blocks_54 : decode cX10_blocks 54 = .ok (.if_icmp .ge 24, 3) := by decide +kernel
theorem dX10_blocks_57 : decode cX10_blocks 57 = .ok (.aload_n 0, 1) := by decide +kernel
theorem dX10_blocks_58 : decode cX10_blocks 58 = .ok (.aload 4, 2) := by decide +kernel
theorem dX10_blocks_60 : decode cX10_blocks 60 = .ok (.iload_n 2, 1) := by decide +kernel
theorem dX10_blocks_61 : decode cX10_blocks 61 = .ok (.iconst 3, 1) := by decide +kernel
theorem dX10_blocks_62 : decode cX10_blocks 62 = .ok (.iload 5, 2) := by decide +kernel
theorem dX10_blocks_64 : decode cX10_blocks 64 = .ok (.imul, 1) := by decide +kernel
theorem dX10_blocks_65 : decode cX10_blocks 65 = .ok (.iadd, 1) := by decide +kernel
theorem dX10_blocks_66 : decode cX10_blocks 66 = .ok (.invokevirtual 102, 3) := by decide +kernel
theorem dX10_blocks_69 : decode cX10_blocks 69 = .ok (.ifCond .eq 9, 3) := by decide +kernel
theorem dX10_blocks_72 : decode cX10_blocks 72 = .ok (.iinc 5 1, 3) := by decide +kernel
theorem dX10_blocks_75 : decode cX10_blocks 75 = .ok (.goto (-24), 3) := by decide +kernel
theorem dX10_blocks_78 : decode cX10_blocks 78 = .ok (.iload 5, 2) := by decide +kernel
theorem dX10_blocks_80 : decode cX10_blocks 80 = .ok (.ireturn, 1) := by decide +kernel
theorem dX10_cameFrom_0 : decode cX10_cameFrom 0 = .ok (.aload_n 0, 1) := by decide +kernel
theorem dX10_cameFrom_1 : decode cX10_cameFrom 1 = .ok (.getfield 12, 3) := by decide +kernel
theorem dX10_cameFrom_4 : decode cX10_cameFrom 4 = .ok (.invokevirtual 84, 3) := by decide +kernel
theorem dX10_cameFrom_7 : decode cX10_cameFrom 7 = .ok (.ifCond .ne 12, 3) := by decide +kernel
theorem dX10_cameFrom_10 : decode cX10_cameFrom 10 = .ok (.aload_n 1, 1) := by decide +kernel
theorem dX10_cameFrom_11 : decode cX10_cameFrom 11 = .ok (.iload_n 2, 1) := by decide +kernel
theorem dX10_cameFrom_12 : decode cX10_cameFrom 12 = .ok (.iconst 3, 1) := by decide +kernel
theorem dX10_cameFrom_13 : decode cX10_cameFrom 13 = .ok (.invokevirtual 106, 3) := by decide +kernel
theorem dX10_cameFrom_16 : decode cX10_cameFrom 16 = .ok (.ifCond .ne 5, 3) := by decide +kernel
theorem dX10_cameFrom_19 : decode cX10_cameFrom 19 = .ok (.iconst 0, 1) := by decide +kernel
theorem dX10_cameFrom_20 : decode cX10_cameFrom 20 = .ok (.ireturn, 1) := by decide +kernel
theorem dX10_cameFrom_21 : decode cX10_cameFrom 21 = .ok (.aload_n 1, 1) := by decide +kernel
theorem dX10_cameFrom_22 : decode cX10_cameFrom 22 = .ok (.iload_n 2, 1) := by decide +kernel
theorem dX10_cameFrom_23 : decode cX10_cameFrom 23 = .ok (.invokevirtual 110, 3) := by decide +kernel
theorem dX10_cameFrom_26 : decode cX10_cameFrom 26 = .ok (.l2i, 1) := by decide +kernel
theorem dX10_cameFrom_27 : decode cX10_cameFrom 27 = .ok (.istore_n 3, 1) := by decide +kernel
theorem dX10_cameFrom_28 : decode cX10_cameFrom 28 = .ok (.aload_n 1, 1) := by decide +kernel
theorem dX10_cameFrom_29 : decode cX10_cameFrom 29 = .ok (.iload_n 2, 1) := by decide +kernel
theorem dX10_cameFrom_30 : decode cX10_cameFrom 30 = .ok (.iconst 1, 1) := by decide +kernel
theorem dX10_cameFrom_31 : decode cX10_cameFrom 31 = .ok (.iadd, 1) := by decide +kernel
theorem dX10_cameFrom_32 : decode cX10_cameFrom 32 = .ok (.invokevirtual 110, 3) := by decide +kernel
theorem dX10_cameFrom_35 : decode cX10_cameFrom 35 = .ok (.l2i, 1) := by decide +kernel
theorem dX10_cameFrom_36 : decode cX10_cameFrom 36 = .ok (.istore 4, 2) := by decide +kernel
theorem dX10_cameFrom_38 : decode cX10_cameFrom 38 = .ok (.aload_n 1, 1) := by decide +kernel
theorem dX10_cameFrom_39 : decode cX10_cameFrom 39 = .ok (.iload_n 2, 1) := by decide +kernel
theorem dX10_cameFrom_40 : decode cX10_cameFrom 40 = .ok (.iconst 2, 1) := by decide +kernel
theorem dX10_cameFrom_41 : decode cX10_cameFrom 41 = .ok (.iadd, 1) := by decide +kernel
theorem dX10_cameFrom_42 : decode cX10_cameFrom 42 = .ok (.invokevirtual 110, 3) := by decide +kernel
theorem dX10_cameFrom_45 : decode cX10_cameFrom 45 = .ok (.l2i, 1) := by decide +kernel
theorem dX10_cameFrom_46 : decode cX10_cameFrom 46 = .ok (.istore 5, 2) := by decide +kernel
theorem dX10_cameFrom_48 : decode cX10_cameFrom 48 = .ok (.iconst 0, 1) := by decide +kernel
theorem dX10_cameFrom_49 : decode cX10_cameFrom 49 = .ok (.iload_n 3, 1) := by decide +kernel
theorem dX10_cameFrom_50 : decode cX10_cameFrom 50 = .ok (.invokestatic 114, 3) := by decide +kernel
theorem dX10_cameFrom_53 : decode cX10_cameFrom 53 = .ok (.ifCond .eq 21, 3) := by decide +kernel
theorem dX10_cameFrom_56 : decode cX10_cameFrom 56 = .ok (.iconst 1, 1) := by decide +kernel
theorem dX10_cameFrom_57 : decode cX10_cameFrom 57 = .ok (.iload 4, 2) := by decide +kernel
theorem dX10_cameFrom_59 : decode cX10_cameFrom 59 = .ok (.invokestatic 114, 3) := by decide +kernel
theorem dX10_cameFrom_62 : decode cX10_cameFrom 62 = .ok (.ifCond .eq 12, 3) := by decide +kernel
theorem dX10_cameFrom_65 : decode cX10_cameFrom 65 = .ok (.iconst 2, 1) := by decide +kernel
theorem dX10_cameFrom_66 : decode cX10_cameFrom 66 = .ok (.iload 5, 2) := by decide +kernel
theorem dX10_cameFrom_68 : decode cX10_cameFrom 68 = .ok (.invokestatic 114, 3) := by decide +kernel
theorem dX10_cameFrom_71 : decode cX10_cameFrom 71 = .ok (.ifCond .ne 5, 3) := by decide +kernel
theorem dX10_cameFrom_74 : decode cX10_cameFrom 74 = .ok (.iconst 0, 1) := by decide +kernel
theorem dX10_cameFrom_75 : decode cX10_cameFrom 75 = .ok (.ireturn, 1) := by decide +kernel
theorem dX10_cameFrom_76 : decode cX10_cameFrom 76 = .ok (.aload_n 0, 1) := by decide +kernel
theorem dX10_cameFrom_77 : decode cX10_cameFrom 77 = .ok (.getfield 12, 3) := by decide +kernel
theorem dX10_cameFrom_80 : decode cX10_cameFrom 80 = .ok (.iload_n 3, 1) := by decide +kernel
theorem dX10_cameFrom_81 : decode cX10_cameFrom 81 = .ok (.iload 4, 2) := by decide +kernel
theorem dX10_cameFrom_83 : decode cX10_cameFrom 83 = .ok (.iload 5, 2) := by decide +kernel
theorem dX10_cameFrom_85 : decode cX10_cameFrom 85 = .ok (.invokevirtual 88, 3) := by decide +kernel
theorem dX10_cameFrom_88 : decode cX10_cameFrom 88 = .ok (.pop, 1) := by decide +kernel
theorem dX10_cameFrom_89 : decode cX10_cameFrom 89 = .ok (.iconst 1, 1) := by decide +kernel
theorem dX10_cameFrom_90 : decode cX10_cameFrom 90 = .ok (.ireturn, 1) := by decide +kernel
theorem dX10_mend_0 : decode cX10_mend 0 = .ok (.aload_n 0, 1) := by decide +kernel
theorem dX10_mend_1 : decode cX10_mend 1 = .ok (.getfield 12, 3) := by decide +kernel
theorem dX10_mend_4 : decode cX10_mend 4 = .ok (.iload_n 1, 1) := by decide +kernel
theorem dX10_mend_5 : decode cX10_mend 5 = .ok (.iload_n 2, 1) := by decide +kernel
theorem dX10_mend_6 : decode cX10_mend 6 = .ok (.invokevirtual 117, 3) := by decide +kernel
theorem dX10_mend_9 : decode cX10_mend 9 = .ok (.ifCond .eq 11, 3) := by decide +kernel
theorem dX10_mend_12 : decode cX10_mend 12 = .ok (.iload_n 2, 1) := by decide +kernel
theorem dX10_mend_13 : decode cX10_mend 13 = .ok (.iload_n 3, 1) := by decide +kernel
theorem dX10_mend_14 : decode cX10_mend 14 = .ok (.invokestatic 114, 3) := by decide +kernel
theorem dX10_mend_17 : decode cX10_mend 17 = .ok (.ifCond .ne 5, 3) := by decide +kernel
theorem dX10_mend_20 : decode cX10_mend 20 = .ok (.iconst (-1), 1) := by decide +kernel
theorem dX10_mend_21 : decode cX10_mend 21 = .ok (.ireturn, 1) := by decide +kernel
theorem dX10_mend_22 : decode cX10_mend 22 = .ok (.aload_n 0, 1) := by decide +kernel
theorem dX10_mend_23 : decode cX10_mend 23 = .ok (.getfield 12, 3) := by decide +kernel
theorem dX10_mend_26 : decode cX10_mend 26 = .ok (.iload_n 1, 1) := by decide +kernel
theorem dX10_mend_27 : decode cX10_mend 27 = .ok (.iload_n 2, 1) := by decide +kernel
theorem dX10_mend_28 : decode cX10_mend 28 = .ok (.invokevirtual 120, 3) := by decide +kernel
theorem dX10_mend_31 : decode cX10_mend 31 = .ok (.istore 4, 2) := by decide +kernel
theorem dX10_mend_33 : decode cX10_mend 33 = .ok (.iload 4, 2) := by decide +kernel
theorem dX10_mend_35 : decode cX10_mend 35 = .ok (.iload_n 3, 1) := by decide +kernel
theorem dX10_mend_36 : decode cX10_mend 36 = .ok (.if_icmp .eq 25, 3) := by decide +kernel
theorem dX10_mend_39 : decode cX10_mend 39 = .ok (.aload_n 0, 1) := by decide +kernel
theorem dX10_mend_40 : decode cX10_mend 40 = .ok (.getfield 62, 3) := by decide +kernel
theorem dX10_mend_43 : decode cX10_mend 43 = .ok (.iload_n 1, 1) := by decide +kernel
theorem dX10_mend_44 : decode cX10_mend 44 = .ok (.iload_n 2, 1) := by decide +kernel
theorem dX10_mend_45 : decode cX10_mend 45 = .ok (.iload 4, 2) := by decide +kernel
theorem dX10_mend_47 : decode cX10_mend 47 = .ok (.iload_n 3, 1) := by decide +kernel
theorem dX10_mend_48 : decode cX10_mend 48 = .ok (.invokevirtual 124, 3) := by decide +kernel
theorem dX10_mend_51 : decode cX10_mend 51 = .ok (.aload_n 0, 1) := by decide +kernel
theorem dX10_mend_52 : decode cX10_mend 52 = .ok (.getfield 12, 3) := by decide +kernel
theorem dX10_mend_55 : decode cX10_mend 55 = .ok (.iload_n 1, 1) := by decide +kernel
theorem dX10_mend_56 : decode cX10_mend 56 = .ok (.iload_n 2, 1) := by decide +kernel
theorem dX10_mend_57 : decode cX10_mend 57 = .ok (.iload_n 3, 1) := by decide +kernel
theorem dX10_mend_58 : decode cX10_mend 58 = .ok (.invokevirtual 128, 3) := by decide +kernel
theorem dX10_mend_61 : decode cX10_mend 61 = .ok (.iload 4, 2) := by decide +kernel
theorem dX10_mend_63 : decode cX10_mend 63 = .ok (.ireturn, 1) := by decide +kernel
theorem dX10_of_0 : decode cX10_of 0 = .ok (.aload_n 0, 1) := by decide +kernel
theorem dX10_of_1 : decode cX10_of 1 = .ok (.getfield 12, 3) := by decide +kernel
theorem dX10_of_4 : decode cX10_of 4 = .ok (.iload_n 1, 1) := by decide +kernel
theorem dX10_of_5 : decode cX10_of 5 = .ok (.iload_n 2, 1) := by decide +kernel
theorem dX10_of_6 : decode cX10_of 6 = .ok (.invokevirtual 117, 3) := by decide +kernel
theorem dX10_of_9 : decode cX10_of 9 = .ok (.ifCond .eq 15, 3) := by decide +kernel
theorem dX10_of_12 : decode cX10_of 12 = .ok (.aload_n 0, 1) := by decide +kernel
theorem dX10_of_13 : decode cX10_of 13 = .ok (.getfield 12, 3) := by decide +kernel
theorem dX10_of_16 : decode cX10_of 16 = .ok (.iload_n 1, 1) := by decide +kernel
theorem dX10_of_17 : decode cX10_of 17 = .ok (.iload_n 2, 1) := by decide +kernel
theorem dX10_of_18 : decode cX10_of 18 = .ok (.invokevirtual 120, 3) := by decide +kernel
theorem dX10_of_21 : decode cX10_of 21 = .ok (.goto 4, 3) := by decide +kernel
theorem dX10_of_24 : decode cX10_of 24 = .ok (.iconst (-1), 1) := by decide +kernel
theorem dX10_of_25 : decode cX10_of 25 = .ok (.ireturn, 1) := by decide +kernel
theorem dX10_feed_0 : decode cX10_feed 0 = .ok (.iload_n 1, 1) := by decide +kernel
theorem dX10_feed_1 : decode cX10_feed 1 = .ok (.iconst 0, 1) := by decide +kernel
theorem dX10_feed_2 : decode cX10_feed 2 = .ok (.sipush 255, 3) := by decide +kernel
theorem dX10_feed_5 : decode cX10_feed 5 = .ok (.invokestatic 80, 3) := by decide +kernel
theorem dX10_feed_8 : decode cX10_feed 8 = .ok (.ifCond .ne 5, 3) := by decide +kernel
theorem dX10_feed_11 : decode cX10_feed 11 = .ok (.iconst (-1), 1) := by decide +kernel
theorem dX10_feed_12 : decode cX10_feed 12 = .ok (.ireturn, 1) := by decide +kernel
theorem dX10_feed_13 : decode cX10_feed 13 = .ok (.aload_n 0, 1) := by decide +kernel
theorem dX10_feed_14 : decode cX10_feed 14 = .ok (.getfield 132, 3) := by decide +kernel
theorem dX10_feed_17 : decode cX10_feed 17 = .ok (.bipush 120, 2) := by decide +kernel
theorem dX10_feed_19 : decode cX10_feed 19 = .ok (.if_icmp .lt 6, 3) := by decide +kernel
theorem dX10_feed_22 : decode cX10_feed 22 = .ok (.bipush (-3), 2) := by decide +kernel
theorem dX10_feed_24 : decode cX10_feed 24 = .ok (.ireturn, 1) := by decide +kernel
theorem dX10_feed_25 : decode cX10_feed 25 = .ok (.aload_n 0, 1) := by decide +kernel
theorem dX10_feed_26 : decode cX10_feed 26 = .ok (.getfield 23, 3) := by decide +kernel
theorem dX10_feed_29 : decode cX10_feed 29 = .ok (.aload_n 0, 1) := by decide +kernel
theorem dX10_feed_30 : decode cX10_feed 30 = .ok (.getfield 132, 3) := by decide +kernel
theorem dX10_feed_33 : decode cX10_feed 33 = .ok (.iload_n 1, 1) := by decide +kernel
theorem dX10_feed_34 : decode cX10_feed 34 = .ok (.iastore, 1) := by decide +kernel
theorem dX10_feed_35 : decode cX10_feed 35 = .ok (.aload_n 0, 1) := by decide +kernel
theorem dX10_feed_36 : decode cX10_feed 36 = .ok (.dup, 1) := by decide +kernel
theorem dX10_feed_37 : decode cX10_feed 37 = .ok (.getfield 132, 3) := by decide +kernel
theorem dX10_feed_40 : decode cX10_feed 40 = .ok (.iconst 1, 1) := by decide +kernel
theorem dX10_feed_41 : decode cX10_feed 41 = .ok (.iadd, 1) := by decide +kernel
theorem dX10_feed_42 : decode cX10_feed 42 = .ok (.putfield 132, 3) := by decide +kernel
theorem dX10_feed_45 : decode cX10_feed 45 = .ok (.aload_n 0, 1) := by decide +kernel
theorem dX10_feed_46 : decode cX10_feed 46 = .ok (.getfield 132, 3) := by decide +kernel
theorem dX10_feed_49 : decode cX10_feed 49 = .ok (.ireturn, 1) := by decide +kernel
theorem dX10_law_0 : decode cX10_law 0 = .ok (.aload_n 0, 1) := by decide +kernel
theorem dX10_law_1 : decode cX10_law 1 = .ok (.getfield 19, 3) := by decide +kernel
theorem dX10_law_4 : decode cX10_law 4 = .ok (.aload_n 0, 1) := by decide +kernel
theorem dX10_law_5 : decode cX10_law 5 = .ok (.getfield 23, 3) := by decide +kernel
theorem dX10_law_8 : decode cX10_law 8 = .ok (.aload_n 0, 1) := by decide +kernel
theorem dX10_law_9 : decode cX10_law 9 = .ok (.getfield 132, 3) := by decide +kernel
theorem dX10_law_12 : decode cX10_law 12 = .ok (.invokevirtual 136, 3) := by decide +kernel
theorem dX10_law_15 : decode cX10_law 15 = .ok (.istore_n 1, 1) := by decide +kernel
theorem dX10_law_16 : decode cX10_law 16 = .ok (.aload_n 0, 1) := by decide +kernel
theorem dX10_law_17 : decode cX10_law 17 = .ok (.iconst 0, 1) := by decide +kernel
theorem dX10_law_18 : decode cX10_law 18 = .ok (.putfield 132, 3) := by decide +kernel
theorem dX10_law_21 : decode cX10_law 21 = .ok (.iload_n 1, 1) := by decide +kernel
theorem dX10_law_22 : decode cX10_law 22 = .ok (.ifCond .ge 7, 3) := by decide +kernel
theorem dX10_law_25 : decode cX10_law 25 = .ok (.iconst 1, 1) := by decide +kernel
theorem dX10_law_26 : decode cX10_law 26 = .ok (.goto 7, 3) := by decide +kernel
theorem dX10_law_29 : decode cX10_law 29 = .ok (.bipush (-100), 2) := by decide +kernel
theorem dX10_law_31 : decode cX10_law 31 = .ok (.iload_n 1, 1) := by decide +kernel
theorem dX10_law_32 : decode cX10_law 32 = .ok (.isub, 1) := by decide +kernel
theorem dX10_law_33 : decode cX10_law 33 = .ok (.ireturn, 1) := by decide +kernel
theorem dX10_goes_0 : decode cX10_goes 0 = .ok (.aload_n 0, 1) := by decide +kernel
theorem dX10_goes_1 : decode cX10_goes 1 = .ok (.getfield 12, 3) := by decide +kernel
theorem dX10_goes_4 : decode cX10_goes 4 = .ok (.iload_n 1, 1) := by decide +kernel
theorem dX10_goes_5 : decode cX10_goes 5 = .ok (.invokevirtual 140, 3) := by decide +kernel
theorem dX10_goes_8 : decode cX10_goes 8 = .ok (.ifCond .eq 14, 3) := by decide +kernel
theorem dX10_goes_11 : decode cX10_goes 11 = .ok (.aload_n 0, 1) := by decide +kernel
theorem dX10_goes_12 : decode cX10_goes 12 = .ok (.getfield 32, 3) := by decide +kernel
theorem dX10_goes_15 : decode cX10_goes 15 = .ok (.iload_n 1, 1) := by decide +kernel
theorem dX10_goes_16 : decode cX10_goes 16 = .ok (.invokevirtual 143, 3) := by decide +kernel
theorem dX10_goes_19 : decode cX10_goes 19 = .ok (.goto 4, 3) := by decide +kernel
theorem dX10_goes_22 : decode cX10_goes 22 = .ok (.iconst (-1), 1) := by decide +kernel
theorem dX10_goes_23 : decode cX10_goes 23 = .ok (.ireturn, 1) := by decide +kernel
theorem dX10_later_0 : decode cX10_later 0 = .ok (.iload_n 1, 1) := by decide +kernel
theorem dX10_later_1 : decode cX10_later 1 = .ok (.iconst 0, 1) := by decide +kernel
theorem dX10_later_2 : decode cX10_later 2 = .ok (.bipush 60, 2) := by decide +kernel
theorem dX10_later_4 : decode cX10_later 4 = .ok (.invokestatic 80, 3) := by decide +kernel
theorem dX10_later_7 : decode cX10_later 7 = .ok (.ifCond .eq 23, 3) := by decide +kernel
theorem dX10_later_10 : decode cX10_later 10 = .ok (.aload_n 0, 1) := by decide +kernel
theorem dX10_later_11 : decode cX10_later 11 = .ok (.getfield 12, 3) := by decide +kernel
theorem dX10_later_14 : decode cX10_later 14 = .ok (.iload_n 2, 1) := by decide +kernel
theorem dX10_later_15 : decode cX10_later 15 = .ok (.invokevirtual 140, 3) := by decide +kernel
theorem dX10_later_18 : decode cX10_later 18 = .ok (.ifCond .eq 12, 3) := by decide +kernel
theorem dX10_later_21 : decode cX10_later 21 = .ok (.iload_n 3, 1) := by decide +kernel
theorem dX10_later_22 : decode cX10_later 22 = .ok (.iconst 0, 1) := by decide +kernel
theorem dX10_later_23 : decode cX10_later 23 = .ok (.iconst 1, 1) := by decide +kernel
theorem dX10_later_24 : decode cX10_later 24 = .ok (.invokestatic 80, 3) := by decide +kernel
theorem dX10_later_27 : decode cX10_later 27 = .ok (.ifCond .ne 5, 3) := by decide +kernel
theorem dX10_later_30 : decode cX10_later 30 = .ok (.iconst (-1), 1) := by decide +kernel
theorem dX10_later_31 : decode cX10_later 31 = .ok (.ireturn, 1) := by decide +kernel
theorem dX10_later_32 : decode cX10_later 32 = .ok (.aload_n 0, 1) := by decide +kernel
theorem dX10_later_33 : decode cX10_later 33 = .ok (.getfield 32, 3) := by decide +kernel
theorem dX10_later_36 : decode cX10_later 36 = .ok (.iload_n 1, 1) := by decide +kernel
theorem dX10_later_37 : decode cX10_later 37 = .ok (.iload_n 2, 1) := by decide +kernel
theorem dX10_later_38 : decode cX10_later 38 = .ok (.invokevirtual 147, 3) := by decide +kernel
theorem dX10_later_41 : decode cX10_later 41 = .ok (.istore 4, 2) := by decide +kernel
theorem dX10_later_43 : decode cX10_later 43 = .ok (.iload_n 3, 1) := by decide +kernel
theorem dX10_later_44 : decode cX10_later 44 = .ok (.ifCond .ne 8, 3) := by decide +kernel
theorem dX10_later_47 : decode cX10_later 47 = .ok (.iload 4, 2) := by decide +kernel
theorem dX10_later_49 : decode cX10_later 49 = .ok (.goto 12, 3) := by decide +kernel
theorem dX10_later_52 : decode cX10_later 52 = .ok (.aload_n 0, 1) := by decide +kernel
theorem dX10_later_53 : decode cX10_later 53 = .ok (.getfield 12, 3) := by decide +kernel
theorem dX10_later_56 : decode cX10_later 56 = .ok (.iload 4, 2) := by decide +kernel
theorem dX10_later_58 : decode cX10_later 58 = .ok (.invokevirtual 150, 3) := by decide +kernel
theorem dX10_later_61 : decode cX10_later 61 = .ok (.ireturn, 1) := by decide +kernel
theorem dX10_wall_0 : decode cX10_wall 0 = .ok (.iload_n 1, 1) := by decide +kernel
theorem dX10_wall_1 : decode cX10_wall 1 = .ok (.iconst 0, 1) := by decide +kernel
theorem dX10_wall_2 : decode cX10_wall 2 = .ok (.bipush 60, 2) := by decide +kernel
theorem dX10_wall_4 : decode cX10_wall 4 = .ok (.invokestatic 80, 3) := by decide +kernel
theorem dX10_wall_7 : decode cX10_wall 7 = .ok (.ifCond .eq 12, 3) := by decide +kernel
theorem dX10_wall_10 : decode cX10_wall 10 = .ok (.iload_n 2, 1) := by decide +kernel
theorem dX10_wall_11 : decode cX10_wall 11 = .ok (.iconst 0, 1) := by decide +kernel
theorem dX10_wall_12 : decode cX10_wall 12 = .ok (.iconst 1, 1) := by decide +kernel
theorem dX10_wall_13 : decode cX10_wall 13 = .ok (.invokestatic 80, 3) := by decide +kernel
theorem dX10_wall_16 : decode cX10_wall 16 = .ok (.ifCond .ne 5, 3) := by decide +kernel
theorem dX10_wall_19 : decode cX10_wall 19 = .ok (.iconst (-1), 1) := by decide +kernel
theorem dX10_wall_20 : decode cX10_wall 20 = .ok (.ireturn, 1) := by decide +kernel
theorem dX10_wall_21 : decode cX10_wall 21 = .ok (.aload_n 0, 1) := by decide +kernel
theorem dX10_wall_22 : decode cX10_wall 22 = .ok (.getfield 32, 3) := by decide +kernel
theorem dX10_wall_25 : decode cX10_wall 25 = .ok (.iload_n 1, 1) := by decide +kernel
theorem dX10_wall_26 : decode cX10_wall 26 = .ok (.invokevirtual 153, 3) := by decide +kernel
theorem dX10_wall_29 : decode cX10_wall 29 = .ok (.istore_n 3, 1) := by decide +kernel
theorem dX10_wall_30 : decode cX10_wall 30 = .ok (.iload_n 2, 1) := by decide +kernel
theorem dX10_wall_31 : decode cX10_wall 31 = .ok (.ifCond .ne 14, 3) := by decide +kernel
theorem dX10_wall_34 : decode cX10_wall 34 = .ok (.aload_n 0, 1) := by decide +kernel
theorem dX10_wall_35 : decode cX10_wall 35 = .ok (.getfield 12, 3) := by decide +kernel
theorem dX10_wall_38 : decode cX10_wall 38 = .ok (.iload_n 3, 1) := by decide +kernel
theorem dX10_wall_39 : decode cX10_wall 39 = .ok (.invokevirtual 156, 3) := by decide +kernel
theorem dX10_wall_42 : decode cX10_wall 42 = .ok (.goto 7, 3) := by decide +kernel
theorem dX10_wall_45 : decode cX10_wall 45 = .ok (.iload_n 3, 1) := by decide +kernel
theorem dX10_wall_46 : decode cX10_wall 46 = .ok (.invokestatic 159, 3) := by decide +kernel
theorem dX10_wall_49 : decode cX10_wall 49 = .ok (.ireturn, 1) := by decide +kernel
theorem dX10_when_0 : decode cX10_when 0 = .ok (.aload_n 0, 1) := by decide +kernel
theorem dX10_when_1 : decode cX10_when 1 = .ok (.getfield 12, 3) := by decide +kernel
theorem dX10_when_4 : decode cX10_when 4 = .ok (.iload_n 1, 1) := by decide +kernel
theorem dX10_when_5 : decode cX10_when 5 = .ok (.invokevirtual 140, 3) := by decide +kernel
theorem dX10_when_8 : decode cX10_when 8 = .ok (.ifCond .eq 10, 3) := by decide +kernel
theorem dX10_when_11 : decode cX10_when 11 = .ok (.iload_n 2, 1) := by decide +kernel
theorem dX10_when_12 : decode cX10_when 12 = .ok (.invokestatic 164, 3) := by decide +kernel
theorem dX10_when_15 : decode cX10_when 15 = .ok (.ifCond .ne 5, 3) := by decide +kernel
theorem dX10_when_18 : decode cX10_when 18 = .ok (.iconst (-1), 1) := by decide +kernel
theorem dX10_when_19 : decode cX10_when 19 = .ok (.ireturn, 1) := by decide +kernel
theorem dX10_when_20 : decode cX10_when 20 = .ok (.aload_n 0, 1) := by decide +kernel
theorem dX10_when_21 : decode cX10_when 21 = .ok (.getfield 32, 3) := by decide +kernel
theorem dX10_when_24 : decode cX10_when 24 = .ok (.iload_n 1, 1) := by decide +kernel
theorem dX10_when_25 : decode cX10_when 25 = .ok (.iload_n 2, 1) := by decide +kernel
theorem dX10_when_26 : decode cX10_when 26 = .ok (.invokevirtual 167, 3) := by decide +kernel
theorem dX10_when_29 : decode cX10_when 29 = .ok (.ireturn, 1) := by decide +kernel
theorem dX10_meet_0 : decode cX10_meet 0 = .ok (.iload_n 1, 1) := by decide +kernel
theorem dX10_meet_1 : decode cX10_meet 1 = .ok (.bipush 10, 2) := by decide +kernel
theorem dX10_meet_3 : decode cX10_meet 3 = .ok (.idiv, 1) := by decide +kernel
theorem dX10_meet_4 : decode cX10_meet 4 = .ok (.istore_n 2, 1) := by decide +kernel
theorem dX10_meet_5 : decode cX10_meet 5 = .ok (.iload_n 1, 1) := by decide +kernel
theorem dX10_meet_6 : decode cX10_meet 6 = .ok (.bipush 10, 2) := by decide +kernel
theorem dX10_meet_8 : decode cX10_meet 8 = .ok (.irem, 1) := by decide +kernel
theorem dX10_meet_9 : decode cX10_meet 9 = .ok (.istore_n 3, 1) := by decide +kernel
theorem dX10_meet_10 : decode cX10_meet 10 = .ok (.aload_n 0, 1) := by decide +kernel
theorem dX10_meet_11 : decode cX10_meet 11 = .ok (.getfield 12, 3) := by decide +kernel
theorem dX10_meet_14 : decode cX10_meet 14 = .ok (.iload_n 2, 1) := by decide +kernel
theorem dX10_meet_15 : decode cX10_meet 15 = .ok (.invokevirtual 140, 3) := by decide +kernel
theorem dX10_meet_18 : decode cX10_meet 18 = .ok (.ifCond .eq 19, 3) := by decide +kernel
theorem dX10_meet_21 : decode cX10_meet 21 = .ok (.aload_n 0, 1) := by decide +kernel
theorem dX10_meet_22 : decode cX10_meet 22 = .ok (.getfield 12, 3) := by decide +kernel
theorem dX10_meet_25 : decode cX10_meet 25 = .ok (.iload_n 3, 1) := by decide +kernel
theorem dX10_meet_26 : decode cX10_meet 26 = .ok (.invokevirtual 140, 3) := by decide +kernel
theorem dX10_meet_29 : decode cX10_meet 29 = .ok (.ifCond .eq 8, 3) := by decide +kernel
theorem dX10_meet_32 : decode cX10_meet 32 = .ok (.iload_n 2, 1) := by decide +kernel
theorem dX10_meet_33 : decode cX10_meet 33 = .ok (.iload_n 3, 1) := by decide +kernel
theorem dX10_meet_34 : decode cX10_meet 34 = .ok (.if_icmp .ne 5, 3) := by decide +kernel
theorem dX10_meet_37 : decode cX10_meet 37 = .ok (.iconst (-1), 1) := by decide +kernel
theorem dX10_meet_38 : decode cX10_meet 38 = .ok (.ireturn, 1) := by decide +kernel
theorem dX10_meet_39 : decode cX10_meet 39 = .ok (.aload_n 0, 1) := by decide +kernel
theorem dX10_meet_40 : decode cX10_meet 40 = .ok (.getfield 32, 3) := by decide +kernel
theorem dX10_meet_43 : decode cX10_meet 43 = .ok (.iload_n 2, 1) := by decide +kernel
theorem dX10_meet_44 : decode cX10_meet 44 = .ok (.iload_n 3, 1) := by decide +kernel
theorem dX10_meet_45 : decode cX10_meet 45 = .ok (.invokevirtual 170, 3) := by decide +kernel
theorem dX10_meet_48 : decode cX10_meet 48 = .ok (.ireturn, 1) := by decide +kernel
theorem dX10_steps_0 : decode cX10_steps 0 = .ok (.iload_n 1, 1) := by decide +kernel
theorem dX10_steps_1 : decode cX10_steps 1 = .ok (.invokestatic 164, 3) := by decide +kernel
theorem dX10_steps_4 : decode cX10_steps 4 = .ok (.ifCond .eq 10, 3) := by decide +kernel
theorem dX10_steps_7 : decode cX10_steps 7 = .ok (.iload_n 2, 1) := by decide +kernel
theorem dX10_steps_8 : decode cX10_steps 8 = .ok (.invokestatic 164, 3) := by decide +kernel
theorem dX10_steps_11 : decode cX10_steps 11 = .ok (.ifCond .ne 5, 3) := by decide +kernel
theorem dX10_steps_14 : decode cX10_steps 14 = .ok (.iconst (-1), 1) := by decide +kernel
theorem dX10_steps_15 : decode cX10_steps 15 = .ok (.ireturn, 1) := by decide +kernel
theorem dX10_steps_16 : decode cX10_steps 16 = .ok (.aload_n 0, 1) := by decide +kernel
theorem dX10_steps_17 : decode cX10_steps 17 = .ok (.getfield 12, 3) := by decide +kernel
theorem dX10_steps_20 : decode cX10_steps 20 = .ok (.iload_n 1, 1) := by decide +kernel
theorem dX10_steps_21 : decode cX10_steps 21 = .ok (.iload_n 2, 1) := by decide +kernel
theorem dX10_steps_22 : decode cX10_steps 22 = .ok (.invokevirtual 173, 3) := by decide +kernel
theorem dX10_steps_25 : decode cX10_steps 25 = .ok (.ireturn, 1) := by decide +kernel
theorem dX10_net_0 : decode cX10_net 0 = .ok (.iload_n 1, 1) := by decide +kernel
theorem dX10_net_1 : decode cX10_net 1 = .ok (.invokestatic 164, 3) := by decide +kernel
theorem dX10_net_4 : decode cX10_net 4 = .ok (.ifCond .eq 12, 3) := by decide +kernel
theorem dX10_net_7 : decode cX10_net 7 = .ok (.iload_n 2, 1) := by decide +kernel
theorem dX10_net_8 : decode cX10_net 8 = .ok (.iconst 0, 1) := by decide +kernel
theorem dX10_net_9 : decode cX10_net 9 = .ok (.iconst 2, 1) := by decide +kernel
theorem dX10_net_10 : decode cX10_net 10 = .ok (.invokestatic 80, 3) := by decide +kernel
theorem dX10_net_13 : decode cX10_net 13 = .ok (.ifCond .ne 5, 3) := by decide +kernel
theorem dX10_net_16 : decode cX10_net 16 = .ok (.iconst (-1), 1) := by decide +kernel
theorem dX10_net_17 : decode cX10_net 17 = .ok (.ireturn, 1) := by decide +kernel
theorem dX10_net_18 : decode cX10_net 18 = .ok (.iload_n 2, 1) := by decide +kernel
theorem dX10_net_19 : decode cX10_net 19 = .ok (.ifCond .ne 12, 3) := by decide +kernel
theorem dX10_net_22 : decode cX10_net 22 = .ok (.aload_n 0, 1) := by decide +kernel
theorem dX10_net_23 : decode cX10_net 23 = .ok (.getfield 12, 3) := by decide +kernel
theorem dX10_net_26 : decode cX10_net 26 = .ok (.iload_n 1, 1) := by decide +kernel
theorem dX10_net_27 : decode cX10_net 27 = .ok (.invokevirtual 176, 3) := by decide +kernel
theorem dX10_net_30 : decode cX10_net 30 = .ok (.ireturn, 1) := by decide +kernel
theorem dX10_net_31 : decode cX10_net 31 = .ok (.iload_n 2, 1) := by decide +kernel
theorem dX10_net_32 : decode cX10_net 32 = .ok (.iconst 1, 1) := by decide +kernel
theorem dX10_net_33 : decode cX10_net 33 = .ok (.if_icmp .ne 14, 3) := by decide +kernel
theorem dX10_net_36 : decode cX10_net 36 = .ok (.aload_n 0, 1) := by decide +kernel
theorem dX10_net_37 : decode cX10_net 37 = .ok (.getfield 12, 3) := by decide +kernel
theorem dX10_net_40 : decode cX10_net 40 = .ok (.iload_n 1, 1) := by decide +kernel
theorem dX10_net_41 : decode cX10_net 41 = .ok (.invokevirtual 179, 3) := by decide +kernel
theorem dX10_net_44 : decode cX10_net 44 = .ok (.goto 11, 3) := by decide +kernel
theorem dX10_net_47 : decode cX10_net 47 = .ok (.aload_n 0, 1) := by decide +kernel
theorem dX10_net_48 : decode cX10_net 48 = .ok (.getfield 12, 3) := by decide +kernel
theorem dX10_net_51 : decode cX10_net 51 = .ok (.iload_n 1, 1) := by decide +kernel
theorem dX10_net_52 : decode cX10_net 52 = .ok (.invokevirtual 182, 3) := by decide +kernel
theorem dX10_net_55 : decode cX10_net 55 = .ok (.ireturn, 1) := by decide +kernel
theorem dX10_fewest_0 : decode cX10_fewest 0 = .ok (.iload_n 1, 1) := by decide +kernel
theorem dX10_fewest_1 : decode cX10_fewest 1 = .ok (.iconst 0, 1) := by decide +kernel
theorem dX10_fewest_2 : decode cX10_fewest 2 = .ok (.sipush 1023, 3) := by decide +kernel
theorem dX10_fewest_5 : decode cX10_fewest 5 = .ok (.invokestatic 80, 3) := by decide +kernel
theorem dX10_fewest_8 : decode cX10_fewest 8 = .ok (.ifCond .eq 12, 3) := by decide +kernel
theorem dX10_fewest_11 : decode cX10_fewest 11 = .ok (.iload_n 2, 1) := by decide +kernel
theorem dX10_fewest_12 : decode cX10_fewest 12 = .ok (.iconst 0, 1) := by decide +kernel
theorem dX10_fewest_13 : decode cX10_fewest 13 = .ok (.iconst 1, 1) := by decide +kernel
theorem dX10_fewest_14 : decode cX10_fewest 14 = .ok (.invokestatic 80, 3) := by decide +kernel
theorem dX10_fewest_17 : decode cX10_fewest 17 = .ok (.ifCond .ne 5, 3) := by decide +kernel
theorem dX10_fewest_20 : decode cX10_fewest 20 = .ok (.iconst (-1), 1) := by decide +kernel
theorem dX10_fewest_21 : decode cX10_fewest 21 = .ok (.ireturn, 1) := by decide +kernel
theorem dX10_fewest_22 : decode cX10_fewest 22 = .ok (.aload_n 0, 1) := by decide +kernel
theorem dX10_fewest_23 : decode cX10_fewest 23 = .ok (.getfield 39, 3) := by decide +kernel
theorem dX10_fewest_26 : decode cX10_fewest 26 = .ok (.iload_n 1, 1) := by decide +kernel
theorem dX10_fewest_27 : decode cX10_fewest 27 = .ok (.invokevirtual 185, 3) := by decide +kernel
theorem dX10_fewest_30 : decode cX10_fewest 30 = .ok (.istore_n 3, 1) := by decide +kernel
theorem dX10_fewest_31 : decode cX10_fewest 31 = .ok (.iload_n 3, 1) := by decide +kernel
theorem dX10_fewest_32 : decode cX10_fewest 32 = .ok (.ifCond .ge 6, 3) := by decide +kernel
theorem dX10_fewest_35 : decode cX10_fewest 35 = .ok (.bipush (-2), 2) := by decide +kernel
theorem dX10_fewest_37 : decode cX10_fewest 37 = .ok (.ireturn, 1) := by decide +kernel
theorem dX10_fewest_38 : decode cX10_fewest 38 = .ok (.iload_n 2, 1) := by decide +kernel
theorem dX10_fewest_39 : decode cX10_fewest 39 = .ok (.ifCond .ne 10, 3) := by decide +kernel
theorem dX10_fewest_42 : decode cX10_fewest 42 = .ok (.iload_n 3, 1) := by decide +kernel
theorem dX10_fewest_43 : decode cX10_fewest 43 = .ok (.invokestatic 159, 3) := by decide +kernel
theorem dX10_fewest_46 : decode cX10_fewest 46 = .ok (.goto 4, 3) := by decide +kernel
theorem dX10_fewest_49 : decode cX10_fewest 49 = .ok (.iload_n 3, 1) := by decide +kernel
theorem dX10_fewest_50 : decode cX10_fewest 50 = .ok (.ireturn, 1) := by decide +kernel
theorem dX10_openings_0 : decode cX10_openings 0 = .ok (.iload_n 1, 1) := by decide +kernel
theorem dX10_openings_1 : decode cX10_openings 1 = .ok (.iconst 0, 1) := by decide +kernel
theorem dX10_openings_2 : decode cX10_openings 2 = .ok (.iconst 4, 1) := by decide +kernel
theorem dX10_openings_3 : decode cX10_openings 3 = .ok (.invokestatic 80, 3) := by decide +kernel
theorem dX10_openings_6 : decode cX10_openings 6 = .ok (.ifCond .eq 8, 3) := by decide +kernel
theorem dX10_openings_9 : decode cX10_openings 9 = .ok (.iload_n 2, 1) := by decide +kernel
theorem dX10_openings_10 : decode cX10_openings 10 = .ok (.iconst (-1), 1) := by decide +kernel
theorem dX10_openings_11 : decode cX10_openings 11 = .ok (.if_icmp .ge 5, 3) := by decide +kernel
theorem dX10_openings_14 : decode cX10_openings 14 = .ok (.iconst (-1), 1) := by decide +kernel
theorem dX10_openings_15 : decode cX10_openings 15 = .ok (.ireturn, 1) := by decide +kernel
theorem dX10_openings_16 : decode cX10_openings 16 = .ok (.iload_n 2, 1) := by decide +kernel
theorem dX10_openings_17 : decode cX10_openings 17 = .ok (.ifCond .ge 12, 3) := by decide +kernel
theorem dX10_openings_20 : decode cX10_openings 20 = .ok (.aload_n 0, 1) := by decide +kernel
theorem dX10_openings_21 : decode cX10_openings 21 = .ok (.getfield 39, 3) := by decide +kernel
theorem dX10_openings_24 : decode cX10_openings 24 = .ok (.iload_n 1, 1) := by decide +kernel
theorem dX10_openings_25 : decode cX10_openings 25 = .ok (.invokevirtual 188, 3) := by decide +kernel
theorem dX10_openings_28 : decode cX10_openings 28 = .ok (.ireturn, 1) := by decide +kernel
theorem dX10_openings_29 : decode cX10_openings 29 = .ok (.aload_n 0, 1) := by decide +kernel
theorem dX10_openings_30 : decode cX10_openings 30 = .ok (.getfield 39, 3) := by decide +kernel
theorem dX10_openings_33 : decode cX10_openings 33 = .ok (.iload_n 1, 1) := by decide +kernel
theorem dX10_openings_34 : decode cX10_openings 34 = .ok (.iload_n 2, 1) := by decide +kernel
theorem dX10_openings_35 : decode cX10_openings 35 = .ok (.invokevirtual 191, 3) := by decide +kernel
theorem dX10_openings_38 : decode cX10_openings 38 = .ok (.ireturn, 1) := by decide +kernel
theorem dX10_chance_0 : decode cX10_chance 0 = .ok (.iload_n 1, 1) := by decide +kernel
theorem dX10_chance_1 : decode cX10_chance 1 = .ok (.iconst (-1), 1) := by decide +kernel
theorem dX10_chance_2 : decode cX10_chance 2 = .ok (.bipush 9, 2) := by decide +kernel
theorem dX10_chance_4 : decode cX10_chance 4 = .ok (.invokestatic 80, 3) := by decide +kernel
theorem dX10_chance_7 : decode cX10_chance 7 = .ok (.ifCond .eq 12, 3) := by decide +kernel
theorem dX10_chance_10 : decode cX10_chance 10 = .ok (.iload_n 2, 1) := by decide +kernel
theorem dX10_chance_11 : decode cX10_chance 11 = .ok (.iconst 0, 1) := by decide +kernel
theorem dX10_chance_12 : decode cX10_chance 12 = .ok (.iconst 1, 1) := by decide +kernel
theorem dX10_chance_13 : decode cX10_chance 13 = .ok (.invokestatic 80, 3) := by decide +kernel
theorem dX10_chance_16 : decode cX10_chance 16 = .ok (.ifCond .ne 7, 3) := by decide +kernel
theorem dX10_chance_19 : decode cX10_chance 19 = .ok (.ldc2_w 196, 3) := by decide +kernel
theorem dX10_chance_22 : decode cX10_chance 22 = .ok (.lreturn, 1) := by decide +kernel
theorem dX10_chance_23 : decode cX10_chance 23 = .ok (.iload_n 1, 1) := by decide +kernel
theorem dX10_chance_24 : decode cX10_chance 24 = .ok (.ifCond .ge 13, 3) := by decide +kernel
theorem dX10_chance_27 : decode cX10_chance 27 = .ok (.aload_n 0, 1) := by decide +kernel
theorem dX10_chance_28 : decode cX10_chance 28 = .ok (.getfield 39, 3) := by decide +kernel
theorem dX10_chance_31 : decode cX10_chance 31 = .ok (.invokevirtual 198, 3) := by decide +kernel
theorem dX10_chance_34 : decode cX10_chance 34 = .ok (.goto 11, 3) := by decide +kernel
theorem dX10_chance_37 : decode cX10_chance 37 = .ok (.aload_n 0, 1) := by decide +kernel
theorem dX10_chance_38 : decode cX10_chance 38 = .ok (.getfield 39, 3) := by decide +kernel
theorem dX10_chance_41 : decode cX10_chance 41 = .ok (.iload_n 1, 1) := by decide +kernel
theorem dX10_chance_42 : decode cX10_chance 42 = .ok (.invokevirtual 202, 3) := by decide +kernel
theorem dX10_chance_45 : decode cX10_chance 45 = .ok (.istore_n 3, 1) := by decide +kernel
theorem dX10_chance_46 : decode cX10_chance 46 = .ok (.iload_n 1, 1) := by decide +kernel
theorem dX10_chance_47 : decode cX10_chance 47 = .ok (.ifCond .ge 13, 3) := by decide +kernel
theorem dX10_chance_50 : decode cX10_chance 50 = .ok (.aload_n 0, 1) := by decide +kernel
theorem dX10_chance_51 : decode cX10_chance 51 = .ok (.getfield 39, 3) := by decide +kernel
theorem dX10_chance_54 : decode cX10_chance 54 = .ok (.invokevirtual 205, 3) := by decide +kernel
theorem dX10_chance_57 : decode cX10_chance 57 = .ok (.goto 10, 3) := by decide +kernel
theorem dX10_chance_60 : decode cX10_chance 60 = .ok (.aload_n 0, 1) := by decide +kernel
theorem dX10_chance_61 : decode cX10_chance 61 = .ok (.getfield 39, 3) := by decide +kernel
theorem dX10_chance_64 : decode cX10_chance 64 = .ok (.invokevirtual 208, 3) := by decide +kernel
theorem dX10_chance_67 : decode cX10_chance 67 = .ok (.istore 4, 2) := by decide +kernel
theorem dX10_chance_69 : decode cX10_chance 69 = .ok (.iload_n 3, 1) := by decide +kernel
theorem dX10_chance_70 : decode cX10_chance 70 = .ok (.ifCond .ne 6, 3) := by decide +kernel
theorem dX10_chance_73 : decode cX10_chance 73 = .ok (.iload_n 2, 1) := by decide +kernel
theorem dX10_chance_74 : decode cX10_chance 74 = .ok (.i2l, 1) := by decide +kernel
theorem dX10_chance_75 : decode cX10_chance 75 = .ok (.lreturn, 1) := by decide +kernel
theorem dX10_chance_76 : decode cX10_chance 76 = .ok (.iload_n 3, 1) := by decide +kernel
theorem dX10_chance_77 : decode cX10_chance 77 = .ok (.iload 4, 2) := by decide +kernel
theorem dX10_chance_79 : decode cX10_chance 79 = .ok (.invokestatic 211, 3) := by decide +kernel
theorem dX10_chance_82 : decode cX10_chance 82 = .ok (.istore 5, 2) := by decide +kernel
theorem dX10_chance_84 : decode cX10_chance 84 = .ok (.iload_n 2, 1) := by decide +kernel
theorem dX10_chance_85 : decode cX10_chance 85 = .ok (.ifCond .ne 7, 3) := by decide +kernel
theorem dX10_chance_88 : decode cX10_chance 88 = .ok (.iload_n 3, 1) := by decide +kernel
theorem dX10_chance_89 : decode cX10_chance 89 = .ok (.goto 5, 3) := by decide +kernel
theorem dX10_chance_92 : decode cX10_chance 92 = .ok (.iload 4, 2) := by decide +kernel
theorem dX10_chance_94 : decode cX10_chance 94 = .ok (.iload 5, 2) := by decide +kernel
theorem dX10_chance_96 : decode cX10_chance 96 = .ok (.idiv, 1) := by decide +kernel
theorem dX10_chance_97 : decode cX10_chance 97 = .ok (.i2l, 1) := by decide +kernel
theorem dX10_chance_98 : decode cX10_chance 98 = .ok (.lreturn, 1) := by decide +kernel
theorem dX10_commonDivisor_0 : decode cX10_commonDivisor 0 = .ok (.iconst 1, 1) := by decide +kernel
theorem dX10_commonDivisor_1 : decode cX10_commonDivisor 1 = .ok (.istore_n 2, 1) := by decide +kernel
theorem dX10_commonDivisor_2 : decode cX10_commonDivisor 2 = .ok (.iconst 2, 1) := by decide +kernel
theorem dX10_commonDivisor_3 : decode cX10_commonDivisor 3 = .ok (.istore_n 3, 1) := by decide +kernel
theorem dX10_commonDivisor_4 : decode cX10_commonDivisor 4 = .ok (.iload_n 3, 1) := by decide +kernel
theorem dX10_commonDivisor_5 : decode cX10_commonDivisor 5 = .ok (.iload_n 0, 1) := by decide +kernel
theorem dX10_commonDivisor_6 : decode cX10_commonDivisor 6 = .ok (.if_icmp .gt 28, 3) := by decide +kernel
theorem dX10_commonDivisor_9 : decode cX10_commonDivisor 9 = .ok (.iload_n 3, 1) := by decide +kernel
theorem dX10_commonDivisor_10 : decode cX10_commonDivisor 10 = .ok (.iload_n 1, 1) := by decide +kernel
theorem dX10_commonDivisor_11 : decode cX10_commonDivisor 11 = .ok (.if_icmp .gt 23, 3) := by decide +kernel
theorem dX10_commonDivisor_14 : decode cX10_commonDivisor 14 = .ok (.iload_n 0, 1) := by decide +kernel
theorem dX10_commonDivisor_15 : decode cX10_commonDivisor 15 = .ok (.iload_n 3, 1) := by decide +kernel
theorem dX10_commonDivisor_16 : decode cX10_commonDivisor 16 = .ok (.irem, 1) := by decide +kernel
theorem dX10_commonDivisor_17 : decode cX10_commonDivisor 17 = .ok (.ifCond .ne 11, 3) := by decide +kernel
theorem dX10_commonDivisor_20 : decode cX10_commonDivisor 20 = .ok (.iload_n 1, 1) := by decide +kernel
theorem dX10_commonDivisor_21 : decode cX10_commonDivisor 21 = .ok (.iload_n 3, 1) := by decide +kernel
theorem dX10_commonDivisor_22 : decode cX10_commonDivisor 22 = .ok (.irem, 1) := by decide +kernel
theorem dX10_commonDivisor_23 : decode cX10_commonDivisor 23 = .ok (.ifCond .ne 5, 3) := by decide +kernel
theorem dX10_commonDivisor_26 : decode cX10_commonDivisor 26 = .ok (.iload_n 3, 1) := by decide +kernel
theorem dX10_commonDivisor_27 : decode cX10_commonDivisor 27 = .ok (.istore_n 2, 1) := by decide +kernel
theorem dX10_commonDivisor_28 : decode cX10_commonDivisor 28 = .ok (.iinc 3 1, 3) := by decide +kernel
theorem dX10_commonDivisor_31 : decode cX10_commonDivisor 31 = .ok (.goto (-27), 3) := by decide +kernel
theorem dX10_commonDivisor_34 : decode cX10_commonDivisor 34 = .ok (.iload_n 2, 1) := by decide +kernel
theorem dX10_commonDivisor_35 : decode cX10_commonDivisor 35 = .ok (.ireturn, 1) := by decide +kernel
theorem dX10_judge_0 : decode cX10_judge 0 = .ok (.aload_n 0, 1) := by decide +kernel
theorem dX10_judge_1 : decode cX10_judge 1 = .ok (.iload_n 1, 1) := by decide +kernel
theorem dX10_judge_2 : decode cX10_judge 2 = .ok (.iload_n 2, 1) := by decide +kernel
theorem dX10_judge_3 : decode cX10_judge 3 = .ok (.invokevirtual 214, 3) := by decide +kernel
theorem dX10_judge_6 : decode cX10_judge 6 = .ok (.istore_n 3, 1) := by decide +kernel
theorem dX10_judge_7 : decode cX10_judge 7 = .ok (.iload_n 3, 1) := by decide +kernel
theorem dX10_judge_8 : decode cX10_judge 8 = .ok (.ifCond .ge 7, 3) := by decide +kernel
theorem dX10_judge_11 : decode cX10_judge 11 = .ok (.iload_n 3, 1) := by decide +kernel
theorem dX10_judge_12 : decode cX10_judge 12 = .ok (.goto 17, 3) := by decide +kernel
theorem dX10_judge_15 : decode cX10_judge 15 = .ok (.aload_n 0, 1) := by decide +kernel
theorem dX10_judge_16 : decode cX10_judge 16 = .ok (.getfield 32, 3) := by decide +kernel
theorem dX10_judge_19 : decode cX10_judge 19 = .ok (.aload_n 0, 1) := by decide +kernel
theorem dX10_judge_20 : decode cX10_judge 20 = .ok (.getfield 75, 3) := by decide +kernel
theorem dX10_judge_23 : decode cX10_judge 23 = .ok (.iload_n 1, 1) := by decide +kernel
theorem dX10_judge_24 : decode cX10_judge 24 = .ok (.aaload, 1) := by decide +kernel
theorem dX10_judge_25 : decode cX10_judge 25 = .ok (.iload_n 2, 1) := by decide +kernel
theorem dX10_judge_26 : decode cX10_judge 26 = .ok (.invokevirtual 217, 3) := by decide +kernel
theorem dX10_judge_29 : decode cX10_judge 29 = .ok (.ireturn, 1) := by decide +kernel
theorem dX10_fits_0 : decode cX10_fits 0 = .ok (.iload_n 3, 1) := by decide +kernel
theorem dX10_fits_1 : decode cX10_fits 1 = .ok (.iconst 0, 1) := by decide +kernel
theorem dX10_fits_2 : decode cX10_fits 2 = .ok (.iconst 1, 1) := by decide +kernel
theorem dX10_fits_3 : decode cX10_fits 3 = .ok (.invokestatic 80, 3) := by decide +kernel
theorem dX10_fits_6 : decode cX10_fits 6 = .ok (.ifCond .ne 5, 3) := by decide +kernel
theorem dX10_fits_9 : decode cX10_fits 9 = .ok (.iconst (-1), 1) := by decide +kernel
theorem dX10_fits_10 : decode cX10_fits 10 = .ok (.ireturn, 1) := by decide +kernel
theorem dX10_fits_11 : decode cX10_fits 11 = .ok (.aload_n 0, 1) := by decide +kernel
theorem dX10_fits_12 : decode cX10_fits 12 = .ok (.iload_n 1, 1) := by decide +kernel
theorem dX10_fits_13 : decode cX10_fits 13 = .ok (.iload_n 2, 1) := by decide +kernel
theorem dX10_fits_14 : decode cX10_fits 14 = .ok (.invokevirtual 214, 3) := by decide +kernel
theorem dX10_fits_17 : decode cX10_fits 17 = .ok (.istore 4, 2) := by decide +kernel
theorem dX10_fits_19 : decode cX10_fits 19 = .ok (.iload 4, 2) := by decide +kernel
theorem dX10_fits_21 : decode cX10_fits 21 = .ok (.ifCond .ge 6, 3) := by decide +kernel
theorem dX10_fits_24 : decode cX10_fits 24 = .ok (.iload 4, 2) := by decide +kernel
theorem dX10_fits_26 : decode cX10_fits 26 = .ok (.ireturn, 1) := by decide +kernel
theorem dX10_fits_27 : decode cX10_fits 27 = .ok (.aload_n 0, 1) := by decide +kernel
theorem dX10_fits_28 : decode cX10_fits 28 = .ok (.getfield 75, 3) := by decide +kernel
theorem dX10_fits_31 : decode cX10_fits 31 = .ok (.iload_n 1, 1) := by decide +kernel
theorem dX10_fits_32 : decode cX10_fits 32 = .ok (.aaload, 1) := by decide +kernel
theorem dX10_fits_33 : decode cX10_fits 33 = .ok (.astore 5, 2) := by decide +kernel
theorem dX10_fits_35 : decode cX10_fits 35 = .ok (.iload_n 3, 1) := by decide +kernel
theorem dX10_fits_36 : decode cX10_fits 36 = .ok (.ifCond .ne 16, 3) := by decide +kernel
theorem dX10_fits_39 : decode cX10_fits 39 = .ok (.aload_n 0, 1) := by decide +kernel
theorem dX10_fits_40 : decode cX10_fits 40 = .ok (.getfield 32, 3) := by decide +kernel
theorem dX10_fits_43 : decode cX10_fits 43 = .ok (.aload 5, 2) := by decide +kernel
theorem dX10_fits_45 : decode cX10_fits 45 = .ok (.iload_n 2, 1) := by decide +kernel
theorem dX10_fits_46 : decode cX10_fits 46 = .ok (.invokevirtual 221, 3) := by decide +kernel
theorem dX10_fits_49 : decode cX10_fits 49 = .ok (.goto 13, 3) := by decide +kernel
theorem dX10_fits_52 : decode cX10_fits 52 = .ok (.aload_n 0, 1) := by decide +kernel
theorem dX10_fits_53 : decode cX10_fits 53 = .ok (.getfield 32, 3) := by decide +kernel
theorem dX10_fits_56 : decode cX10_fits 56 = .ok (.aload 5, 2) := by decide +kernel
theorem dX10_fits_58 : decode cX10_fits 58 = .ok (.iload_n 2, 1) := by decide +kernel
theorem dX10_fits_59 : decode cX10_fits 59 = .ok (.invokevirtual 224, 3) := by decide +kernel
theorem dX10_fits_62 : decode cX10_fits 62 = .ok (.ireturn, 1) := by decide +kernel
theorem dX10_bookRefusal_0 : decode cX10_bookRefusal 0 = .ok (.iload_n 1, 1) := by decide +kernel
theorem dX10_bookRefusal_1 : decode cX10_bookRefusal 1 = .ok (.invokestatic 92, 3) := by decide +kernel
theorem dX10_bookRefusal_4 : decode cX10_bookRefusal 4 = .ok (.ifCond .eq 14, 3) := by decide +kernel
theorem dX10_bookRefusal_7 : decode cX10_bookRefusal 7 = .ok (.aload_n 0, 1) := by decide +kernel
theorem dX10_bookRefusal_8 : decode cX10_bookRefusal 8 = .ok (.getfield 12, 3) := by decide +kernel
theorem dX10_bookRefusal_11 : decode cX10_bookRefusal 11 = .ok (.iload_n 2, 1) := by decide +kernel
theorem dX10_bookRefusal_12 : decode cX10_bookRefusal 12 = .ok (.invokevirtual 140, 3) := by decide +kernel
theorem dX10_bookRefusal_15 : decode cX10_bookRefusal 15 = .ok (.ifCond .ne 5, 3) := by decide +kernel
theorem dX10_bookRefusal_18 : decode cX10_bookRefusal 18 = .ok (.iconst (-1), 1) := by decide +kernel
theorem dX10_bookRefusal_19 : decode cX10_bookRefusal 19 = .ok (.ireturn, 1) := by decide +kernel
theorem dX10_bookRefusal_20 : decode cX10_bookRefusal 20 = .ok (.aload_n 0, 1) := by decide +kernel
theorem dX10_bookRefusal_21 : decode cX10_bookRefusal 21 = .ok (.getfield 75, 3) := by decide +kernel
theorem dX10_bookRefusal_24 : decode cX10_bookRefusal 24 = .ok (.iload_n 1, 1) := by decide +kernel
theorem dX10_bookRefusal_25 : decode cX10_bookRefusal 25 = .ok (.aaload, 1) := by decide +kernel
theorem dX10_bookRefusal_26 : decode cX10_bookRefusal 26 = .ok (.invokevirtual 96, 3) := by decide +kernel
theorem dX10_bookRefusal_29 : decode cX10_bookRefusal 29 = .ok (.ifCond .eq 6, 3) := by decide +kernel
theorem dX10_bookRefusal_32 : decode cX10_bookRefusal 32 = .ok (.bipush (-11), 2) := by decide +kernel
theorem dX10_bookRefusal_34 : decode cX10_bookRefusal 34 = .ok (.ireturn, 1) := by decide +kernel
theorem dX10_bookRefusal_35 : decode cX10_bookRefusal 35 = .ok (.aload_n 0, 1) := by decide +kernel
theorem dX10_bookRefusal_36 : decode cX10_bookRefusal 36 = .ok (.getfield 75, 3) := by decide +kernel
theorem dX10_bookRefusal_39 : decode cX10_bookRefusal 39 = .ok (.iload_n 1, 1) := by decide +kernel
theorem dX10_bookRefusal_40 : decode cX10_bookRefusal 40 = .ok (.aaload, 1) := by decide +kernel
theorem dX10_bookRefusal_41 : decode cX10_bookRefusal 41 = .ok (.invokevirtual 99, 3) := by decide +kernel
theorem dX10_bookRefusal_44 : decode cX10_bookRefusal 44 = .ok (.ifCond .eq 7, 3) := by decide +kernel
theorem dX10_bookRefusal_47 : decode cX10_bookRefusal 47 = .ok (.iconst 0, 1) := by decide +kernel
theorem dX10_bookRefusal_48 : decode cX10_bookRefusal 48 = .ok (.goto 5, 3) := by decide +kernel
theorem dX10_bookRefusal_51 : decode cX10_bookRefusal 51 = .ok (.bipush (-12), 2) := by decide +kernel
theorem dX10_bookRefusal_53 : decode cX10_bookRefusal 53 = .ok (.ireturn, 1) := by decide +kernel
theorem dX10_changed_0 : decode cX10_changed 0 = .ok (.iload_n 2, 1) := by decide +kernel
theorem dX10_changed_1 : decode cX10_changed 1 = .ok (.iconst 4, 1) := by decide +kernel
theorem dX10_changed_2 : decode cX10_changed 2 = .ok (.ishr, 1) := by decide +kernel
theorem dX10_changed_3 : decode cX10_changed 3 = .ok (.istore 4, 2) := by decide +kernel
theorem dX10_changed_5 : decode cX10_changed 5 = .ok (.iload_n 2, 1) := by decide +kernel
theorem dX10_changed_6 : decode cX10_changed 6 = .ok (.bipush 15, 2) := by decide +kernel
theorem dX10_changed_8 : decode cX10_changed 8 = .ok (.iand, 1) := by decide +kernel
theorem dX10_changed_9 : decode cX10_changed 9 = .ok (.istore 5, 2) := by decide +kernel
theorem dX10_changed_11 : decode cX10_changed 11 = .ok (.aload_n 0, 1) := by decide +kernel
theorem dX10_changed_12 : decode cX10_changed 12 = .ok (.getfield 12, 3) := by decide +kernel
theorem dX10_changed_15 : decode cX10_changed 15 = .ok (.iload_n 1, 1) := by decide +kernel
theorem dX10_changed_16 : decode cX10_changed 16 = .ok (.invokevirtual 140, 3) := by decide +kernel
theorem dX10_changed_19 : decode cX10_changed 19 = .ok (.ifCond .eq 23, 3) := by decide +kernel
theorem dX10_changed_22 : decode cX10_changed 22 = .ok (.iload 4, 2) := by decide +kernel
theorem dX10_changed_24 : decode cX10_changed 24 = .ok (.iconst 1, 1) := by decide +kernel
theorem dX10_changed_25 : decode cX10_changed 25 = .ok (.bipush 40, 2) := by decide +kernel
theorem dX10_changed_27 : decode cX10_changed 27 = .ok (.invokestatic 80, 3) := by decide +kernel
theorem dX10_changed_30 : decode cX10_changed 30 = .ok (.ifCond .eq 12, 3) := by decide +kernel
theorem dX10_changed_33 : decode cX10_changed 33 = .ok (.iload_n 3, 1) := by decide +kernel
theorem dX10_changed_34 : decode cX10_changed 34 = .ok (.iconst 0, 1) := by decide +kernel
theorem dX10_changed_35 : decode cX10_changed 35 = .ok (.iconst 1, 1) := by decide +kernel
theorem dX10_changed_36 : decode cX10_changed 36 = .ok (.invokestatic 80, 3) := by decide +kernel
theorem dX10_changed_39 : decode cX10_changed 39 = .ok (.ifCond .ne 5, 3) := by decide +kernel
theorem dX10_changed_42 : decode cX10_changed 42 = .ok (.iconst (-1), 1) := by decide +kernel
theorem dX10_changed_43 : decode cX10_changed 43 = .ok (.ireturn, 1) := by decide +kernel
theorem dX10_changed_44 : decode cX10_changed 44 = .ok (.aload_n 0, 1) := by decide +kernel
theorem dX10_changed_45 : decode cX10_changed 45 = .ok (.getfield 32, 3) := by decide +kernel
theorem dX10_changed_48 : decode cX10_changed 48 = .ok (.iload_n 1, 1) := by decide +kernel
theorem dX10_changed_49 : decode cX10_changed 49 = .ok (.iload 4, 2) := by decide +kernel
theorem dX10_changed_51 : decode cX10_changed 51 = .ok (.iload 5, 2) := by decide +kernel
theorem dX10_changed_53 : decode cX10_changed 53 = .ok (.invokevirtual 227, 3) := by decide +kernel
theorem dX10_changed_56 : decode cX10_changed 56 = .ok (.istore 6, 2) := by decide +kernel
theorem dX10_changed_58 : decode cX10_changed 58 = .ok (.iload 6, 2) := by decide +kernel
theorem dX10_changed_60 : decode cX10_changed 60 = .ok (.ifCond .ge 6, 3) := by decide +kernel
theorem dX10_changed_63 : decode cX10_changed 63 = .ok (.bipush (-2), 2) := by decide +kernel
theorem dX10_changed_65 : decode cX10_changed 65 = .ok (.ireturn, 1) := by decide +kernel
theorem dX10_changed_66 : decode cX10_changed 66 = .ok (.iload_n 3, 1) := by decide +kernel
theorem dX10_changed_67 : decode cX10_changed 67 = .ok (.iconst 1, 1) := by decide +kernel
theorem dX10_changed_68 : decode cX10_changed 68 = .ok (.if_icmp .ne 6, 3) := by decide +kernel
theorem dX10_changed_71 : decode cX10_changed 71 = .ok (.iload 6, 2) := by decide +kernel
theorem dX10_changed_73 : decode cX10_changed 73 = .ok (.ireturn, 1) := by decide +kernel
theorem dX10_changed_74 : decode cX10_changed 74 = .ok (.iload 6, 2) := by decide +kernel
theorem dX10_changed_76 : decode cX10_changed 76 = .ok (.sipush 256, 3) := by decide +kernel
theorem dX10_changed_79 : decode cX10_changed 79 = .ok (.if_icmp .ne 7, 3) := by decide +kernel
theorem dX10_changed_82 : decode cX10_changed 82 = .ok (.iconst 0, 1) := by decide +kernel
theorem dX10_changed_83 : decode cX10_changed 83 = .ok (.goto 4, 3) := by decide +kernel
theorem dX10_changed_86 : decode cX10_changed 86 = .ok (.iconst 1, 1) := by decide +kernel
theorem dX10_changed_87 : decode cX10_changed 87 = .ok (.ireturn, 1) := by decide +kernel
theorem dX10_byTurns_0 : decode cX10_byTurns 0 = .ok (.iload_n 1, 1) := by decide +kernel
theorem dX10_byTurns_1 : decode cX10_byTurns 1 = .ok (.iconst 1, 1) := by decide +kernel
theorem dX10_byTurns_2 : decode cX10_byTurns 2 = .ok (.iconst 4, 1) := by decide +kernel
theorem dX10_byTurns_3 : decode cX10_byTurns 3 = .ok (.invokestatic 80, 3) := by decide +kernel
theorem dX10_byTurns_6 : decode cX10_byTurns 6 = .ok (.ifCond .eq 12, 3) := by decide +kernel
theorem dX10_byTurns_9 : decode cX10_byTurns 9 = .ok (.iload_n 2, 1) := by decide +kernel
theorem dX10_byTurns_10 : decode cX10_byTurns 10 = .ok (.iconst 0, 1) := by decide +kernel
theorem dX10_byTurns_11 : decode cX10_byTurns 11 = .ok (.iconst 1, 1) := by decide +kernel
theorem dX10_byTurns_12 : decode cX10_byTurns 12 = .ok (.invokestatic 80, 3) := by decide +kernel
theorem dX10_byTurns_15 : decode cX10_byTurns 15 = .ok (.ifCond .ne 6, 3) := by decide +kernel
theorem dX10_byTurns_18 : decode cX10_byTurns 18 = .ok (.ldc 230, 2) := by decide +kernel
theorem dX10_byTurns_20 : decode cX10_byTurns 20 = .ok (.ireturn, 1) := by decide +kernel
theorem dX10_byTurns_21 : decode cX10_byTurns 21 = .ok (.iload_n 2, 1) := by decide +kernel
theorem dX10_byTurns_22 : decode cX10_byTurns 22 = .ok (.ifCond .ne 14, 3) := by decide +kernel
theorem dX10_byTurns_25 : decode cX10_byTurns 25 = .ok (.aload_n 0, 1) := by decide +kernel
theorem dX10_byTurns_26 : decode cX10_byTurns 26 = .ok (.getfield 39, 3) := by decide +kernel
theorem dX10_byTurns_29 : decode cX10_byTurns 29 = .ok (.iload_n 1, 1) := by decide +kernel
theorem dX10_byTurns_30 : decode cX10_byTurns 30 = .ok (.invokevirtual 231, 3) := by decide +kernel
theorem dX10_byTurns_33 : decode cX10_byTurns 33 = .ok (.goto 11, 3) := by decide +kernel
theorem dX10_byTurns_36 : decode cX10_byTurns 36 = .ok (.aload_n 0, 1) := by decide +kernel
theorem dX10_byTurns_37 : decode cX10_byTurns 37 = .ok (.getfield 39, 3) := by decide +kernel
theorem dX10_byTurns_40 : decode cX10_byTurns 40 = .ok (.iload_n 1, 1) := by decide +kernel
theorem dX10_byTurns_41 : decode cX10_byTurns 41 = .ok (.invokevirtual 234, 3) := by decide +kernel
theorem dX10_byTurns_44 : decode cX10_byTurns 44 = .ok (.ireturn, 1) := by decide +kernel
theorem dX10_drawn_0 : decode cX10_drawn 0 = .ok (.iload_n 2, 1) := by decide +kernel
theorem dX10_drawn_1 : decode cX10_drawn 1 = .ok (.sipush 10000, 3) := by decide +kernel
theorem dX10_drawn_4 : decode cX10_drawn 4 = .ok (.idiv, 1) := by decide +kernel
theorem dX10_drawn_5 : decode cX10_drawn 5 = .ok (.istore 4, 2) := by decide +kernel
theorem dX10_drawn_7 : decode cX10_drawn 7 = .ok (.iload_n 2, 1) := by decide +kernel
theorem dX10_drawn_8 : decode cX10_drawn 8 = .ok (.bipush 100, 2) := by decide +kernel
theorem dX10_drawn_10 : decode cX10_drawn 10 = .ok (.idiv, 1) := by decide +kernel
theorem dX10_drawn_11 : decode cX10_drawn 11 = .ok (.bipush 100, 2) := by decide +kernel
theorem dX10_drawn_13 : decode cX10_drawn 13 = .ok (.irem, 1) := by decide +kernel
theorem dX10_drawn_14 : decode cX10_drawn 14 = .ok (.istore 5, 2) := by decide +kernel
theorem dX10_drawn_16 : decode cX10_drawn 16 = .ok (.iload_n 2, 1) := by decide +kernel
theorem dX10_drawn_17 : decode cX10_drawn 17 = .ok (.bipush 100, 2) := by decide +kernel
theorem dX10_drawn_19 : decode cX10_drawn 19 = .ok (.irem, 1) := by decide +kernel
theorem dX10_drawn_20 : decode cX10_drawn 20 = .ok (.istore 6, 2) := by decide +kernel
theorem dX10_drawn_22 : decode cX10_drawn 22 = .ok (.iload 4, 2) := by decide +kernel
theorem dX10_drawn_24 : decode cX10_drawn 24 = .ok (.iconst 1, 1) := by decide +kernel
theorem dX10_drawn_25 : decode cX10_drawn 25 = .ok (.bipush 30, 2) := by decide +kernel
theorem dX10_drawn_27 : decode cX10_drawn 27 = .ok (.invokestatic 80, 3) := by decide +kernel
theorem dX10_drawn_30 : decode cX10_drawn 30 = .ok (.ifCond .eq 25, 3) := by decide +kernel
theorem dX10_drawn_33 : decode cX10_drawn 33 = .ok (.iload 5, 2) := by decide +kernel
theorem dX10_drawn_35 : decode cX10_drawn 35 = .ok (.iconst 1, 1) := by decide +kernel
theorem dX10_drawn_36 : decode cX10_drawn 36 = .ok (.bipush 60, 2) := by decide +kernel
theorem dX10_drawn_38 : decode cX10_drawn 38 = .ok (.invokestatic 80, 3) := by decide +kernel
theorem dX10_drawn_41 : decode cX10_drawn 41 = .ok (.ifCond .eq 14, 3) := by decide +kernel
theorem dX10_drawn_44 : decode cX10_drawn 44 = .ok (.iload 6, 2) := by decide +kernel
theorem dX10_drawn_46 : decode cX10_drawn 46 = .ok (.iconst 0, 1) := by decide +kernel
theorem dX10_drawn_47 : decode cX10_drawn 47 = .ok (.bipush 12, 2) := by decide +kernel
theorem dX10_drawn_49 : decode cX10_drawn 49 = .ok (.invokestatic 80, 3) := by decide +kernel
theorem dX10_drawn_52 : decode cX10_drawn 52 = .ok (.ifCond .ne 5, 3) := by decide +kernel
theorem dX10_drawn_55 : decode cX10_drawn 55 = .ok (.iconst (-1), 1) := by decide +kernel
theorem dX10_drawn_56 : decode cX10_drawn 56 = .ok (.ireturn, 1) := by decide +kernel
theorem dX10_drawn_57 : decode cX10_drawn 57 = .ok (.iload_n 3, 1) := by decide +kernel
theorem dX10_drawn_58 : decode cX10_drawn 58 = .ok (.iconst (-1), 1) := by decide +kernel
theorem dX10_drawn_59 : decode cX10_drawn 59 = .ok (.if_icmp .eq 16, 3) := by decide +kernel
theorem dX10_drawn_62 : decode cX10_drawn 62 = .ok (.aload_n 0, 1) := by decide +kernel
theorem dX10_drawn_63 : decode cX10_drawn 63 = .ok (.getfield 12, 3) := by decide +kernel
theorem dX10_drawn_66 : decode cX10_drawn 66 = .ok (.iload_n 3, 1) := by decide +kernel
theorem dX10_drawn_67 : decode cX10_drawn 67 = .ok (.invokevirtual 140, 3) := by decide +kernel
theorem dX10_drawn_70 : decode cX10_drawn 70 = .ok (.ifCond .ne 5, 3) := by decide +kernel
theorem dX10_drawn_73 : decode cX10_drawn 73 = .ok (.iconst (-1), 1) := by decide +kernel
theorem dX10_drawn_74 : decode cX10_drawn 74 = .ok (.ireturn, 1) := by decide +kernel
theorem dX10_drawn_75 : decode cX10_drawn 75 = .ok (.aload_n 0, 1) := by decide +kernel
theorem dX10_drawn_76 : decode cX10_drawn 76 = .ok (.getfield 46, 3) := by decide +kernel
theorem dX10_drawn_79 : decode cX10_drawn 79 = .ok (.iload_n 1, 1) := by decide +kernel
theorem dX10_drawn_80 : decode cX10_drawn 80 = .ok (.iload 4, 2) := by decide +kernel
theorem dX10_drawn_82 : decode cX10_drawn 82 = .ok (.iload 5, 2) := by decide +kernel
theorem dX10_drawn_84 : decode cX10_drawn 84 = .ok (.iload 6, 2) := by decide +kernel
theorem dX10_drawn_86 : decode cX10_drawn 86 = .ok (.invokevirtual 237, 3) := by decide +kernel
theorem dX10_drawn_89 : decode cX10_drawn 89 = .ok (.iload_n 3, 1) := by decide +kernel
theorem dX10_drawn_90 : decode cX10_drawn 90 = .ok (.iconst (-1), 1) := by decide +kernel
theorem dX10_drawn_91 : decode cX10_drawn 91 = .ok (.if_icmp .ne 13, 3) := by decide +kernel
theorem dX10_drawn_94 : decode cX10_drawn 94 = .ok (.aload_n 0, 1) := by decide +kernel
theorem dX10_drawn_95 : decode cX10_drawn 95 = .ok (.getfield 46, 3) := by decide +kernel
theorem dX10_drawn_98 : decode cX10_drawn 98 = .ok (.invokevirtual 240, 3) := by decide +kernel
theorem dX10_drawn_101 : decode cX10_drawn 101 = .ok (.goto 11, 3) := by decide +kernel
theorem dX10_drawn_104 : decode cX10_drawn 104 = .ok (.aload_n 0, 1) := by decide +kernel
theorem dX10_drawn_105 : decode cX10_drawn 105 = .ok (.getfield 46, 3) := by decide +kernel
theorem dX10_drawn_108 : decode cX10_drawn 108 = .ok (.iload_n 3, 1) := by decide +kernel
theorem dX10_drawn_109 : decode cX10_drawn 109 = .ok (.invokevirtual 243, 3) := by decide +kernel
theorem dX10_drawn_112 : decode cX10_drawn 112 = .ok (.ireturn, 1) := by decide +kernel
theorem dX10_century_0 : decode cX10_century 0 = .ok (.aload_n 0, 1) := by decide +kernel
theorem dX10_century_1 : decode cX10_century 1 = .ok (.getfield 53, 3) := by decide +kernel
theorem dX10_century_4 : decode cX10_century 4 = .ok (.invokevirtual 246, 3) := by decide +kernel
theorem dX10_century_7 : decode cX10_century 7 = .ok (.ireturn, 1) := by decide +kernel
theorem dX10_open_0 : decode cX10_open 0 = .ok (.aload_n 0, 1) := by decide +kernel
theorem dX10_open_1 : decode cX10_open 1 = .ok (.getfield 12, 3) := by decide +kernel
theorem dX10_open_4 : decode cX10_open 4 = .ok (.iload_n 1, 1) := by decide +kernel
theorem dX10_open_5 : decode cX10_open 5 = .ok (.invokevirtual 140, 3) := by decide +kernel
theorem dX10_open_8 : decode cX10_open 8 = .ok (.ifCond .ne 5, 3) := by decide +kernel
theorem dX10_open_11 : decode cX10_open 11 = .ok (.iconst (-1), 1) := by decide +kernel
theorem dX10_open_12 : decode cX10_open 12 = .ok (.ireturn, 1) := by decide +kernel
theorem dX10_open_13 : decode cX10_open 13 = .ok (.aload_n 0, 1) := by decide +kernel
theorem dX10_open_14 : decode cX10_open 14 = .ok (.getfield 12, 3) := by decide +kernel
theorem dX10_open_17 : decode cX10_open 17 = .ok (.iload_n 1, 1) := by decide +kernel
theorem dX10_open_18 : decode cX10_open 18 = .ok (.invokevirtual 249, 3) := by decide +kernel
theorem dX10_open_21 : decode cX10_open 21 = .ok (.ifCond .eq 8, 3) := by decide +kernel
theorem dX10_open_24 : decode cX10_open 24 = .ok (.bipush (-5), 2) := by decide +kernel
theorem dX10_open_26 : decode cX10_open 26 = .ok (.goto 11, 3) := by decide +kernel
theorem dX10_open_29 : decode cX10_open 29 = .ok (.aload_n 0, 1) := by decide +kernel
theorem dX10_open_30 : decode cX10_open 30 = .ok (.getfield 53, 3) := by decide +kernel
theorem dX10_open_33 : decode cX10_open 33 = .ok (.iload_n 1, 1) := by decide +kernel
theorem dX10_open_34 : decode cX10_open 34 = .ok (.invokevirtual 252, 3) := by decide +kernel
theorem dX10_open_37 : decode cX10_open 37 = .ok (.ireturn, 1) := by decide +kernel
theorem dX10_hours_0 : decode cX10_hours 0 = .ok (.iload_n 1, 1) := by decide +kernel
theorem dX10_hours_1 : decode cX10_hours 1 = .ok (.iconst 1, 1) := by decide +kernel
theorem dX10_hours_2 : decode cX10_hours 2 = .ok (.bipush 99, 2) := by decide +kernel
theorem dX10_hours_4 : decode cX10_hours 4 = .ok (.invokestatic 80, 3) := by decide +kernel
theorem dX10_hours_7 : decode cX10_hours 7 = .ok (.ifCond .eq 14, 3) := by decide +kernel
theorem dX10_hours_10 : decode cX10_hours 10 = .ok (.aload_n 0, 1) := by decide +kernel
theorem dX10_hours_11 : decode cX10_hours 11 = .ok (.getfield 53, 3) := by decide +kernel
theorem dX10_hours_14 : decode cX10_hours 14 = .ok (.iload_n 1, 1) := by decide +kernel
theorem dX10_hours_15 : decode cX10_hours 15 = .ok (.invokevirtual 255, 3) := by decide +kernel
theorem dX10_hours_18 : decode cX10_hours 18 = .ok (.goto 4, 3) := by decide +kernel
theorem dX10_hours_21 : decode cX10_hours 21 = .ok (.iconst (-1), 1) := by decide +kernel
theorem dX10_hours_22 : decode cX10_hours 22 = .ok (.ireturn, 1) := by decide +kernel
theorem dX10_led_0 : decode cX10_led 0 = .ok (.iload_n 1, 1) := by decide +kernel
theorem dX10_led_1 : decode cX10_led 1 = .ok (.iconst 0, 1) := by decide +kernel
theorem dX10_led_2 : decode cX10_led 2 = .ok (.iconst 4, 1) := by decide +kernel
theorem dX10_led_3 : decode cX10_led 3 = .ok (.invokestatic 80, 3) := by decide +kernel
theorem dX10_led_6 : decode cX10_led 6 = .ok (.ifCond .eq 14, 3) := by decide +kernel
theorem dX10_led_9 : decode cX10_led 9 = .ok (.aload_n 0, 1) := by decide +kernel
theorem dX10_led_10 : decode cX10_led 10 = .ok (.getfield 53, 3) := by decide +kernel
theorem dX10_led_13 : decode cX10_led 13 = .ok (.iload_n 1, 1) := by decide +kernel
theorem dX10_led_14 : decode cX10_led 14 = .ok (.invokevirtual 258, 3) := by decide +kernel
theorem dX10_led_17 : decode cX10_led 17 = .ok (.goto 4, 3) := by decide +kernel
theorem dX10_led_20 : decode cX10_led 20 = .ok (.iconst (-1), 1) := by decide +kernel
theorem dX10_led_21 : decode cX10_led 21 = .ok (.ireturn, 1) := by decide +kernel
theorem dX10_image_0 : decode cX10_image 0 = .ok (.aload_n 0, 1) := by decide +kernel
theorem dX10_image_1 : decode cX10_image 1 = .ok (.getfield 53, 3) := by decide +kernel
theorem dX10_image_4 : decode cX10_image 4 = .ok (.invokevirtual 261, 3) := by decide +kernel
theorem dX10_image_7 : decode cX10_image 7 = .ok (.aload_n 0, 1) := by decide +kernel
theorem dX10_image_8 : decode cX10_image 8 = .ok (.getfield 53, 3) := by decide +kernel
theorem dX10_image_11 : decode cX10_image 11 = .ok (.iconst 1, 1) := by decide +kernel
theorem dX10_image_12 : decode cX10_image 12 = .ok (.invokevirtual 258, 3) := by decide +kernel
theorem dX10_image_15 : decode cX10_image 15 = .ok (.ireturn, 1) := by decide +kernel
theorem dX10_back_0 : decode cX10_back 0 = .ok (.aload_n 0, 1) := by decide +kernel
theorem dX10_back_1 : decode cX10_back 1 = .ok (.getfield 53, 3) := by decide +kernel
theorem dX10_back_4 : decode cX10_back 4 = .ok (.invokevirtual 264, 3) := by decide +kernel
theorem dX10_back_7 : decode cX10_back 7 = .ok (.ifCond .ne 6, 3) := by decide +kernel
theorem dX10_back_10 : decode cX10_back 10 = .ok (.bipush (-5), 2) := by decide +kernel
theorem dX10_back_12 : decode cX10_back 12 = .ok (.ireturn, 1) := by decide +kernel
theorem dX10_back_13 : decode cX10_back 13 = .ok (.aload_n 0, 1) := by decide +kernel
theorem dX10_back_14 : decode cX10_back 14 = .ok (.getfield 53, 3) := by decide +kernel
theorem dX10_back_17 : decode cX10_back 17 = .ok (.invokevirtual 267, 3) := by decide +kernel
theorem dX10_back_20 : decode cX10_back 20 = .ok (.aload_n 0, 1) := by decide +kernel
theorem dX10_back_21 : decode cX10_back 21 = .ok (.getfield 53, 3) := by decide +kernel
theorem dX10_back_24 : decode cX10_back 24 = .ok (.iconst 1, 1) := by decide +kernel
theorem dX10_back_25 : decode cX10_back 25 = .ok (.invokevirtual 258, 3) := by decide +kernel
theorem dX10_back_28 : decode cX10_back 28 = .ok (.ireturn, 1) := by decide +kernel
theorem dX10_undo_0 : decode cX10_undo 0 = .ok (.aload_n 0, 1) := by decide +kernel
theorem dX10_undo_1 : decode cX10_undo 1 = .ok (.getfield 62, 3) := by decide +kernel
theorem dX10_undo_4 : decode cX10_undo 4 = .ok (.invokevirtual 270, 3) := by decide +kernel
theorem dX10_undo_7 : decode cX10_undo 7 = .ok (.ifCond .ne 8, 3) := by decide +kernel
theorem dX10_undo_10 : decode cX10_undo 10 = .ok (.bipush (-5), 2) := by decide +kernel
theorem dX10_undo_12 : decode cX10_undo 12 = .ok (.goto 10, 3) := by decide +kernel
theorem dX10_undo_15 : decode cX10_undo 15 = .ok (.aload_n 0, 1) := by decide +kernel
theorem dX10_undo_16 : decode cX10_undo 16 = .ok (.getfield 62, 3) := by decide +kernel
theorem dX10_undo_19 : decode cX10_undo 19 = .ok (.invokevirtual 273, 3) := by decide +kernel
theorem dX10_undo_22 : decode cX10_undo 22 = .ok (.ireturn, 1) := by decide +kernel
theorem dX10_redo_0 : decode cX10_redo 0 = .ok (.aload_n 0, 1) := by decide +kernel
theorem dX10_redo_1 : decode cX10_redo 1 = .ok (.getfield 62, 3) := by decide +kernel
theorem dX10_redo_4 : decode cX10_redo 4 = .ok (.invokevirtual 276, 3) := by decide +kernel
theorem dX10_redo_7 : decode cX10_redo 7 = .ok (.ifCond .ne 8, 3) := by decide +kernel
theorem dX10_redo_10 : decode cX10_redo 10 = .ok (.bipush (-5), 2) := by decide +kernel
theorem dX10_redo_12 : decode cX10_redo 12 = .ok (.goto 10, 3) := by decide +kernel
theorem dX10_redo_15 : decode cX10_redo 15 = .ok (.aload_n 0, 1) := by decide +kernel
theorem dX10_redo_16 : decode cX10_redo 16 = .ok (.getfield 62, 3) := by decide +kernel
theorem dX10_redo_19 : decode cX10_redo 19 = .ok (.invokevirtual 279, 3) := by decide +kernel
theorem dX10_redo_22 : decode cX10_redo 22 = .ok (.ireturn, 1) := by decide +kernel
theorem dX10_body_0 : decode cX10_body 0 = .ok (.iload_n 1, 1) := by decide +kernel
theorem dX10_body_1 : decode cX10_body 1 = .ok (.invokestatic 282, 3) := by decide +kernel
theorem dX10_body_4 : decode cX10_body 4 = .ok (.ifCond .ne 5, 3) := by decide +kernel
theorem dX10_body_7 : decode cX10_body 7 = .ok (.iconst (-1), 1) := by decide +kernel
theorem dX10_body_8 : decode cX10_body 8 = .ok (.ireturn, 1) := by decide +kernel
theorem dX10_body_9 : decode cX10_body 9 = .ok (.aload_n 0, 1) := by decide +kernel
theorem dX10_body_10 : decode cX10_body 10 = .ok (.getfield 69, 3) := by decide +kernel
theorem dX10_body_13 : decode cX10_body 13 = .ok (.invokevirtual 285, 3) := by decide +kernel
theorem dX10_body_16 : decode cX10_body 16 = .ok (.ifCond .eq 8, 3) := by decide +kernel
theorem dX10_body_19 : decode cX10_body 19 = .ok (.bipush (-3), 2) := by decide +kernel
theorem dX10_body_21 : decode cX10_body 21 = .ok (.goto 11, 3) := by decide +kernel
theorem dX10_body_24 : decode cX10_body 24 = .ok (.aload_n 0, 1) := by decide +kernel
theorem dX10_body_25 : decode cX10_body 25 = .ok (.getfield 69, 3) := by decide +kernel
theorem dX10_body_28 : decode cX10_body 28 = .ok (.iload_n 1, 1) := by decide +kernel
theorem dX10_body_29 : decode cX10_body 29 = .ok (.invokevirtual 286, 3) := by decide +kernel
theorem dX10_body_32 : decode cX10_body 32 = .ok (.ireturn, 1) := by decide +kernel
theorem dX10_act_0 : decode cX10_act 0 = .ok (.aload_n 0, 1) := by decide +kernel
theorem dX10_act_1 : decode cX10_act 1 = .ok (.getfield 69, 3) := by decide +kernel
theorem dX10_act_4 : decode cX10_act 4 = .ok (.iload_n 1, 1) := by decide +kernel
theorem dX10_act_5 : decode cX10_act 5 = .ok (.iload_n 2, 1) := by decide +kernel
theorem dX10_act_6 : decode cX10_act 6 = .ok (.iload_n 3, 1) := by decide +kernel
theorem dX10_act_7 : decode cX10_act 7 = .ok (.invokevirtual 288, 3) := by decide +kernel
theorem dX10_act_10 : decode cX10_act 10 = .ok (.ireturn, 1) := by decide +kernel
theorem dX10_trace_0 : decode cX10_trace 0 = .ok (.aload_n 0, 1) := by decide +kernel
theorem dX10_trace_1 : decode cX10_trace 1 = .ok (.getfield 69, 3) := by decide +kernel
theorem dX10_trace_4 : decode cX10_trace 4 = .ok (.iload_n 1, 1) := by decide +kernel
theorem dX10_trace_5 : decode cX10_trace 5 = .ok (.invokevirtual 291, 3) := by decide +kernel
theorem dX10_trace_8 : decode cX10_trace 8 = .ok (.ireturn, 1) := by decide +kernel
theorem dX10_keep_0 : decode cX10_keep 0 = .ok (.iload_n 1, 1) := by decide +kernel
theorem dX10_keep_1 : decode cX10_keep 1 = .ok (.invokestatic 92, 3) := by decide +kernel
theorem dX10_keep_4 : decode cX10_keep 4 = .ok (.ifCond .eq 19, 3) := by decide +kernel
theorem dX10_keep_7 : decode cX10_keep 7 = .ok (.iload_n 2, 1) := by decide +kernel
theorem dX10_keep_8 : decode cX10_keep 8 = .ok (.iconst (-1), 1) := by decide +kernel
theorem dX10_keep_9 : decode cX10_keep 9 = .ok (.if_icmp .eq 16, 3) := by decide +kernel
theorem dX10_keep_12 : decode cX10_keep 12 = .ok (.aload_n 0, 1) := by decide +kernel
theorem dX10_keep_13 : decode cX10_keep 13 = .ok (.getfield 69, 3) := by decide +kernel
theorem dX10_keep_16 : decode cX10_keep 16 = .ok (.iload_n 2, 1) := by decide +kernel
theorem dX10_keep_17 : decode cX10_keep 17 = .ok (.invokevirtual 294, 3) := by decide +kernel
theorem dX10_keep_20 : decode cX10_keep 20 = .ok (.ifCond .ne 5, 3) := by decide +kernel
theorem dX10_keep_23 : decode cX10_keep 23 = .ok (.iconst (-1), 1) := by decide +kernel
theorem dX10_keep_24 : decode cX10_keep 24 = .ok (.ireturn, 1) := by decide +kernel
theorem dX10_keep_25 : decode cX10_keep 25 = .ok (.iload_n 2, 1) := by decide +kernel
theorem dX10_keep_26 : decode cX10_keep 26 = .ok (.iconst (-1), 1) := by decide +kernel
theorem dX10_keep_27 : decode cX10_keep 27 = .ok (.if_icmp .ne 15, 3) := by decide +kernel
theorem dX10_keep_30 : decode cX10_keep 30 = .ok (.aload_n 0, 1) := by decide +kernel
theorem dX10_keep_31 : decode cX10_keep 31 = .ok (.getfield 75, 3) := by decide +kernel
theorem dX10_keep_34 : decode cX10_keep 34 = .ok (.iload_n 1, 1) := by decide +kernel
theorem dX10_keep_35 : decode cX10_keep 35 = .ok (.aaload, 1) := by decide +kernel
theorem dX10_keep_36 : decode cX10_keep 36 = .ok (.invokevirtual 296, 3) := by decide +kernel
theorem dX10_keep_39 : decode cX10_keep 39 = .ok (.goto 13, 3) := by decide +kernel
theorem dX10_keep_42 : decode cX10_keep 42 = .ok (.aload_n 0, 1) := by decide +kernel
theorem dX10_keep_43 : decode cX10_keep 43 = .ok (.getfield 75, 3) := by decide +kernel
theorem dX10_keep_46 : decode cX10_keep 46 = .ok (.iload_n 1, 1) := by decide +kernel
theorem dX10_keep_47 : decode cX10_keep 47 = .ok (.aaload, 1) := by decide +kernel
theorem dX10_keep_48 : decode cX10_keep 48 = .ok (.iload_n 2, 1) := by decide +kernel
theorem dX10_keep_49 : decode cX10_keep 49 = .ok (.invokevirtual 299, 3) := by decide +kernel
theorem dX10_keep_52 : decode cX10_keep 52 = .ok (.iconst 1, 1) := by decide +kernel
theorem dX10_keep_53 : decode cX10_keep 53 = .ok (.ireturn, 1) := by decide +kernel
theorem dX10_row_0 : decode cX10_row 0 = .ok (.iload_n 1, 1) := by decide +kernel
theorem dX10_row_1 : decode cX10_row 1 = .ok (.invokestatic 92, 3) := by decide +kernel
theorem dX10_row_4 : decode cX10_row 4 = .ok (.ifCond .eq 16, 3) := by decide +kernel
theorem dX10_row_7 : decode cX10_row 7 = .ok (.iload_n 2, 1) := by decide +kernel
theorem dX10_row_8 : decode cX10_row 8 = .ok (.invokestatic 303, 3) := by decide +kernel
theorem dX10_row_11 : decode cX10_row 11 = .ok (.ifCond .eq 9, 3) := by decide +kernel
theorem dX10_row_14 : decode cX10_row 14 = .ok (.iload_n 3, 1) := by decide +kernel
theorem dX10_row_15 : decode cX10_row 15 = .ok (.bipush 60, 2) := by decide +kernel
theorem dX10_row_17 : decode cX10_row 17 = .ok (.if_icmp .le 5, 3) := by decide +kernel
theorem dX10_row_20 : decode cX10_row 20 = .ok (.iconst (-1), 1) := by decide +kernel
theorem dX10_row_21 : decode cX10_row 21 = .ok (.ireturn, 1) := by decide +kernel
theorem dX10_row_22 : decode cX10_row 22 = .ok (.iload_n 3, 1) := by decide +kernel
theorem dX10_row_23 : decode cX10_row 23 = .ok (.ifCond .ge 6, 3) := by decide +kernel
theorem dX10_row_26 : decode cX10_row 26 = .ok (.bipush (-14), 2) := by decide +kernel
theorem dX10_row_28 : decode cX10_row 28 = .ok (.ireturn, 1) := by decide +kernel
theorem dX10_row_29 : decode cX10_row 29 = .ok (.aload_n 0, 1) := by decide +kernel
theorem dX10_row_30 : decode cX10_row 30 = .ok (.getfield 75, 3) := by decide +kernel
theorem dX10_row_33 : decode cX10_row 33 = .ok (.iload_n 1, 1) := by decide +kernel
theorem dX10_row_34 : decode cX10_row 34 = .ok (.aaload, 1) := by decide +kernel
theorem dX10_row_35 : decode cX10_row 35 = .ok (.iload_n 2, 1) := by decide +kernel
theorem dX10_row_36 : decode cX10_row 36 = .ok (.iload_n 3, 1) := by decide +kernel
theorem dX10_row_37 : decode cX10_row 37 = .ok (.invokevirtual 306, 3) := by decide +kernel
theorem dX10_row_40 : decode cX10_row 40 = .ok (.iconst 1, 1) := by decide +kernel
theorem dX10_row_41 : decode cX10_row 41 = .ok (.ireturn, 1) := by decide +kernel
theorem dX10_put_0 : decode cX10_put 0 = .ok (.aload_n 0, 1) := by decide +kernel
theorem dX10_put_1 : decode cX10_put 1 = .ok (.iload_n 1, 1) := by decide +kernel
theorem dX10_put_2 : decode cX10_put 2 = .ok (.iload_n 2, 1) := by decide +kernel
theorem dX10_put_3 : decode cX10_put 3 = .ok (.invokevirtual 310, 3) := by decide +kernel
theorem dX10_put_6 : decode cX10_put 6 = .ok (.istore 5, 2) := by decide +kernel
theorem dX10_put_8 : decode cX10_put 8 = .ok (.iload 5, 2) := by decide +kernel
theorem dX10_put_10 : decode cX10_put 10 = .ok (.ifCond .ge 6, 3) := by decide +kernel
theorem dX10_put_13 : decode cX10_put 13 = .ok (.iload 5, 2) := by decide +kernel
theorem dX10_put_15 : decode cX10_put 15 = .ok (.ireturn, 1) := by decide +kernel
theorem dX10_put_16 : decode cX10_put 16 = .ok (.aload_n 0, 1) := by decide +kernel
theorem dX10_put_17 : decode cX10_put 17 = .ok (.getfield 75, 3) := by decide +kernel
theorem dX10_put_20 : decode cX10_put 20 = .ok (.iload_n 1, 1) := by decide +kernel
theorem dX10_put_21 : decode cX10_put 21 = .ok (.aaload, 1) := by decide +kernel
theorem dX10_put_22 : decode cX10_put 22 = .ok (.iload_n 2, 1) := by decide +kernel
theorem dX10_put_23 : decode cX10_put 23 = .ok (.lload_n 3, 1) := by decide +kernel
theorem dX10_put_24 : decode cX10_put 24 = .ok (.invokevirtual 313, 3) := by decide +kernel
theorem dX10_put_27 : decode cX10_put 27 = .ok (.iconst 1, 1) := by decide +kernel
theorem dX10_put_28 : decode cX10_put 28 = .ok (.ireturn, 1) := by decide +kernel
theorem dX10_element_0 : decode cX10_element 0 = .ok (.aload_n 0, 1) := by decide +kernel
theorem dX10_element_1 : decode cX10_element 1 = .ok (.iload_n 1, 1) := by decide +kernel
theorem dX10_element_2 : decode cX10_element 2 = .ok (.iload_n 2, 1) := by decide +kernel
theorem dX10_element_3 : decode cX10_element 3 = .ok (.invokevirtual 310, 3) := by decide +kernel
theorem dX10_element_6 : decode cX10_element 6 = .ok (.ifCond .ge 9, 3) := by decide +kernel
theorem dX10_element_9 : decode cX10_element 9 = .ok (.ldc2_w 196, 3) := by decide +kernel
theorem dX10_element_12 : decode cX10_element 12 = .ok (.goto 13, 3) := by decide +kernel
theorem dX10_element_15 : decode cX10_element 15 = .ok (.aload_n 0, 1) := by decide +kernel
theorem dX10_element_16 : decode cX10_element 16 = .ok (.getfield 75, 3) := by decide +kernel
theorem dX10_element_19 : decode cX10_element 19 = .ok (.iload_n 1, 1) := by decide +kernel
theorem dX10_element_20 : decode cX10_element 20 = .ok (.aaload, 1) := by decide +kernel
theorem dX10_element_21 : decode cX10_element 21 = .ok (.iload_n 2, 1) := by decide +kernel
theorem dX10_element_22 : decode cX10_element 22 = .ok (.invokevirtual 110, 3) := by decide +kernel
theorem dX10_element_25 : decode cX10_element 25 = .ok (.lreturn, 1) := by decide +kernel
theorem dX10_placeRefusal_0 : decode cX10_placeRefusal 0 = .ok (.iload_n 1, 1) := by decide +kernel
theorem dX10_placeRefusal_1 : decode cX10_placeRefusal 1 = .ok (.invokestatic 92, 3) := by decide +kernel
theorem dX10_placeRefusal_4 : decode cX10_placeRefusal 4 = .ok (.ifCond .ne 5, 3) := by decide +kernel
theorem dX10_placeRefusal_7 : decode cX10_placeRefusal 7 = .ok (.iconst (-1), 1) := by decide +kernel
theorem dX10_placeRefusal_8 : decode cX10_placeRefusal 8 = .ok (.ireturn, 1) := by decide +kernel
theorem dX10_placeRefusal_9 : decode cX10_placeRefusal 9 = .ok (.aload_n 0, 1) := by decide +kernel
theorem dX10_placeRefusal_10 : decode cX10_placeRefusal 10 = .ok (.getfield 75, 3) := by decide +kernel
theorem dX10_placeRefusal_13 : decode cX10_placeRefusal 13 = .ok (.iload_n 1, 1) := by decide +kernel
theorem dX10_placeRefusal_14 : decode cX10_placeRefusal 14 = .ok (.aaload, 1) := by decide +kernel
theorem dX10_placeRefusal_15 : decode cX10_placeRefusal 15 = .ok (.astore_n 3, 1) := by decide +kernel
theorem dX10_placeRefusal_16 : decode cX10_placeRefusal 16 = .ok (.aload_n 3, 1) := by decide +kernel
theorem dX10_placeRefusal_17 : decode cX10_placeRefusal 17 = .ok (.invokevirtual 96, 3) := by decide +kernel
theorem dX10_placeRefusal_20 : decode cX10_placeRefusal 20 = .ok (.ifCond .eq 6, 3) := by decide +kernel
theorem dX10_placeRefusal_23 : decode cX10_placeRefusal 23 = .ok (.bipush (-11), 2) := by decide +kernel
theorem dX10_placeRefusal_25 : decode cX10_placeRefusal 25 = .ok (.ireturn, 1) := by decide +kernel
theorem dX10_placeRefusal_26 : decode cX10_placeRefusal 26 = .ok (.aload_n 3, 1) := by decide +kernel
theorem dX10_placeRefusal_27 : decode cX10_placeRefusal 27 = .ok (.invokevirtual 317, 3) := by decide +kernel
theorem dX10_placeRefusal_30 : decode cX10_placeRefusal 30 = .ok (.ifCond .ne 6, 3) := by decide +kernel
theorem dX10_placeRefusal_33 : decode cX10_placeRefusal 33 = .ok (.bipush (-12), 2) := by decide +kernel
theorem dX10_placeRefusal_35 : decode cX10_placeRefusal 35 = .ok (.ireturn, 1) := by decide +kernel
theorem dX10_placeRefusal_36 : decode cX10_placeRefusal 36 = .ok (.iload_n 2, 1) := by decide +kernel
theorem dX10_placeRefusal_37 : decode cX10_placeRefusal 37 = .ok (.iconst 0, 1) := by decide +kernel
theorem dX10_placeRefusal_38 : decode cX10_placeRefusal 38 = .ok (.aload_n 3, 1) := by decide +kernel
theorem dX10_placeRefusal_39 : decode cX10_placeRefusal 39 = .ok (.invokevirtual 320, 3) := by decide +kernel
theorem dX10_placeRefusal_42 : decode cX10_placeRefusal 42 = .ok (.iconst 1, 1) := by decide +kernel
theorem dX10_placeRefusal_43 : decode cX10_placeRefusal 43 = .ok (.isub, 1) := by decide +kernel
theorem dX10_placeRefusal_44 : decode cX10_placeRefusal 44 = .ok (.invokestatic 80, 3) := by decide +kernel
theorem dX10_placeRefusal_47 : decode cX10_placeRefusal 47 = .ok (.ifCond .eq 7, 3) := by decide +kernel
theorem dX10_placeRefusal_50 : decode cX10_placeRefusal 50 = .ok (.iconst 0, 1) := by decide +kernel
theorem dX10_placeRefusal_51 : decode cX10_placeRefusal 51 = .ok (.goto 5, 3) := by decide +kernel
theorem dX10_placeRefusal_54 : decode cX10_placeRefusal 54 = .ok (.bipush (-13), 2) := by decide +kernel
theorem dX10_placeRefusal_56 : decode cX10_placeRefusal 56 = .ok (.ireturn, 1) := by decide +kernel
theorem dX10_shift_0 : decode cX10_shift 0 = .ok (.iload_n 1, 1) := by decide +kernel
theorem dX10_shift_1 : decode cX10_shift 1 = .ok (.invokestatic 92, 3) := by decide +kernel
theorem dX10_shift_4 : decode cX10_shift 4 = .ok (.ifCond .eq 10, 3) := by decide +kernel
theorem dX10_shift_7 : decode cX10_shift 7 = .ok (.iload_n 3, 1) := by decide +kernel
theorem dX10_shift_8 : decode cX10_shift 8 = .ok (.invokestatic 92, 3) := by decide +kernel
theorem dX10_shift_11 : decode cX10_shift 11 = .ok (.ifCond .ne 5, 3) := by decide +kernel
theorem dX10_shift_14 : decode cX10_shift 14 = .ok (.iconst (-1), 1) := by decide +kernel
theorem dX10_shift_15 : decode cX10_shift 15 = .ok (.ireturn, 1) := by decide +kernel
theorem dX10_shift_16 : decode cX10_shift 16 = .ok (.aload_n 0, 1) := by decide +kernel
theorem dX10_shift_17 : decode cX10_shift 17 = .ok (.getfield 75, 3) := by decide +kernel
theorem dX10_shift_20 : decode cX10_shift 20 = .ok (.iload_n 1, 1) := by decide +kernel
theorem dX10_shift_21 : decode cX10_shift 21 = .ok (.aaload, 1) := by decide +kernel
theorem dX10_shift_22 : decode cX10_shift 22 = .ok (.astore 6, 2) := by decide +kernel
theorem dX10_shift_24 : decode cX10_shift 24 = .ok (.aload_n 0, 1) := by decide +kernel
theorem dX10_shift_25 : decode cX10_shift 25 = .ok (.getfield 75, 3) := by decide +kernel
theorem dX10_shift_28 : decode cX10_shift 28 = .ok (.iload_n 3, 1) := by decide +kernel
theorem dX10_shift_29 : decode cX10_shift 29 = .ok (.aaload, 1) := by decide +kernel
theorem dX10_shift_30 : decode cX10_shift 30 = .ok (.astore 7, 2) := by decide +kernel
theorem dX10_shift_32 : decode cX10_shift 32 = .ok (.aload 6, 2) := by decide +kernel
theorem dX10_shift_34 : decode cX10_shift 34 = .ok (.invokevirtual 96, 3) := by decide +kernel
theorem dX10_shift_37 : decode cX10_shift 37 = .ok (.ifCond .ne 11, 3) := by decide +kernel
theorem dX10_shift_40 : decode cX10_shift 40 = .ok (.aload 7, 2) := by decide +kernel
theorem dX10_shift_42 : decode cX10_shift 42 = .ok (.invokevirtual 96, 3) := by decide +kernel
theorem dX10_shift_45 : decode cX10_shift 45 = .ok (.ifCond .eq 6, 3) := by decide +kernel
theorem dX10_shift_48 : decode cX10_shift 48 = .ok (.bipush (-11), 2) := by decide +kernel
theorem dX10_shift_50 : decode cX10_shift 50 = .ok (.ireturn, 1) := by decide +kernel
theorem dX10_shift_51 : decode cX10_shift 51 = .ok (.aload 6, 2) := by decide +kernel
theorem dX10_shift_53 : decode cX10_shift 53 = .ok (.invokevirtual 317, 3) := by decide +kernel
theorem dX10_shift_56 : decode cX10_shift 56 = .ok (.ifCond .eq 24, 3) := by decide +kernel
theorem dX10_shift_59 : decode cX10_shift 59 = .ok (.aload 7, 2) := by decide +kernel
theorem dX10_shift_61 : decode cX10_shift 61 = .ok (.invokevirtual 317, 3) := by decide +kernel
theorem dX10_shift_64 : decode cX10_shift 64 = .ok (.ifCond .eq 16, 3) := by decide +kernel
theorem dX10_shift_67 : decode cX10_shift 67 = .ok (.aload 6, 2) := by decide +kernel
theorem dX10_shift_69 : decode cX10_shift 69 = .ok (.invokevirtual 323, 3) := by decide +kernel
theorem dX10_shift_72 : decode cX10_shift 72 = .ok (.aload 7, 2) := by decide +kernel
theorem dX10_shift_74 : decode cX10_shift 74 = .ok (.invokevirtual 323, 3) := by decide +kernel
theorem dX10_shift_77 : decode cX10_shift 77 = .ok (.if_icmp .eq 6, 3) := by decide +kernel
theorem dX10_shift_80 : decode cX10_shift 80 = .ok (.bipush (-12), 2) := by decide +kernel
theorem dX10_shift_82 : decode cX10_shift 82 = .ok (.ireturn, 1) := by decide +kernel
theorem dX10_shift_83 : decode cX10_shift 83 = .ok (.aload 6, 2) := by decide +kernel
theorem dX10_shift_85 : decode cX10_shift 85 = .ok (.iload_n 2, 1) := by decide +kernel
theorem dX10_shift_86 : decode cX10_shift 86 = .ok (.iload 5, 2) := by decide +kernel
theorem dX10_shift_88 : decode cX10_shift 88 = .ok (.invokevirtual 106, 3) := by decide +kernel
theorem dX10_shift_91 : decode cX10_shift 91 = .ok (.ifCond .eq 15, 3) := by decide +kernel
theorem dX10_shift_94 : decode cX10_shift 94 = .ok (.aload 7, 2) := by decide +kernel
theorem dX10_shift_96 : decode cX10_shift 96 = .ok (.iload 4, 2) := by decide +kernel
theorem dX10_shift_98 : decode cX10_shift 98 = .ok (.iload 5, 2) := by decide +kernel
theorem dX10_shift_100 : decode cX10_shift 100 = .ok (.invokevirtual 106, 3) := by decide +kernel
theorem dX10_shift_103 : decode cX10_shift 103 = .ok (.ifCond .ne 6, 3) := by decide +kernel
theorem dX10_shift_106 : decode cX10_shift 106 = .ok (.bipush (-13), 2) := by decide +kernel
theorem dX10_shift_108 : decode cX10_shift 108 = .ok (.ireturn, 1) := by decide +kernel
theorem dX10_shift_109 : decode cX10_shift 109 = .ok (.aload 7, 2) := by decide +kernel
theorem dX10_shift_111 : decode cX10_shift 111 = .ok (.aload 6, 2) := by decide +kernel
theorem dX10_shift_113 : decode cX10_shift 113 = .ok (.iload_n 2, 1) := by decide +kernel
theorem dX10_shift_114 : decode cX10_shift 114 = .ok (.iload 4, 2) := by decide +kernel
theorem dX10_shift_116 : decode cX10_shift 116 = .ok (.iload 5, 2) := by decide +kernel
theorem dX10_shift_118 : decode cX10_shift 118 = .ok (.invokevirtual 326, 3) := by decide +kernel
theorem dX10_shift_121 : decode cX10_shift 121 = .ok (.iload 5, 2) := by decide +kernel
theorem dX10_shift_123 : decode cX10_shift 123 = .ok (.ireturn, 1) := by decide +kernel
theorem dX10_taken_0 : decode cX10_taken 0 = .ok (.iload_n 1, 1) := by decide +kernel
theorem dX10_taken_1 : decode cX10_taken 1 = .ok (.invokestatic 92, 3) := by decide +kernel
theorem dX10_taken_4 : decode cX10_taken 4 = .ok (.ifCond .eq 10, 3) := by decide +kernel
theorem dX10_taken_7 : decode cX10_taken 7 = .ok (.iload_n 2, 1) := by decide +kernel
theorem dX10_taken_8 : decode cX10_taken 8 = .ok (.invokestatic 282, 3) := by decide +kernel
theorem dX10_taken_11 : decode cX10_taken 11 = .ok (.ifCond .ne 5, 3) := by decide +kernel
theorem dX10_taken_14 : decode cX10_taken 14 = .ok (.iconst (-1), 1) := by decide +kernel
theorem dX10_taken_15 : decode cX10_taken 15 = .ok (.ireturn, 1) := by decide +kernel
theorem dX10_taken_16 : decode cX10_taken 16 = .ok (.aload_n 0, 1) := by decide +kernel
theorem dX10_taken_17 : decode cX10_taken 17 = .ok (.getfield 75, 3) := by decide +kernel
theorem dX10_taken_20 : decode cX10_taken 20 = .ok (.iload_n 1, 1) := by decide +kernel
theorem dX10_taken_21 : decode cX10_taken 21 = .ok (.aaload, 1) := by decide +kernel
theorem dX10_taken_22 : decode cX10_taken 22 = .ok (.astore_n 3, 1) := by decide +kernel
theorem dX10_taken_23 : decode cX10_taken 23 = .ok (.aload_n 3, 1) := by decide +kernel
theorem dX10_taken_24 : decode cX10_taken 24 = .ok (.invokevirtual 96, 3) := by decide +kernel
theorem dX10_taken_27 : decode cX10_taken 27 = .ok (.ifCond .eq 6, 3) := by decide +kernel
theorem dX10_taken_30 : decode cX10_taken 30 = .ok (.bipush (-11), 2) := by decide +kernel
theorem dX10_taken_32 : decode cX10_taken 32 = .ok (.ireturn, 1) := by decide +kernel
theorem dX10_taken_33 : decode cX10_taken 33 = .ok (.aload_n 3, 1) := by decide +kernel
theorem dX10_taken_34 : decode cX10_taken 34 = .ok (.invokevirtual 317, 3) := by decide +kernel
theorem dX10_taken_37 : decode cX10_taken 37 = .ok (.ifCond .eq 6, 3) := by decide +kernel
theorem dX10_taken_40 : decode cX10_taken 40 = .ok (.bipush (-12), 2) := by decide +kernel
theorem dX10_taken_42 : decode cX10_taken 42 = .ok (.ireturn, 1) := by decide +kernel
theorem dX10_taken_43 : decode cX10_taken 43 = .ok (.aload_n 0, 1) := by decide +kernel
theorem dX10_taken_44 : decode cX10_taken 44 = .ok (.getfield 69, 3) := by decide +kernel
theorem dX10_taken_47 : decode cX10_taken 47 = .ok (.aload_n 3, 1) := by decide +kernel
theorem dX10_taken_48 : decode cX10_taken 48 = .ok (.invokevirtual 330, 3) := by decide +kernel
theorem dX10_taken_51 : decode cX10_taken 51 = .ok (.invokevirtual 333, 3) := by decide +kernel
theorem dX10_taken_54 : decode cX10_taken 54 = .ok (.istore 4, 2) := by decide +kernel
theorem dX10_taken_56 : decode cX10_taken 56 = .ok (.iload 4, 2) := by decide +kernel
theorem dX10_taken_58 : decode cX10_taken 58 = .ok (.iload_n 2, 1) := by decide +kernel
theorem dX10_taken_59 : decode cX10_taken 59 = .ok (.invokestatic 336, 3) := by decide +kernel
theorem dX10_taken_62 : decode cX10_taken 62 = .ok (.ifCond .eq 8, 3) := by decide +kernel
theorem dX10_taken_65 : decode cX10_taken 65 = .ok (.iload 4, 2) := by decide +kernel
theorem dX10_taken_67 : decode cX10_taken 67 = .ok (.goto 5, 3) := by decide +kernel
theorem dX10_taken_70 : decode cX10_taken 70 = .ok (.bipush (-12), 2) := by decide +kernel
theorem dX10_taken_72 : decode cX10_taken 72 = .ok (.ireturn, 1) := by decide +kernel
theorem dX10_count_0 : decode cX10_count 0 = .ok (.iload_n 1, 1) := by decide +kernel
theorem dX10_count_1 : decode cX10_count 1 = .ok (.tableswitch 84 0 5 #[39, 47, 55, 60, 68, 76], 39) := by decide +kernel
theorem dX10_count_40 : decode cX10_count 40 = .ok (.aload_n 0, 1) := by decide +kernel
theorem dX10_count_41 : decode cX10_count 41 = .ok (.getfield 12, 3) := by decide +kernel
theorem dX10_count_44 : decode cX10_count 44 = .ok (.invokevirtual 339, 3) := by decide +kernel
theorem dX10_count_47 : decode cX10_count 47 = .ok (.ireturn, 1) := by decide +kernel
theorem dX10_count_48 : decode cX10_count 48 = .ok (.aload_n 0, 1) := by decide +kernel
theorem dX10_count_49 : decode cX10_count 49 = .ok (.getfield 12, 3) := by decide +kernel
theorem dX10_count_52 : decode cX10_count 52 = .ok (.invokevirtual 340, 3) := by decide +kernel
theorem dX10_count_55 : decode cX10_count 55 = .ok (.ireturn, 1) := by decide +kernel
theorem dX10_count_56 : decode cX10_count 56 = .ok (.aload_n 0, 1) := by decide +kernel
theorem dX10_count_57 : decode cX10_count 57 = .ok (.getfield 132, 3) := by decide +kernel
theorem dX10_count_60 : decode cX10_count 60 = .ok (.ireturn, 1) := by decide +kernel
theorem dX10_count_61 : decode cX10_count 61 = .ok (.aload_n 0, 1) := by decide +kernel
theorem dX10_count_62 : decode cX10_count 62 = .ok (.getfield 62, 3) := by decide +kernel
theorem dX10_count_65 : decode cX10_count 65 = .ok (.invokevirtual 270, 3) := by decide +kernel
theorem dX10_count_68 : decode cX10_count 68 = .ok (.ireturn, 1) := by decide +kernel
theorem dX10_count_69 : decode cX10_count 69 = .ok (.aload_n 0, 1) := by decide +kernel
theorem dX10_count_70 : decode cX10_count 70 = .ok (.getfield 69, 3) := by decide +kernel
theorem dX10_count_73 : decode cX10_count 73 = .ok (.invokevirtual 343, 3) := by decide +kernel
theorem dX10_count_76 : decode cX10_count 76 = .ok (.ireturn, 1) := by decide +kernel
theorem dX10_count_77 : decode cX10_count 77 = .ok (.aload_n 0, 1) := by decide +kernel
theorem dX10_count_78 : decode cX10_count 78 = .ok (.getfield 69, 3) := by decide +kernel
theorem dX10_count_81 : decode cX10_count 81 = .ok (.invokevirtual 344, 3) := by decide +kernel
theorem dX10_count_84 : decode cX10_count 84 = .ok (.ireturn, 1) := by decide +kernel
theorem dX10_count_85 : decode cX10_count 85 = .ok (.iconst (-1), 1) := by decide +kernel
theorem dX10_count_86 : decode cX10_count 86 = .ok (.ireturn, 1) := by decide +kernel
theorem dX10_within_0 : decode cX10_within 0 = .ok (.iload_n 0, 1) := by decide +kernel
theorem dX10_within_1 : decode cX10_within 1 = .ok (.iload_n 1, 1) := by decide +kernel
theorem dX10_within_2 : decode cX10_within 2 = .ok (.if_icmp .lt 12, 3) := by decide +kernel
theorem dX10_within_5 : decode cX10_within 5 = .ok (.iload_n 0, 1) := by decide +kernel
theorem dX10_within_6 : decode cX10_within 6 = .ok (.iload_n 2, 1) := by decide +kernel
theorem dX10_within_7 : decode cX10_within 7 = .ok (.if_icmp .gt 7, 3) := by decide +kernel
theorem dX10_within_10 : decode cX10_within 10 = .ok (.iconst 1, 1) := by decide +kernel
theorem dX10_within_11 : decode cX10_within 11 = .ok (.goto 4, 3) := by decide +kernel
theorem dX10_within_14 : decode cX10_within 14 = .ok (.iconst 0, 1) := by decide +kernel
theorem dX10_within_15 : decode cX10_within 15 = .ok (.ireturn, 1) := by decide +kernel
theorem dX10_isThought_0 : decode cX10_isThought 0 = .ok (.iload_n 0, 1) := by decide +kernel
theorem dX10_isThought_1 : decode cX10_isThought 1 = .ok (.iconst 0, 1) := by decide +kernel
theorem dX10_isThought_2 : decode cX10_isThought 2 = .ok (.bipush 15, 2) := by decide +kernel
theorem dX10_isThought_4 : decode cX10_isThought 4 = .ok (.invokestatic 80, 3) := by decide +kernel
theorem dX10_isThought_7 : decode cX10_isThought 7 = .ok (.ireturn, 1) := by decide +kernel
theorem dX10_isShelf_0 : decode cX10_isShelf 0 = .ok (.iload_n 0, 1) := by decide +kernel
theorem dX10_isShelf_1 : decode cX10_isShelf 1 = .ok (.iconst 0, 1) := by decide +kernel
theorem dX10_isShelf_2 : decode cX10_isShelf 2 = .ok (.iconst 5, 1) := by decide +kernel
theorem dX10_isShelf_3 : decode cX10_isShelf 3 = .ok (.invokestatic 80, 3) := by decide +kernel
theorem dX10_isShelf_6 : decode cX10_isShelf 6 = .ok (.ireturn, 1) := by decide +kernel

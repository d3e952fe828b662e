theorem dX5_repair_20 : decode cX5_repair 20 = .ok (.ifCond .ne 6, 3) := by decide +kernel
theorem dX5_repair_23 : decode cX5_repair 23 = .ok (.bipush (-3), 2) := by decide +kernel
theorem dX5_repair_25 : decode cX5_repair 25 = .ok (.ireturn, 1) := by decide +kernel
theorem dX5_repair_26 : decode cX5_repair 26 = .ok (.aload_n 0, 1) := by decide +kernel
theorem dX5_repair_27 : decode cX5_repair 27 = .ok (.dup, 1) := by decide +kernel
theorem dX5_repair_28 : decode cX5_repair 28 = .ok (.getfield 53, 3) := by decide +kernel
theorem dX5_repair_31 : decode cX5_repair 31 = .ok (.iconst 1, 1) := by decide +kernel
theorem dX5_repair_32 : decode cX5_repair 32 = .ok (.iadd, 1) := by decide +kernel
theorem dX5_repair_33 : decode cX5_repair 33 = .ok (.putfield 53, 3) := by decide +kernel
theorem dX5_repair_36 : decode cX5_repair 36 = .ok (.aload_n 0, 1) := by decide +kernel
theorem dX5_repair_37 : decode cX5_repair 37 = .ok (.getfield 11, 3) := by decide +kernel
theorem dX5_repair_40 : decode cX5_repair 40 = .ok (.iload_n 1, 1) := by decide +kernel
theorem dX5_repair_41 : decode cX5_repair 41 = .ok (.aaload, 1) := by decide +kernel
theorem dX5_repair_42 : decode cX5_repair 42 = .ok (.invokevirtual 181, 3) := by decide +kernel
theorem dX5_repair_45 : decode cX5_repair 45 = .ok (.ireturn, 1) := by decide +kernel
theorem dX5_due_0 : decode cX5_due 0 = .ok (.iconst 0, 1) := by decide +kernel
theorem dX5_due_1 : decode cX5_due 1 = .ok (.istore_n 1, 1) := by decide +kernel
theorem dX5_due_2 : decode cX5_due 2 = .ok (.iconst 0, 1) := by decide +kernel
theorem dX5_due_3 : decode cX5_due 3 = .ok (.istore_n 2, 1) := by decide +kernel
theorem dX5_due_4 : decode cX5_due 4 = .ok (.iload_n 2, 1) := by decide +kernel
theorem dX5_due_5 : decode cX5_due 5 = .ok (.aload_n 0, 1) := by decide +kernel
theorem dX5_due_6 : decode cX5_due 6 = .ok (.getfield 43, 3) := by decide +kernel
theorem dX5_due_9 : decode cX5_due 9 = .ok (.if_icmp .ge 27, 3) := by decide +kernel
theorem dX5_due_12 : decode cX5_due 12 = .ok (.aload_n 0, 1) := by decide +kernel
theorem dX5_due_13 : decode cX5_due 13 = .ok (.getfield 11, 3) := by decide +kernel
theorem dX5_due_16 : decode cX5_due 16 = .ok (.iload_n 2, 1) := by decide +kernel
theorem dX5_due_17 : decode cX5_due 17 = .ok (.aaload, 1) := by decide +kernel
theorem dX5_due_18 : decode cX5_due 18 = .ok (.invokevirtual 177, 3) := by decide +kernel
theorem dX5_due_21 : decode cX5_due 21 = .ok (.ifCond .eq 9, 3) := by decide +kernel
theorem dX5_due_24 : decode cX5_due 24 = .ok (.iload_n 1, 1) := by decide +kernel
theorem dX5_due_25 : decode cX5_due 25 = .ok (.iconst 1, 1) := by decide +kernel
theorem dX5_due_26 : decode cX5_due 26 = .ok (.iload_n 2, 1) := by decide +kernel
theorem dX5_due_27 : decode cX5_due 27 = .ok (.ishl, 1) := by decide +kernel
theorem dX5_due_28 : decode cX5_due 28 = .ok (.ior, 1) := by decide +kernel
theorem dX5_due_29 : decode cX5_due 29 = .ok (.istore_n 1, 1) := by decide +kernel
theorem dX5_due_30 : decode cX5_due 30 = .ok (.iinc 2 1, 3) := by decide +kernel
theorem dX5_due_33 : decode cX5_due 33 = .ok (.goto (-29), 3) := by decide +kernel
theorem dX5_due_36 : decode cX5_due 36 = .ok (.iload_n 1, 1) := by decide +kernel
theorem dX5_due_37 : decode cX5_due 37 = .ok (.ireturn, 1) := by decide +kernel
theorem dX5_tell_0 : decode cX5_tell 0 = .ok (.iload_n 1, 1) := by decide +kernel
theorem dX5_tell_1 : decode cX5_tell 1 = .ok (.iload_n 2, 1) := by decide +kernel
theorem dX5_tell_2 : decode cX5_tell 2 = .ok (.iload_n 3, 1) := by decide +kernel
theorem dX5_tell_3 : decode cX5_tell 3 = .ok (.iload 4, 2) := by decide +kernel
theorem dX5_tell_5 : decode cX5_tell 5 = .ok (.invokestatic 184, 3) := by decide +kernel
theorem dX5_tell_8 : decode cX5_tell 8 = .ok (.ifCond .eq 15, 3) := by decide +kernel
theorem dX5_tell_11 : decode cX5_tell 11 = .ok (.aload_n 0, 1) := by decide +kernel
theorem dX5_tell_12 : decode cX5_tell 12 = .ok (.iload_n 1, 1) := by decide +kernel
theorem dX5_tell_13 : decode cX5_tell 13 = .ok (.iload_n 2, 1) := by decide +kernel
theorem dX5_tell_14 : decode cX5_tell 14 = .ok (.iload_n 3, 1) := by decide +kernel
theorem dX5_tell_15 : decode cX5_tell 15 = .ok (.iload 4, 2) := by decide +kernel
theorem dX5_tell_17 : decode cX5_tell 17 = .ok (.invokevirtual 188, 3) := by decide +kernel
theorem dX5_tell_20 : decode cX5_tell 20 = .ok (.goto 5, 3) := by decide +kernel
theorem dX5_tell_23 : decode cX5_tell 23 = .ok (.bipush (-2), 2) := by decide +kernel
theorem dX5_tell_25 : decode cX5_tell 25 = .ok (.ireturn, 1) := by decide +kernel
theorem dX5_likeness_0 : decode cX5_likeness 0 = .ok (.aload_n 0, 1) := by decide +kernel
theorem dX5_likeness_1 : decode cX5_likeness 1 = .ok (.iload_n 1, 1) := by decide +kernel
theorem dX5_likeness_2 : decode cX5_likeness 2 = .ok (.invokevirtual 64, 3) := by decide +kernel
theorem dX5_likeness_5 : decode cX5_likeness 5 = .ok (.ifCond .eq 15, 3) := by decide +kernel
theorem dX5_likeness_8 : decode cX5_likeness 8 = .ok (.iload_n 2, 1) := by decide +kernel
theorem dX5_likeness_9 : decode cX5_likeness 9 = .ok (.iload_n 3, 1) := by decide +kernel
theorem dX5_likeness_10 : decode cX5_likeness 10 = .ok (.iload 4, 2) := by decide +kernel
theorem dX5_likeness_12 : decode cX5_likeness 12 = .ok (.iload 5, 2) := by decide +kernel
theorem dX5_likeness_14 : decode cX5_likeness 14 = .ok (.invokestatic 184, 3) := by decide +kernel
theorem dX5_likeness_17 : decode cX5_likeness 17 = .ok (.ifCond .ne 6, 3) := by decide +kernel
theorem dX5_likeness_20 : decode cX5_likeness 20 = .ok (.bipush (-2), 2) := by decide +kernel
theorem dX5_likeness_22 : decode cX5_likeness 22 = .ok (.ireturn, 1) := by decide +kernel
theorem dX5_likeness_23 : decode cX5_likeness 23 = .ok (.aload_n 0, 1) := by decide +kernel
theorem dX5_likeness_24 : decode cX5_likeness 24 = .ok (.getfield 39, 3) := by decide +kernel
theorem dX5_likeness_27 : decode cX5_likeness 27 = .ok (.getfield 192, 3) := by decide +kernel
theorem dX5_likeness_30 : decode cX5_likeness 30 = .ok (.bipush 20, 2) := by decide +kernel
theorem dX5_likeness_32 : decode cX5_likeness 32 = .ok (.if_icmp .lt 6, 3) := by decide +kernel
theorem dX5_likeness_35 : decode cX5_likeness 35 = .ok (.bipush (-4), 2) := by decide +kernel
theorem dX5_likeness_37 : decode cX5_likeness 37 = .ok (.ireturn, 1) := by decide +kernel
theorem dX5_likeness_38 : decode cX5_likeness 38 = .ok (.aload_n 0, 1) := by decide +kernel
theorem dX5_likeness_39 : decode cX5_likeness 39 = .ok (.getfield 39, 3) := by decide +kernel
theorem dX5_likeness_42 : decode cX5_likeness 42 = .ok (.iload_n 1, 1) := by decide +kernel
theorem dX5_likeness_43 : decode cX5_likeness 43 = .ok (.iload_n 2, 1) := by decide +kernel
theorem dX5_likeness_44 : decode cX5_likeness 44 = .ok (.iload_n 3, 1) := by decide +kernel
theorem dX5_likeness_45 : decode cX5_likeness 45 = .ok (.iload 4, 2) := by decide +kernel
theorem dX5_likeness_47 : decode cX5_likeness 47 = .ok (.iload 5, 2) := by decide +kernel
theorem dX5_likeness_49 : decode cX5_likeness 49 = .ok (.invokevirtual 193, 3) := by decide +kernel
theorem dX5_likeness_52 : decode cX5_likeness 52 = .ok (.ireturn, 1) := by decide +kernel
theorem dX5_known_0 : decode cX5_known 0 = .ok (.aload_n 0, 1) := by decide +kernel
theorem dX5_known_1 : decode cX5_known 1 = .ok (.iload_n 1, 1) := by decide +kernel
theorem dX5_known_2 : decode cX5_known 2 = .ok (.invokevirtual 64, 3) := by decide +kernel
theorem dX5_known_5 : decode cX5_known 5 = .ok (.ifCond .ne 6, 3) := by decide +kernel
theorem dX5_known_8 : decode cX5_known 8 = .ok (.bipush (-2), 2) := by decide +kernel
theorem dX5_known_10 : decode cX5_known 10 = .ok (.ireturn, 1) := by decide +kernel
theorem dX5_known_11 : decode cX5_known 11 = .ok (.iconst 0, 1) := by decide +kernel
theorem dX5_known_12 : decode cX5_known 12 = .ok (.istore_n 2, 1) := by decide +kernel
theorem dX5_known_13 : decode cX5_known 13 = .ok (.iconst 0, 1) := by decide +kernel
theorem dX5_known_14 : decode cX5_known 14 = .ok (.istore_n 3, 1) := by decide +kernel
theorem dX5_known_15 : decode cX5_known 15 = .ok (.iload_n 3, 1) := by decide +kernel
theorem dX5_known_16 : decode cX5_known 16 = .ok (.aload_n 0, 1) := by decide +kernel
theorem dX5_known_17 : decode cX5_known 17 = .ok (.getfield 39, 3) := by decide +kernel
theorem dX5_known_20 : decode cX5_known 20 = .ok (.getfield 192, 3) := by decide +kernel
theorem dX5_known_23 : decode cX5_known 23 = .ok (.if_icmp .ge 42, 3) := by decide +kernel
theorem dX5_known_26 : decode cX5_known 26 = .ok (.aload_n 0, 1) := by decide +kernel
theorem dX5_known_27 : decode cX5_known 27 = .ok (.getfield 39, 3) := by decide +kernel
theorem dX5_known_30 : decode cX5_known 30 = .ok (.getfield 197, 3) := by decide +kernel
theorem dX5_known_33 : decode cX5_known 33 = .ok (.iload_n 3, 1) := by decide +kernel
theorem dX5_known_34 : decode cX5_known 34 = .ok (.iaload, 1) := by decide +kernel
theorem dX5_known_35 : decode cX5_known 35 = .ok (.iload_n 1, 1) := by decide +kernel
theorem dX5_known_36 : decode cX5_known 36 = .ok (.if_icmp .ne 23, 3) := by decide +kernel
theorem dX5_known_39 : decode cX5_known 39 = .ok (.aload_n 0, 1) := by decide +kernel
theorem dX5_known_40 : decode cX5_known 40 = .ok (.aload_n 0, 1) := by decide +kernel
theorem dX5_known_41 : decode cX5_known 41 = .ok (.getfield 39, 3) := by decide +kernel
theorem dX5_known_44 : decode cX5_known 44 = .ok (.getfield 200, 3) := by decide +kernel
theorem dX5_known_47 : decode cX5_known 47 = .ok (.iload_n 3, 1) := by decide +kernel
theorem dX5_known_48 : decode cX5_known 48 = .ok (.aaload, 1) := by decide +kernel
theorem dX5_known_49 : decode cX5_known 49 = .ok (.invokevirtual 203, 3) := by decide +kernel
theorem dX5_known_52 : decode cX5_known 52 = .ok (.iload_n 1, 1) := by decide +kernel
theorem dX5_known_53 : decode cX5_known 53 = .ok (.if_icmp .ne 6, 3) := by decide +kernel
theorem dX5_known_56 : decode cX5_known 56 = .ok (.iinc 2 1, 3) := by decide +kernel
theorem dX5_known_59 : decode cX5_known 59 = .ok (.iinc 3 1, 3) := by decide +kernel
theorem dX5_known_62 : decode cX5_known 62 = .ok (.goto (-47), 3) := by decide +kernel
theorem dX5_known_65 : decode cX5_known 65 = .ok (.iload_n 2, 1) := by decide +kernel
theorem dX5_known_66 : decode cX5_known 66 = .ok (.ireturn, 1) := by decide +kernel
theorem dX5_about_0 : decode cX5_about 0 = .ok (.aload_n 0, 1) := by decide +kernel
theorem dX5_about_1 : decode cX5_about 1 = .ok (.iload_n 1, 1) := by decide +kernel
theorem dX5_about_2 : decode cX5_about 2 = .ok (.invokevirtual 64, 3) := by decide +kernel
theorem dX5_about_5 : decode cX5_about 5 = .ok (.ifCond .eq 12, 3) := by decide +kernel
theorem dX5_about_8 : decode cX5_about 8 = .ok (.iload_n 2, 1) := by decide +kernel
theorem dX5_about_9 : decode cX5_about 9 = .ok (.iconst 0, 1) := by decide +kernel
theorem dX5_about_10 : decode cX5_about 10 = .ok (.iconst 5, 1) := by decide +kernel
theorem dX5_about_11 : decode cX5_about 11 = .ok (.invokestatic 57, 3) := by decide +kernel
theorem dX5_about_14 : decode cX5_about 14 = .ok (.ifCond .ne 6, 3) := by decide +kernel
theorem dX5_about_17 : decode cX5_about 17 = .ok (.bipush (-2), 2) := by decide +kernel
theorem dX5_about_19 : decode cX5_about 19 = .ok (.ireturn, 1) := by decide +kernel
theorem dX5_about_20 : decode cX5_about 20 = .ok (.aload_n 0, 1) := by decide +kernel
theorem dX5_about_21 : decode cX5_about 21 = .ok (.getfield 11, 3) := by decide +kernel
theorem dX5_about_24 : decode cX5_about 24 = .ok (.iload_n 1, 1) := by decide +kernel
theorem dX5_about_25 : decode cX5_about 25 = .ok (.aaload, 1) := by decide +kernel
theorem dX5_about_26 : decode cX5_about 26 = .ok (.iload_n 2, 1) := by decide +kernel
theorem dX5_about_27 : decode cX5_about 27 = .ok (.invokestatic 207, 3) := by decide +kernel
theorem dX5_about_30 : decode cX5_about 30 = .ok (.ireturn, 1) := by decide +kernel
theorem dX5_count_0 : decode cX5_count 0 = .ok (.iload_n 1, 1) := by decide +kernel
theorem dX5_count_1 : decode cX5_count 1 = .ok (.iconst 0, 1) := by decide +kernel
theorem dX5_count_2 : decode cX5_count 2 = .ok (.iconst 4, 1) := by decide +kernel
theorem dX5_count_3 : decode cX5_count 3 = .ok (.invokestatic 57, 3) := by decide +kernel
theorem dX5_count_6 : decode cX5_count 6 = .ok (.ifCond .eq 11, 3) := by decide +kernel
theorem dX5_count_9 : decode cX5_count 9 = .ok (.aload_n 0, 1) := by decide +kernel
theorem dX5_count_10 : decode cX5_count 10 = .ok (.iload_n 1, 1) := by decide +kernel
theorem dX5_count_11 : decode cX5_count 11 = .ok (.invokevirtual 211, 3) := by decide +kernel
theorem dX5_count_14 : decode cX5_count 14 = .ok (.goto 5, 3) := by decide +kernel
theorem dX5_count_17 : decode cX5_count 17 = .ok (.bipush (-2), 2) := by decide +kernel
theorem dX5_count_19 : decode cX5_count 19 = .ok (.ireturn, 1) := by decide +kernel
theorem dX5_digest_0 : decode cX5_digest 0 = .ok (.ldc2_w 215, 3) := by decide +kernel
theorem dX5_digest_3 : decode cX5_digest 3 = .ok (.lstore_n 1, 1) := by decide +kernel
theorem dX5_digest_4 : decode cX5_digest 4 = .ok (.iconst 0, 1) := by decide +kernel
theorem dX5_digest_5 : decode cX5_digest 5 = .ok (.istore_n 3, 1) := by decide +kernel
theorem dX5_digest_6 : decode cX5_digest 6 = .ok (.iload_n 3, 1) := by decide +kernel
theorem dX5_digest_7 : decode cX5_digest 7 = .ok (.iconst 5, 1) := by decide +kernel
theorem dX5_digest_8 : decode cX5_digest 8 = .ok (.if_icmp .ge 22, 3) := by decide +kernel
theorem dX5_digest_11 : decode cX5_digest 11 = .ok (.ldc2_w 217, 3) := by decide +kernel
theorem dX5_digest_14 : decode cX5_digest 14 = .ok (.lload_n 1, 1) := by decide +kernel
theorem dX5_digest_15 : decode cX5_digest 15 = .ok (.lmul, 1) := by decide +kernel
theorem dX5_digest_16 : decode cX5_digest 16 = .ok (.aload_n 0, 1) := by decide +kernel
theorem dX5_digest_17 : decode cX5_digest 17 = .ok (.iload_n 3, 1) := by decide +kernel
theorem dX5_digest_18 : decode cX5_digest 18 = .ok (.invokevirtual 211, 3) := by decide +kernel
theorem dX5_digest_21 : decode cX5_digest 21 = .ok (.i2l, 1) := by decide +kernel
theorem dX5_digest_22 : decode cX5_digest 22 = .ok (.ladd, 1) := by decide +kernel
theorem dX5_digest_23 : decode cX5_digest 23 = .ok (.lstore_n 1, 1) := by decide +kernel
theorem dX5_digest_24 : decode cX5_digest 24 = .ok (.iinc 3 1, 3) := by decide +kernel
theorem dX5_digest_27 : decode cX5_digest 27 = .ok (.goto (-21), 3) := by decide +kernel
theorem dX5_digest_30 : decode cX5_digest 30 = .ok (.iconst 0, 1) := by decide +kernel
theorem dX5_digest_31 : decode cX5_digest 31 = .ok (.istore_n 3, 1) := by decide +kernel
theorem dX5_digest_32 : decode cX5_digest 32 = .ok (.iload_n 3, 1) := by decide +kernel
theorem dX5_digest_33 : decode cX5_digest 33 = .ok (.aload_n 0, 1) := by decide +kernel
theorem dX5_digest_34 : decode cX5_digest 34 = .ok (.getfield 43, 3) := by decide +kernel
theorem dX5_digest_37 : decode cX5_digest 37 = .ok (.if_icmp .ge 20, 3) := by decide +kernel
theorem dX5_digest_40 : decode cX5_digest 40 = .ok (.lload_n 1, 1) := by decide +kernel
theorem dX5_digest_41 : decode cX5_digest 41 = .ok (.aload_n 0, 1) := by decide +kernel
theorem dX5_digest_42 : decode cX5_digest 42 = .ok (.getfield 11, 3) := by decide +kernel
theorem dX5_digest_45 : decode cX5_digest 45 = .ok (.iload_n 3, 1) := by decide +kernel
theorem dX5_digest_46 : decode cX5_digest 46 = .ok (.aaload, 1) := by decide +kernel
theorem dX5_digest_47 : decode cX5_digest 47 = .ok (.invokestatic 219, 3) := by decide +kernel
theorem dX5_digest_50 : decode cX5_digest 50 = .ok (.lstore_n 1, 1) := by decide +kernel
theorem dX5_digest_51 : decode cX5_digest 51 = .ok (.iinc 3 1, 3) := by decide +kernel
theorem dX5_digest_54 : decode cX5_digest 54 = .ok (.goto (-22), 3) := by decide +kernel
theorem dX5_digest_57 : decode cX5_digest 57 = .ok (.iconst 0, 1) := by decide +kernel
theorem dX5_digest_58 : decode cX5_digest 58 = .ok (.istore_n 3, 1) := by decide +kernel
theorem dX5_digest_59 : decode cX5_digest 59 = .ok (.iload_n 3, 1) := by decide +kernel
theorem dX5_digest_60 : decode cX5_digest 60 = .ok (.iconst 3, 1) := by decide +kernel
theorem dX5_digest_61 : decode cX5_digest 61 = .ok (.if_icmp .ge 43, 3) := by decide +kernel
theorem dX5_digest_64 : decode cX5_digest 64 = .ok (.ldc2_w 217, 3) := by decide +kernel
theorem dX5_digest_67 : decode cX5_digest 67 = .ok (.lload_n 1, 1) := by decide +kernel
theorem dX5_digest_68 : decode cX5_digest 68 = .ok (.lmul, 1) := by decide +kernel
theorem dX5_digest_69 : decode cX5_digest 69 = .ok (.aload_n 0, 1) := by decide +kernel
theorem dX5_digest_70 : decode cX5_digest 70 = .ok (.getfield 32, 3) := by decide +kernel
theorem dX5_digest_73 : decode cX5_digest 73 = .ok (.getfield 135, 3) := by decide +kernel
theorem dX5_digest_76 : decode cX5_digest 76 = .ok (.iload_n 3, 1) := by decide +kernel
theorem dX5_digest_77 : decode cX5_digest 77 = .ok (.iaload, 1) := by decide +kernel
theorem dX5_digest_78 : decode cX5_digest 78 = .ok (.i2l, 1) := by decide +kernel
theorem dX5_digest_79 : decode cX5_digest 79 = .ok (.ladd, 1) := by decide +kernel
theorem dX5_digest_80 : decode cX5_digest 80 = .ok (.lstore_n 1, 1) := by decide +kernel
theorem dX5_digest_81 : decode cX5_digest 81 = .ok (.ldc2_w 217, 3) := by decide +kernel
theorem dX5_digest_84 : decode cX5_digest 84 = .ok (.lload_n 1, 1) := by decide +kernel
theorem dX5_digest_85 : decode cX5_digest 85 = .ok (.lmul, 1) := by decide +kernel
theorem dX5_digest_86 : decode cX5_digest 86 = .ok (.aload_n 0, 1) := by decide +kernel
theorem dX5_digest_87 : decode cX5_digest 87 = .ok (.getfield 32, 3) := by decide +kernel
theorem dX5_digest_90 : decode cX5_digest 90 = .ok (.getfield 138, 3) := by decide +kernel
theorem dX5_digest_93 : decode cX5_digest 93 = .ok (.iload_n 3, 1) := by decide +kernel
theorem dX5_digest_94 : decode cX5_digest 94 = .ok (.iaload, 1) := by decide +kernel
theorem dX5_digest_95 : decode cX5_digest 95 = .ok (.i2l, 1) := by decide +kernel
theorem dX5_digest_96 : decode cX5_digest 96 = .ok (.ladd, 1) := by decide +kernel
theorem dX5_digest_97 : decode cX5_digest 97 = .ok (.lstore_n 1, 1) := by decide +kernel
theorem dX5_digest_98 : decode cX5_digest 98 = .ok (.iinc 3 1, 3) := by decide +kernel
theorem dX5_digest_101 : decode cX5_digest 101 = .ok (.goto (-42), 3) := by decide +kernel
theorem dX5_digest_104 : decode cX5_digest 104 = .ok (.ldc2_w 217, 3) := by decide +kernel
theorem dX5_digest_107 : decode cX5_digest 107 = .ok (.lload_n 1, 1) := by decide +kernel
theorem dX5_digest_108 : decode cX5_digest 108 = .ok (.lmul, 1) := by decide +kernel
theorem dX5_digest_109 : decode cX5_digest 109 = .ok (.aload_n 0, 1) := by decide +kernel
theorem dX5_digest_110 : decode cX5_digest 110 = .ok (.getfield 50, 3) := by decide +kernel
theorem dX5_digest_113 : decode cX5_digest 113 = .ok (.i2l, 1) := by decide +kernel
theorem dX5_digest_114 : decode cX5_digest 114 = .ok (.ladd, 1) := by decide +kernel
theorem dX5_digest_115 : decode cX5_digest 115 = .ok (.lreturn, 1) := by decide +kernel
theorem dX5_within_0 : decode cX5_within 0 = .ok (.iload_n 1, 1) := by decide +kernel
theorem dX5_within_1 : decode cX5_within 1 = .ok (.iload_n 0, 1) := by decide +kernel
theorem dX5_within_2 : decode cX5_within 2 = .ok (.if_icmp .gt 12, 3) := by decide +kernel
theorem dX5_within_5 : decode cX5_within 5 = .ok (.iload_n 0, 1) := by decide +kernel
theorem dX5_within_6 : decode cX5_within 6 = .ok (.iload_n 2, 1) := by decide +kernel
theorem dX5_within_7 : decode cX5_within 7 = .ok (.if_icmp .gt 7, 3) := by decide +kernel
theorem dX5_within_10 : decode cX5_within 10 = .ok (.iconst 1, 1) := by decide +kernel
theorem dX5_within_11 : decode cX5_within 11 = .ok (.goto 4, 3) := by decide +kernel
theorem dX5_within_14 : decode cX5_within 14 = .ok (.iconst 0, 1) := by decide +kernel
theorem dX5_within_15 : decode cX5_within 15 = .ok (.ireturn, 1) := by decide +kernel
theorem dX5_isWeek_0 : decode cX5_isWeek 0 = .ok (.iload_n 0, 1) := by decide +kernel
theorem dX5_isWeek_1 : decode cX5_isWeek 1 = .ok (.iconst 0, 1) := by decide +kernel
theorem dX5_isWeek_2 : decode cX5_isWeek 2 = .ok (.iconst 5, 1) := by decide +kernel
theorem dX5_isWeek_3 : decode cX5_isWeek 3 = .ok (.invokestatic 57, 3) := by decide +kernel
theorem dX5_isWeek_6 : decode cX5_isWeek 6 = .ok (.ireturn, 1) := by decide +kernel
theorem dX5_isSize_0 : decode cX5_isSize 0 = .ok (.iload_n 0, 1) := by decide +kernel
theorem dX5_isSize_1 : decode cX5_isSize 1 = .ok (.iconst 0, 1) := by decide +kernel
theorem dX5_isSize_2 : decode cX5_isSize 2 = .ok (.sipush 3000, 3) := by decide +kernel
theorem dX5_isSize_5 : decode cX5_isSize 5 = .ok (.invokestatic 57, 3) := by decide +kernel
theorem dX5_isSize_8 : decode cX5_isSize 8 = .ok (.ireturn, 1) := by decide +kernel
theorem dX5_isLikeness_0 : decode cX5_isLikeness 0 = .ok (.iload_n 0, 1) := by decide +kernel
theorem dX5_isLikeness_1 : decode cX5_isLikeness 1 = .ok (.invokestatic 99, 3) := by decide +kernel
theorem dX5_isLikeness_4 : decode cX5_isLikeness 4 = .ok (.ifCond .eq 28, 3) := by decide +kernel
theorem dX5_isLikeness_7 : decode cX5_isLikeness 7 = .ok (.iload_n 1, 1) := by decide +kernel
theorem dX5_isLikeness_8 : decode cX5_isLikeness 8 = .ok (.invokestatic 99, 3) := by decide +kernel
theorem dX5_isLikeness_11 : decode cX5_isLikeness 11 = .ok (.ifCond .eq 21, 3) := by decide +kernel
theorem dX5_isLikeness_14 : decode cX5_isLikeness 14 = .ok (.iload_n 2, 1) := by decide +kernel
theorem dX5_isLikeness_15 : decode cX5_isLikeness 15 = .ok (.invokestatic 99, 3) := by decide +kernel
theorem dX5_isLikeness_18 : decode cX5_isLikeness 18 = .ok (.ifCond .eq 14, 3) := by decide +kernel
theorem dX5_isLikeness_21 : decode cX5_isLikeness 21 = .ok (.iload_n 3, 1) := by decide +kernel
theorem dX5_isLikeness_22 : decode cX5_isLikeness 22 = .ok (.invokestatic 99, 3) := by decide +kernel
theorem dX5_isLikeness_25 : decode cX5_isLikeness 25 = .ok (.ifCond .eq 7, 3) := by decide +kernel
theorem dX5_isLikeness_28 : decode cX5_isLikeness 28 = .ok (.iconst 1, 1) := by decide +kernel
theorem dX5_isLikeness_29 : decode cX5_isLikeness 29 = .ok (.goto 4, 3) := by decide +kernel
theorem dX5_isLikeness_32 : decode cX5_isLikeness 32 = .ok (.iconst 0, 1) := by decide +kernel
theorem dX5_isLikeness_33 : decode cX5_isLikeness 33 = .ok (.ireturn, 1) := by decide +kernel
theorem dX5_isFigure_0 : decode cX5_isFigure 0 = .ok (.iload_n 1, 1) := by decide +kernel
theorem dX5_isFigure_1 : decode cX5_isFigure 1 = .ok (.iconst 0, 1) := by decide +kernel
theorem dX5_isFigure_2 : decode cX5_isFigure 2 = .ok (.aload_n 0, 1) := by decide +kernel
theorem dX5_isFigure_3 : decode cX5_isFigure 3 = .ok (.getfield 43, 3) := by decide +kernel
theorem dX5_isFigure_6 : decode cX5_isFigure 6 = .ok (.iconst 1, 1) := by decide +kernel
theorem dX5_isFigure_7 : decode cX5_isFigure 7 = .ok (.isub, 1) := by decide +kernel
theorem dX5_isFigure_8 : decode cX5_isFigure 8 = .ok (.invokestatic 57, 3) := by decide +kernel
theorem dX5_isFigure_11 : decode cX5_isFigure 11 = .ok (.ireturn, 1) := by decide +kernel
theorem dX5_isMeasure_0 : decode cX5_isMeasure 0 = .ok (.aload_n 0, 1) := by decide +kernel
theorem dX5_isMeasure_1 : decode cX5_isMeasure 1 = .ok (.iload_n 1, 1) := by decide +kernel
theorem dX5_isMeasure_2 : decode cX5_isMeasure 2 = .ok (.invokevirtual 64, 3) := by decide +kernel
theorem dX5_isMeasure_5 : decode cX5_isMeasure 5 = .ok (.ifCond .eq 16, 3) := by decide +kernel
theorem dX5_isMeasure_8 : decode cX5_isMeasure 8 = .ok (.iload_n 2, 1) := by decide +kernel
theorem dX5_isMeasure_9 : decode cX5_isMeasure 9 = .ok (.iconst 0, 1) := by decide +kernel
theorem dX5_isMeasure_10 : decode cX5_isMeasure 10 = .ok (.iconst 3, 1) := by decide +kernel
theorem dX5_isMeasure_11 : decode cX5_isMeasure 11 = .ok (.invokestatic 57, 3) := by decide +kernel
theorem dX5_isMeasure_14 : decode cX5_isMeasure 14 = .ok (.ifCond .eq 7, 3) := by decide +kernel
theorem dX5_isMeasure_17 : decode cX5_isMeasure 17 = .ok (.iconst 1, 1) := by decide +kernel
theorem dX5_isMeasure_18 : decode cX5_isMeasure 18 = .ok (.goto 4, 3) := by decide +kernel
theorem dX5_isMeasure_21 : decode cX5_isMeasure 21 = .ok (.iconst 0, 1) := by decide +kernel
theorem dX5_isMeasure_22 : decode cX5_isMeasure 22 = .ok (.ireturn, 1) := by decide +kernel
theorem dX5_isSet_0 : decode cX5_isSet 0 = .ok (.iload_n 1, 1) := by decide +kernel
theorem dX5_isSet_1 : decode cX5_isSet 1 = .ok (.iconst 0, 1) := by decide +kernel
theorem dX5_isSet_2 : decode cX5_isSet 2 = .ok (.iconst 1, 1) := by decide +kernel
theorem dX5_isSet_3 : decode cX5_isSet 3 = .ok (.aload_n 0, 1) := by decide +kernel
theorem dX5_isSet_4 : decode cX5_isSet 4 = .ok (.getfield 43, 3) := by decide +kernel
theorem dX5_isSet_7 : decode cX5_isSet 7 = .ok (.ishl, 1) := by decide +kernel
theorem dX5_isSet_8 : decode cX5_isSet 8 = .ok (.iconst 1, 1) := by decide +kernel
theorem dX5_isSet_9 : decode cX5_isSet 9 = .ok (.isub, 1) := by decide +kernel
theorem dX5_isSet_10 : decode cX5_isSet 10 = .ok (.invokestatic 57, 3) := by decide +kernel
theorem dX5_isSet_13 : decode cX5_isSet 13 = .ok (.ireturn, 1) := by decide +kernel
theorem dX5_layBestPlan_0 : decode cX5_layBestPlan 0 = .ok (.aload_n 0, 1) := by decide +kernel
theorem dX5_layBestPlan_1 : decode cX5_layBestPlan 1 = .ok (.getfield 18, 3) := by decide +kernel
theorem dX5_layBestPlan_4 : decode cX5_layBestPlan 4 = .ok (.aload_n 0, 1) := by decide +kernel
theorem dX5_layBestPlan_5 : decode cX5_layBestPlan 5 = .ok (.getfield 11, 3) := by decide +kernel
theorem dX5_layBestPlan_8 : decode cX5_layBestPlan 8 = .ok (.aload_n 0, 1) := by decide +kernel
theorem dX5_layBestPlan_9 : decode cX5_layBestPlan 9 = .ok (.getfield 43, 3) := by decide +kernel
theorem dX5_layBestPlan_12 : decode cX5_layBestPlan 12 = .ok (.aload_n 0, 1) := by decide +kernel
theorem dX5_layBestPlan_13 : decode cX5_layBestPlan 13 = .ok (.getfield 47, 3) := by decide +kernel
theorem dX5_layBestPlan_16 : decode cX5_layBestPlan 16 = .ok (.iload_n 1, 1) := by decide +kernel
theorem dX5_layBestPlan_17 : decode cX5_layBestPlan 17 = .ok (.invokevirtual 223, 3) := by decide +kernel
theorem dX5_layBestPlan_20 : decode cX5_layBestPlan 20 = .ok (.aload_n 0, 1) := by decide +kernel
theorem dX5_layBestPlan_21 : decode cX5_layBestPlan 21 = .ok (.getfield 18, 3) := by decide +kernel
theorem dX5_layBestPlan_24 : decode cX5_layBestPlan 24 = .ok (.aload_n 0, 1) := by decide +kernel
theorem dX5_layBestPlan_25 : decode cX5_layBestPlan 25 = .ok (.getfield 50, 3) := by decide +kernel
theorem dX5_layBestPlan_28 : decode cX5_layBestPlan 28 = .ok (.iconst 1, 1) := by decide +kernel
theorem dX5_layBestPlan_29 : decode cX5_layBestPlan 29 = .ok (.aload_n 0, 1) := by decide +kernel
theorem dX5_layBestPlan_30 : decode cX5_layBestPlan 30 = .ok (.getfield 43, 3) := by decide +kernel
theorem dX5_layBestPlan_33 : decode cX5_layBestPlan 33 = .ok (.ishl, 1) := by decide +kernel
theorem dX5_layBestPlan_34 : decode cX5_layBestPlan 34 = .ok (.iload_n 1, 1) := by decide +kernel
theorem dX5_layBestPlan_35 : decode cX5_layBestPlan 35 = .ok (.invokevirtual 227, 3) := by decide +kernel
theorem dX5_layBestPlan_38 : decode cX5_layBestPlan 38 = .ok (.return_, 1) := by decide +kernel
theorem dX5_nearest_0 : decode cX5_nearest 0 = .ok (.iconst (-1), 1) := by decide +kernel
theorem dX5_nearest_1 : decode cX5_nearest 1 = .ok (.istore 5, 2) := by decide +kernel
theorem dX5_nearest_3 : decode cX5_nearest 3 = .ok (.iconst 0, 1) := by decide +kernel
theorem dX5_nearest_4 : decode cX5_nearest 4 = .ok (.istore 6, 2) := by decide +kernel
theorem dX5_nearest_6 : decode cX5_nearest 6 = .ok (.iconst 0, 1) := by decide +kernel
theorem dX5_nearest_7 : decode cX5_nearest 7 = .ok (.istore 7, 2) := by decide +kernel
theorem dX5_nearest_9 : decode cX5_nearest 9 = .ok (.iload 7, 2) := by decide +kernel
theorem dX5_nearest_11 : decode cX5_nearest 11 = .ok (.aload_n 0, 1) := by decide +kernel
theorem dX5_nearest_12 : decode cX5_nearest 12 = .ok (.getfield 43, 3) := by decide +kernel
theorem dX5_nearest_15 : decode cX5_nearest 15 = .ok (.if_icmp .ge 60, 3) := by decide +kernel
theorem dX5_nearest_18 : decode cX5_nearest 18 = .ok (.aload_n 0, 1) := by decide +kernel
theorem dX5_nearest_19 : decode cX5_nearest 19 = .ok (.getfield 11, 3) := by decide +kernel
theorem dX5_nearest_22 : decode cX5_nearest 22 = .ok (.iload 7, 2) := by decide +kernel
theorem dX5_nearest_24 : decode cX5_nearest 24 = .ok (.aaload, 1) := by decide +kernel
theorem dX5_nearest_25 : decode cX5_nearest 25 = .ok (.invokevirtual 231, 3) := by decide +kernel
theorem dX5_nearest_28 : decode cX5_nearest 28 = .ok (.ifCond .eq 41, 3) := by decide +kernel
theorem dX5_nearest_31 : decode cX5_nearest 31 = .ok (.aload_n 0, 1) := by decide +kernel
theorem dX5_nearest_32 : decode cX5_nearest 32 = .ok (.getfield 11, 3) := by decide +kernel
theorem dX5_nearest_35 : decode cX5_nearest 35 = .ok (.iload 7, 2) := by decide +kernel
theorem dX5_nearest_37 : decode cX5_nearest 37 = .ok (.aaload, 1) := by decide +kernel
theorem dX5_nearest_38 : decode cX5_nearest 38 = .ok (.iload_n 1, 1) := by decide +kernel
theorem dX5_nearest_39 : decode cX5_nearest 39 = .ok (.iload_n 2, 1) := by decide +kernel
theorem dX5_nearest_40 : decode cX5_nearest 40 = .ok (.iload_n 3, 1) := by decide +kernel
theorem dX5_nearest_41 : decode cX5_nearest 41 = .ok (.iload 4, 2) := by decide +kernel
theorem dX5_nearest_43 : decode cX5_nearest 43 = .ok (.invokevirtual 234, 3) := by decide +kernel
theorem dX5_nearest_46 : decode cX5_nearest 46 = .ok (.istore 8, 2) := by decide +kernel
theorem dX5_nearest_48 : decode cX5_nearest 48 = .ok (.iload 5, 2) := by decide +kernel
theorem dX5_nearest_50 : decode cX5_nearest 50 = .ok (.iconst (-1), 1) := by decide +kernel
theorem dX5_nearest_51 : decode cX5_nearest 51 = .ok (.if_icmp .eq 10, 3) := by decide +kernel
theorem dX5_nearest_54 : decode cX5_nearest 54 = .ok (.iload 8, 2) := by decide +kernel
theorem dX5_nearest_56 : decode cX5_nearest 56 = .ok (.iload 6, 2) := by decide +kernel
theorem dX5_nearest_58 : decode cX5_nearest 58 = .ok (.if_icmp .ge 11, 3) := by decide +kernel
theorem dX5_nearest_61 : decode cX5_nearest 61 = .ok (.iload 7, 2) := by decide +kernel
theorem dX5_nearest_63 : decode cX5_nearest 63 = .ok (.istore 5, 2) := by decide +kernel
theorem dX5_nearest_65 : decode cX5_nearest 65 = .ok (.iload 8, 2) := by decide +kernel
theorem dX5_nearest_67 : decode cX5_nearest 67 = .ok (.istore 6, 2) := by decide +kernel
theorem dX5_nearest_69 : decode cX5_nearest 69 = .ok (.iinc 7 1, 3) := by decide +kernel
theorem dX5_nearest_72 : decode cX5_nearest 72 = .ok (.goto (-63), 3) := by decide +kernel
theorem dX5_nearest_75 : decode cX5_nearest 75 = .ok (.iload 5, 2) := by decide +kernel
theorem dX5_nearest_77 : decode cX5_nearest 77 = .ok (.ireturn, 1) := by decide +kernel
theorem dX5_nearestTo_0 : decode cX5_nearestTo 0 = .ok (.aload_n 1, 1) := by decide +kernel
theorem dX5_nearestTo_1 : decode cX5_nearestTo 1 = .ok (.arraylength, 1) := by decide +kernel
theorem dX5_nearestTo_2 : decode cX5_nearestTo 2 = .ok (.iconst 4, 1) := by decide +kernel
theorem dX5_nearestTo_3 : decode cX5_nearestTo 3 = .ok (.if_icmp .ne 22, 3) := by decide +kernel
theorem dX5_nearestTo_6 : decode cX5_nearestTo 6 = .ok (.aload_n 0, 1) := by decide +kernel
theorem dX5_nearestTo_7 : decode cX5_nearestTo 7 = .ok (.aload_n 1, 1) := by decide +kernel
theorem dX5_nearestTo_8 : decode cX5_nearestTo 8 = .ok (.iconst 0, 1) := by decide +kernel
theorem dX5_nearestTo_9 : decode cX5_nearestTo 9 = .ok (.iaload, 1) := by decide +kernel
theorem dX5_nearestTo_10 : decode cX5_nearestTo 10 = .ok (.aload_n 1, 1) := by decide +kernel
theorem dX5_nearestTo_11 : decode cX5_nearestTo 11 = .ok (.iconst 1, 1) := by decide +kernel
theorem dX5_nearestTo_12 : decode cX5_nearestTo 12 = .ok (.iaload, 1) := by decide +kernel
theorem dX5_nearestTo_13 : decode cX5_nearestTo 13 = .ok (.aload_n 1, 1) := by decide +kernel
theorem dX5_nearestTo_14 : decode cX5_nearestTo 14 = .ok (.iconst 2, 1) := by decide +kernel
theorem dX5_nearestTo_15 : decode cX5_nearestTo 15 = .ok (.iaload, 1) := by decide +kernel
theorem dX5_nearestTo_16 : decode cX5_nearestTo 16 = .ok (.aload_n 1, 1) := by decide +kernel
theorem dX5_nearestTo_17 : decode cX5_nearestTo 17 = .ok (.iconst 3, 1) := by decide +kernel
theorem dX5_nearestTo_18 : decode cX5_nearestTo 18 = .ok (.iaload, 1) := by decide +kernel
theorem dX5_nearestTo_19 : decode cX5_nearestTo 19 = .ok (.invokevirtual 188, 3) := by decide +kernel
theorem dX5_nearestTo_22 : decode cX5_nearestTo 22 = .ok (.goto 4, 3) := by decide +kernel
theorem dX5_nearestTo_25 : decode cX5_nearestTo 25 = .ok (.iconst (-1), 1) := by decide +kernel
theorem dX5_nearestTo_26 : decode cX5_nearestTo 26 = .ok (.ireturn, 1) := by decide +kernel
theorem dX5_spanEnd_0 : decode cX5_spanEnd 0 = .ok (.aload_n 0, 1) := by decide +kernel
theorem dX5_spanEnd_1 : decode cX5_spanEnd 1 = .ok (.getfield 113, 3) := by decide +kernel
theorem dX5_spanEnd_4 : decode cX5_spanEnd 4 = .ok (.iload_n 1, 1) := by decide +kernel
theorem dX5_spanEnd_5 : decode cX5_spanEnd 5 = .ok (.iaload, 1) := by decide +kernel
theorem dX5_spanEnd_6 : decode cX5_spanEnd 6 = .ok (.iconst (-1), 1) := by decide +kernel
theorem dX5_spanEnd_7 : decode cX5_spanEnd 7 = .ok (.if_icmp .eq 5, 3) := by decide +kernel
theorem dX5_spanEnd_10 : decode cX5_spanEnd 10 = .ok (.iconst (-1), 1) := by decide +kernel
theorem dX5_spanEnd_11 : decode cX5_spanEnd 11 = .ok (.ireturn, 1) := by decide +kernel
theorem dX5_spanEnd_12 : decode cX5_spanEnd 12 = .ok (.iload_n 2, 1) := by decide +kernel
theorem dX5_spanEnd_13 : decode cX5_spanEnd 13 = .ok (.ifCond .ne 12, 3) := by decide +kernel
theorem dX5_spanEnd_16 : decode cX5_spanEnd 16 = .ok (.aload_n 0, 1) := by decide +kernel
theorem dX5_spanEnd_17 : decode cX5_spanEnd 17 = .ok (.getfield 237, 3) := by decide +kernel
theorem dX5_spanEnd_20 : decode cX5_spanEnd 20 = .ok (.iload_n 1, 1) := by decide +kernel
theorem dX5_spanEnd_21 : decode cX5_spanEnd 21 = .ok (.iaload, 1) := by decide +kernel
theorem dX5_spanEnd_22 : decode cX5_spanEnd 22 = .ok (.goto 9, 3) := by decide +kernel
theorem dX5_spanEnd_25 : decode cX5_spanEnd 25 = .ok (.aload_n 0, 1) := by decide +kernel
theorem dX5_spanEnd_26 : decode cX5_spanEnd 26 = .ok (.getfield 240, 3) := by decide +kernel
theorem dX5_spanEnd_29 : decode cX5_spanEnd 29 = .ok (.iload_n 1, 1) := by decide +kernel
theorem dX5_spanEnd_30 : decode cX5_spanEnd 30 = .ok (.iaload, 1) := by decide +kernel
theorem dX5_spanEnd_31 : decode cX5_spanEnd 31 = .ok (.ireturn, 1) := by decide +kernel
theorem dX5_aspect_0 : decode cX5_aspect 0 = .ok (.iload_n 1, 1) := by decide +kernel
theorem dX5_aspect_1 : decode cX5_aspect 1 = .ok (.tableswitch 60 0 4 #[35, 40, 45, 50, 55], 35) := by decide +kernel
theorem dX5_aspect_36 : decode cX5_aspect 36 = .ok (.aload_n 0, 1) := by decide +kernel
theorem dX5_aspect_37 : decode cX5_aspect 37 = .ok (.getfield 61, 3) := by decide +kernel
theorem dX5_aspect_40 : decode cX5_aspect 40 = .ok (.ireturn, 1) := by decide +kernel
theorem dX5_aspect_41 : decode cX5_aspect 41 = .ok (.aload_n 0, 1) := by decide +kernel
theorem dX5_aspect_42 : decode cX5_aspect 42 = .ok (.getfield 75, 3) := by decide +kernel
theorem dX5_aspect_45 : decode cX5_aspect 45 = .ok (.ireturn, 1) := by decide +kernel
theorem dX5_aspect_46 : decode cX5_aspect 46 = .ok (.aload_n 0, 1) := by decide +kernel
theorem dX5_aspect_47 : decode cX5_aspect 47 = .ok (.getfield 78, 3) := by decide +kernel
theorem dX5_aspect_50 : decode cX5_aspect 50 = .ok (.ireturn, 1) := by decide +kernel
theorem dX5_aspect_51 : decode cX5_aspect 51 = .ok (.aload_n 0, 1) := by decide +kernel
theorem dX5_aspect_52 : decode cX5_aspect 52 = .ok (.getfield 243, 3) := by decide +kernel
theorem dX5_aspect_55 : decode cX5_aspect 55 = .ok (.ireturn, 1) := by decide +kernel
theorem dX5_aspect_56 : decode cX5_aspect 56 = .ok (.aload_n 0, 1) := by decide +kernel
theorem dX5_aspect_57 : decode cX5_aspect 57 = .ok (.getfield 246, 3) := by decide +kernel
theorem dX5_aspect_60 : decode cX5_aspect 60 = .ok (.ireturn, 1) := by decide +kernel
theorem dX5_aspect_61 : decode cX5_aspect 61 = .ok (.aload_n 0, 1) := by decide +kernel
theorem dX5_aspect_62 : decode cX5_aspect 62 = .ok (.getfield 169, 3) := by decide +kernel
theorem dX5_aspect_65 : decode cX5_aspect 65 = .ok (.ireturn, 1) := by decide +kernel
theorem dX5_counted_0 : decode cX5_counted 0 = .ok (.iload_n 1, 1) := by decide +kernel
theorem dX5_counted_1 : decode cX5_counted 1 = .ok (.tableswitch 57 0 3 #[31, 36, 41, 49], 31) := by decide +kernel
theorem dX5_counted_32 : decode cX5_counted 32 = .ok (.aload_n 0, 1) := by decide +kernel
theorem dX5_counted_33 : decode cX5_counted 33 = .ok (.getfield 43, 3) := by decide +kernel
theorem dX5_counted_36 : decode cX5_counted 36 = .ok (.ireturn, 1) := by decide +kernel
theorem dX5_counted_37 : decode cX5_counted 37 = .ok (.aload_n 0, 1) := by decide +kernel
theorem dX5_counted_38 : decode cX5_counted 38 = .ok (.getfield 47, 3) := by decide +kernel
theorem dX5_counted_41 : decode cX5_counted 41 = .ok (.ireturn, 1) := by decide +kernel
theorem dX5_counted_42 : decode cX5_counted 42 = .ok (.aload_n 0, 1) := by decide +kernel
theorem dX5_counted_43 : decode cX5_counted 43 = .ok (.getfield 32, 3) := by decide +kernel
theorem dX5_counted_46 : decode cX5_counted 46 = .ok (.getfield 145, 3) := by decide +kernel
theorem dX5_counted_49 : decode cX5_counted 49 = .ok (.ireturn, 1) := by decide +kernel
theorem dX5_counted_50 : decode cX5_counted 50 = .ok (.aload_n 0, 1) := by decide +kernel
theorem dX5_counted_51 : decode cX5_counted 51 = .ok (.getfield 39, 3) := by decide +kernel
theorem dX5_counted_54 : decode cX5_counted 54 = .ok (.getfield 192, 3) := by decide +kernel
theorem dX5_counted_57 : decode cX5_counted 57 = .ok (.ireturn, 1) := by decide +kernel
theorem dX5_counted_58 : decode cX5_counted 58 = .ok (.aload_n 0, 1) := by decide +kernel
theorem dX5_counted_59 : decode cX5_counted 59 = .ok (.getfield 53, 3) := by decide +kernel
theorem dX5_counted_62 : decode cX5_counted 62 = .ok (.ireturn, 1) := by decide +kernel
theorem dX5_mixFigure_0 : decode cX5_mixFigure 0 = .ok (.lload_n 0, 1) := by decide +kernel
theorem dX5_mixFigure_1 : decode cX5_mixFigure 1 = .ok (.lstore_n 3, 1) := by decide +kernel
theorem dX5_mixFigure_2 : decode cX5_mixFigure 2 = .ok (.iconst 0, 1) := by decide +kernel
theorem dX5_mixFigure_3 : decode cX5_mixFigure 3 = .ok (.istore 5, 2) := by decide +kernel
theorem dX5_mixFigure_5 : decode cX5_mixFigure 5 = .ok (.iload 5, 2) := by decide +kernel
theorem dX5_mixFigure_7 : decode cX5_mixFigure 7 = .ok (.bipush 6, 2) := by decide +kernel
theorem dX5_mixFigure_9 : decode cX5_mixFigure 9 = .ok (.if_icmp .ge 23, 3) := by decide +kernel
theorem dX5_mixFigure_12 : decode cX5_mixFigure 12 = .ok (.ldc2_w 217, 3) := by decide +kernel
theorem dX5_mixFigure_15 : decode cX5_mixFigure 15 = .ok (.lload_n 3, 1) := by decide +kernel
theorem dX5_mixFigure_16 : decode cX5_mixFigure 16 = .ok (.lmul, 1) := by decide +kernel
theorem dX5_mixFigure_17 : decode cX5_mixFigure 17 = .ok (.aload_n 2, 1) := by decide +kernel
theorem dX5_mixFigure_18 : decode cX5_mixFigure 18 = .ok (.iload 5, 2) := by decide +kernel
theorem dX5_mixFigure_20 : decode cX5_mixFigure 20 = .ok (.invokestatic 207, 3) := by decide +kernel
theorem dX5_mixFigure_23 : decode cX5_mixFigure 23 = .ok (.i2l, 1) := by decide +kernel
theorem dX5_mixFigure_24 : decode cX5_mixFigure 24 = .ok (.ladd, 1) := by decide +kernel
theorem dX5_mixFigure_25 : decode cX5_mixFigure 25 = .ok (.lstore_n 3, 1) := by decide +kernel
theorem dX5_mixFigure_26 : decode cX5_mixFigure 26 = .ok (.iinc 5 1, 3) := by decide +kernel
theorem dX5_mixFigure_29 : decode cX5_mixFigure 29 = .ok (.goto (-24), 3) := by decide +kernel
theorem dX5_mixFigure_32 : decode cX5_mixFigure 32 = .ok (.iconst 0, 1) := by decide +kernel
theorem dX5_mixFigure_33 : decode cX5_mixFigure 33 = .ok (.istore 5, 2) := by decide +kernel
theorem dX5_mixFigure_35 : decode cX5_mixFigure 35 = .ok (.iload 5, 2) := by decide +kernel
theorem dX5_mixFigure_37 : decode cX5_mixFigure 37 = .ok (.bipush 6, 2) := by decide +kernel
theorem dX5_mixFigure_39 : decode cX5_mixFigure 39 = .ok (.if_icmp .ge 24, 3) := by decide +kernel
theorem dX5_mixFigure_42 : decode cX5_mixFigure 42 = .ok (.ldc2_w 217, 3) := by decide +kernel
theorem dX5_mixFigure_45 : decode cX5_mixFigure 45 = .ok (.lload_n 3, 1) := by decide +kernel
theorem dX5_mixFigure_46 : decode cX5_mixFigure 46 = .ok (.lmul, 1) := by decide +kernel
theorem dX5_mixFigure_47 : decode cX5_mixFigure 47 = .ok (.aload_n 2, 1) := by decide +kernel
theorem dX5_mixFigure_48 : decode cX5_mixFigure 48 = .ok (.getfield 71, 3) := by decide +kernel
theorem dX5_mixFigure_51 : decode cX5_mixFigure 51 = .ok (.iload 5, 2) := by decide +kernel
theorem dX5_mixFigure_53 : decode cX5_mixFigure 53 = .ok (.iaload, 1) := by decide +kernel
theorem dX5_mixFigure_54 : decode cX5_mixFigure 54 = .ok (.i2l, 1) := by decide +kernel
theorem dX5_mixFigure_55 : decode cX5_mixFigure 55 = .ok (.ladd, 1) := by decide +kernel
theorem dX5_mixFigure_56 : decode cX5_mixFigure 56 = .ok (.lstore_n 3, 1) := by decide +kernel
theorem dX5_mixFigure_57 : decode cX5_mixFigure 57 = .ok (.iinc 5 1, 3) := by decide +kernel
theorem dX5_mixFigure_60 : decode cX5_mixFigure 60 = .ok (.goto (-25), 3) := by decide +kernel
theorem dX5_mixFigure_63 : decode cX5_mixFigure 63 = .ok (.iconst 0, 1) := by decide +kernel
theorem dX5_mixFigure_64 : decode cX5_mixFigure 64 = .ok (.istore 5, 2) := by decide +kernel
theorem dX5_mixFigure_66 : decode cX5_mixFigure 66 = .ok (.iload 5, 2) := by decide +kernel
theorem dX5_mixFigure_68 : decode cX5_mixFigure 68 = .ok (.iconst 4, 1) := by decide +kernel
theorem dX5_mixFigure_69 : decode cX5_mixFigure 69 = .ok (.if_icmp .ge 39, 3) := by decide +kernel
theorem dX5_mixFigure_72 : decode cX5_mixFigure 72 = .ok (.ldc2_w 217, 3) := by decide +kernel
theorem dX5_mixFigure_75 : decode cX5_mixFigure 75 = .ok (.lload_n 3, 1) := by decide +kernel
theorem dX5_mixFigure_76 : decode cX5_mixFigure 76 = .ok (.lmul, 1) := by decide +kernel
theorem dX5_mixFigure_77 : decode cX5_mixFigure 77 = .ok (.aload_n 2, 1) := by decide +kernel
theorem dX5_mixFigure_78 : decode cX5_mixFigure 78 = .ok (.iload 5, 2) := by decide +kernel
theorem dX5_mixFigure_80 : decode cX5_mixFigure 80 = .ok (.iconst 0, 1) := by decide +kernel
theorem dX5_mixFigure_81 : decode cX5_mixFigure 81 = .ok (.invokestatic 109, 3) := by decide +kernel
theorem dX5_mixFigure_84 : decode cX5_mixFigure 84 = .ok (.i2l, 1) := by decide +kernel
theorem dX5_mixFigure_85 : decode cX5_mixFigure 85 = .ok (.ladd, 1) := by decide +kernel
theorem dX5_mixFigure_86 : decode cX5_mixFigure 86 = .ok (.lstore_n 3, 1) := by decide +kernel
theorem dX5_mixFigure_87 : decode cX5_mixFigure 87 = .ok (.ldc2_w 217, 3) := by decide +kernel
theorem dX5_mixFigure_90 : decode cX5_mixFigure 90 = .ok (.lload_n 3, 1) := by decide +kernel
theorem dX5_mixFigure_91 : decode cX5_mixFigure 91 = .ok (.lmul, 1) := by decide +kernel
theorem dX5_mixFigure_92 : decode cX5_mixFigure 92 = .ok (.aload_n 2, 1) := by decide +kernel
theorem dX5_mixFigure_93 : decode cX5_mixFigure 93 = .ok (.iload 5, 2) := by decide +kernel
theorem dX5_mixFigure_95 : decode cX5_mixFigure 95 = .ok (.iconst 1, 1) := by decide +kernel
theorem dX5_mixFigure_96 : decode cX5_mixFigure 96 = .ok (.invokestatic 109, 3) := by decide +kernel
theorem dX5_mixFigure_99 : decode cX5_mixFigure 99 = .ok (.i2l, 1) := by decide +kernel
theorem dX5_mixFigure_100 : decode cX5_mixFigure 100 = .ok (.ladd, 1) := by decide +kernel
theorem dX5_mixFigure_101 : decode cX5_mixFigure 101 = .ok (.lstore_n 3, 1) := by decide +kernel
theorem dX5_mixFigure_102 : decode cX5_mixFigure 102 = .ok (.iinc 5 1, 3) := by decide +kernel
theorem dX5_mixFigure_105 : decode cX5_mixFigure 105 = .ok (.goto (-39), 3) := by decide +kernel
theorem dX5_mixFigure_108 : decode cX5_mixFigure 108 = .ok (.iconst 0, 1) := by decide +kernel
theorem dX5_mixFigure_109 : decode cX5_mixFigure 109 = .ok (.istore 5, 2) := by decide +kernel
theorem dX5_mixFigure_111 : decode cX5_mixFigure 111 = .ok (.iload 5, 2) := by decide +kernel
theorem dX5_mixFigure_113 : decode cX5_mixFigure 113 = .ok (.iconst 4, 1) := by decide +kernel
theorem dX5_mixFigure_114 : decode cX5_mixFigure 114 = .ok (.if_icmp .ge 24, 3) := by decide +kernel
theorem dX5_mixFigure_117 : decode cX5_mixFigure 117 = .ok (.ldc2_w 217, 3) := by decide +kernel
theorem dX5_mixFigure_120 : decode cX5_mixFigure 120 = .ok (.lload_n 3, 1) := by decide +kernel
theorem dX5_mixFigure_121 : decode cX5_mixFigure 121 = .ok (.lmul, 1) := by decide +kernel
theorem dX5_mixFigure_122 : decode cX5_mixFigure 122 = .ok (.aload_n 2, 1) := by decide +kernel
theorem dX5_mixFigure_123 : decode cX5_mixFigure 123 = .ok (.getfield 116, 3) := by decide +kernel
theorem dX5_mixFigure_126 : decode cX5_mixFigure 126 = .ok (.iload 5, 2) := by decide +kernel
theorem dX5_mixFigure_128 : decode cX5_mixFigure 128 = .ok (.iaload, 1) := by decide +kernel
theorem dX5_mixFigure_129 : decode cX5_mixFigure 129 = .ok (.i2l, 1) := by decide +kernel
theorem dX5_mixFigure_130 : decode cX5_mixFigure 130 = .ok (.ladd, 1) := by decide +kernel
theorem dX5_mixFigure_131 : decode cX5_mixFigure 131 = .ok (.lstore_n 3, 1) := by decide +kernel
theorem dX5_mixFigure_132 : decode cX5_mixFigure 132 = .ok (.iinc 5 1, 3) := by decide +kernel
theorem dX5_mixFigure_135 : decode cX5_mixFigure 135 = .ok (.goto (-24), 3) := by decide +kernel
theorem dX5_mixFigure_138 : decode cX5_mixFigure 138 = .ok (.lload_n 3, 1) := by decide +kernel
theorem dX5_mixFigure_139 : decode cX5_mixFigure 139 = .ok (.lreturn, 1) := by decide +kernel
theorem dX6_init_0 : decode cX6_init 0 = .ok (.aload_n 0, 1) := by decide +kernel
theorem dX6_init_1 : decode cX6_init 1 = .ok (.invokespecial 1, 3) := by decide +kernel
theorem dX6_init_4 : decode cX6_init 4 = .ok (.aload_n 0, 1) := by decide +kernel
theorem dX6_init_5 : decode cX6_init 5 = .ok (.bipush 48, 2) := by decide +kernel
theorem dX6_init_7 : decode cX6_init 7 = .ok (.newarray .int, 2) := by decide +kernel
theorem dX6_init_9 : decode cX6_init 9 = .ok (.putfield 7, 3) := by decide +kernel
theorem dX6_init_12 : decode cX6_init 12 = .ok (.aload_n 0, 1) := by decide +kernel
theorem dX6_init_13 : decode cX6_init 13 = .ok (.bipush 8, 2) := by decide +kernel
theorem dX6_init_15 : decode cX6_init 15 = .ok (.newarray .int, 2) := by decide +kernel
theorem dX6_init_17 : decode cX6_init 17 = .ok (.putfield 13, 3) := by decide +kernel
theorem dX6_init_20 : decode cX6_init 20 = .ok (.aload_n 0, 1) := by decide +kernel
theorem dX6_init_21 : decode cX6_init 21 = .ok (.bipush 8, 2) := by decide +kernel
theorem dX6_init_23 : decode cX6_init 23 = .ok (.newarray .int, 2) := by decide +kernel
theorem dX6_init_25 : decode cX6_init 25 = .ok (.putfield 16, 3) := by decide +kernel
theorem dX6_init_28 : decode cX6_init 28 = .ok (.aload_n 0, 1) := by decide +kernel
theorem dX6_init_29 : decode cX6_init 29 = .ok (.bipush 8, 2) := by decide +kernel
theorem dX6_init_31 : decode cX6_init 31 = .ok (.newarray .int, 2) := by decide +kernel
theorem dX6_init_33 : decode cX6_init 33 = .ok (.putfield 19, 3) := by decide +kernel
theorem dX6_init_36 : decode cX6_init 36 = .ok (.aload_n 0, 1) := by decide +kernel
theorem dX6_init_37 : decode cX6_init 37 = .ok (.bipush 8, 2) := by decide +kernel
theorem dX6_init_39 : decode cX6_init 39 = .ok (.newarray .int, 2) := by decide +kernel
theorem dX6_init_41 : decode cX6_init 41 = .ok (.putfield 22, 3) := by decide +kernel
theorem dX6_init_44 : decode cX6_init 44 = .ok (.aload_n 0, 1) := by decide +kernel
theorem dX6_init_45 : decode cX6_init 45 = .ok (.bipush 8, 2) := by decide +kernel
theorem dX6_init_47 : decode cX6_init 47 = .ok (.newarray .int, 2) := by decide +kernel
theorem dX6_init_49 : decode cX6_init 49 = .ok (.putfield 25, 3) := by decide +kernel
theorem dX6_init_52 : decode cX6_init 52 = .ok (.aload_n 0, 1) := by decide +kernel
theorem dX6_init_53 : decode cX6_init 53 = .ok (.bipush 8, 2) := by decide +kernel
theorem dX6_init_55 : decode cX6_init 55 = .ok (.newarray .int, 2) := by decide +kernel
theorem dX6_init_57 : decode cX6_init 57 = .ok (.putfield 28, 3) := by decide +kernel
theorem dX6_init_60 : decode cX6_init 60 = .ok (.aload_n 0, 1) := by decide +kernel
theorem dX6_init_61 : decode cX6_init 61 = .ok (.bipush 32, 2) := by decide +kernel
theorem dX6_init_63 : decode cX6_init 63 = .ok (.newarray .int, 2) := by decide +kernel
theorem dX6_init_65 : decode cX6_init 65 = .ok (.putfield 31, 3) := by decide +kernel
theorem dX6_init_68 : decode cX6_init 68 = .ok (.aload_n 0, 1) := by decide +kernel
theorem dX6_init_69 : decode cX6_init 69 = .ok (.bipush 32, 2) := by decide +kernel
theorem dX6_init_71 : decode cX6_init 71 = .ok (.newarray .int, 2) := by decide +kernel
theorem dX6_init_73 : decode cX6_init 73 = .ok (.putfield 34, 3) := by decide +kernel
theorem dX6_init_76 : decode cX6_init 76 = .ok (.aload_n 0, 1) := by decide +kernel
theorem dX6_init_77 : decode cX6_init 77 = .ok (.bipush 32, 2) := by decide +kernel
theorem dX6_init_79 : decode cX6_init 79 = .ok (.newarray .int, 2) := by decide +kernel
theorem dX6_init_81 : decode cX6_init 81 = .ok (.putfield 37, 3) := by decide +kernel
theorem dX6_init_84 : decode cX6_init 84 = .ok (.aload_n 0, 1) := by decide +kernel
theorem dX6_init_85 : decode cX6_init 85 = .ok (.bipush 32, 2) := by decide +kernel
theorem dX6_init_87 : decode cX6_init 87 = .ok (.newarray .int, 2) := by decide +kernel
theorem dX6_init_89 : decode cX6_init 89 = .ok (.putfield 40, 3) := by decide +kernel
theorem dX6_init_92 : decode cX6_init 92 = .ok (.aload_n 0, 1) := by decide +kernel
theorem dX6_init_93 : decode cX6_init 93 = .ok (.bipush 32, 2) := by decide +kernel
theorem dX6_init_95 : decode cX6_init 95 = .ok (.newarray .int, 2) := by decide +kernel
theorem dX6_init_97 : decode cX6_init 97 = .ok (.putfield 43, 3) := by decide +kernel
theorem dX6_init_100 : decode cX6_init 100 = .ok (.aload_n 0, 1) := by decide +kernel
theorem dX6_init_101 : decode cX6_init 101 = .ok (.iconst 3, 1) := by decide +kernel
theorem dX6_init_102 : decode cX6_init 102 = .ok (.putfield 46, 3) := by decide +kernel
theorem dX6_init_105 : decode cX6_init 105 = .ok (.aload_n 0, 1) := by decide +kernel
theorem dX6_init_106 : decode cX6_init 106 = .ok (.iconst 3, 1) := by decide +kernel
theorem dX6_init_107 : decode cX6_init 107 = .ok (.newarray .int, 2) := by decide +kernel
theorem dX6_init_109 : decode cX6_init 109 = .ok (.putfield 50, 3) := by decide +kernel
theorem dX6_init_112 : decode cX6_init 112 = .ok (.aload_n 0, 1) := by decide +kernel
theorem dX6_init_113 : decode cX6_init 113 = .ok (.iconst 3, 1) := by decide +kernel
theorem dX6_init_114 : decode cX6_init 114 = .ok (.newarray .int, 2) := by decide +kernel
theorem dX6_init_116 : decode cX6_init 116 = .ok (.putfield 53, 3) := by decide +kernel
theorem dX6_init_119 : decode cX6_init 119 = .ok (.aload_n 0, 1) := by decide +kernel
theorem dX6_init_120 : decode cX6_init 120 = .ok (.bipush 40, 2) := by decide +kernel
theorem dX6_init_122 : decode cX6_init 122 = .ok (.newarray .int, 2) := by decide +kernel
theorem dX6_init_124 : decode cX6_init 124 = .ok (.putfield 56, 3) := by decide +kernel
theorem dX6_init_127 : decode cX6_init 127 = .ok (.aload_n 0, 1) := by decide +kernel
theorem dX6_init_128 : decode cX6_init 128 = .ok (.bipush 20, 2) := by decide +kernel
theorem dX6_init_130 : decode cX6_init 130 = .ok (.newarray .int, 2) := by decide +kernel
theorem dX6_init_132 : decode cX6_init 132 = .ok (.putfield 59, 3) := by decide +kernel
theorem dX6_init_135 : decode cX6_init 135 = .ok (.aload_n 0, 1) := by decide +kernel
theorem dX6_init_136 : decode cX6_init 136 = .ok (.bipush 80, 2) := by decide +kernel
theorem dX6_init_138 : decode cX6_init 138 = .ok (.newarray .int, 2) := by decide +kernel
theorem dX6_init_140 : decode cX6_init 140 = .ok (.putfield 62, 3) := by decide +kernel
theorem dX6_init_143 : decode cX6_init 143 = .ok (.aload_n 0, 1) := by decide +kernel
theorem dX6_init_144 : decode cX6_init 144 = .ok (.sipush 1792, 3) := by decide +kernel
theorem dX6_init_147 : decode cX6_init 147 = .ok (.newarray .int, 2) := by decide +kernel
theorem dX6_init_149 : decode cX6_init 149 = .ok (.putfield 65, 3) := by decide +kernel
theorem dX6_init_152 : decode cX6_init 152 = .ok (.aload_n 0, 1) := by decide +kernel
theorem dX6_init_153 : decode cX6_init 153 = .ok (.sipush 1536, 3) := by decide +kernel
theorem dX6_init_156 : decode cX6_init 156 = .ok (.newarray .int, 2) := by decide +kernel
theorem dX6_init_158 : decode cX6_init 158 = .ok (.putfield 68, 3) := by decide +kernel
theorem dX6_init_161 : decode cX6_init 161 = .ok (.aload_n 0, 1) := by decide +kernel
theorem dX6_init_162 : decode cX6_init 162 = .ok (.sipush 256, 3) := by decide +kernel
theorem dX6_init_165 : decode cX6_init 165 = .ok (.newarray .int, 2) := by decide +kernel
theorem dX6_init_167 : decode cX6_init 167 = .ok (.putfield 71, 3) := by decide +kernel
theorem dX6_init_170 : decode cX6_init 170 = .ok (.aload_n 0, 1) := by decide +kernel
theorem dX6_init_171 : decode cX6_init 171 = .ok (.sipush 1536, 3) := by decide +kernel
theorem dX6_init_174 : decode cX6_init 174 = .ok (.newarray .boolean, 2) := by decide +kernel
theorem dX6_init_176 : decode cX6_init 176 = .ok (.putfield 74, 3) := by decide +kernel
theorem dX6_init_179 : decode cX6_init 179 = .ok (.aload_n 0, 1) := by decide +kernel
theorem dX6_init_180 : decode cX6_init 180 = .ok (.bipush 6, 2) := by decide +kernel
theorem dX6_init_182 : decode cX6_init 182 = .ok (.newarray .int, 2) := by decide +kernel
theorem dX6_init_184 : decode cX6_init 184 = .ok (.putfield 78, 3) := by decide +kernel
theorem dX6_init_187 : decode cX6_init 187 = .ok (.aload_n 0, 1) := by decide +kernel
theorem dX6_init_188 : decode cX6_init 188 = .ok (.bipush 8, 2) := by decide +kernel
theorem dX6_init_190 : decode cX6_init 190 = .ok (.newarray .int, 2) := by decide +kernel
theorem dX6_init_192 : decode cX6_init 192 = .ok (.putfield 81, 3) := by decide +kernel
theorem dX6_init_195 : decode cX6_init 195 = .ok (.aload_n 0, 1) := by decide +kernel
theorem dX6_init_196 : decode cX6_init 196 = .ok (.bipush 8, 2) := by decide +kernel
theorem dX6_init_198 : decode cX6_init 198 = .ok (.newarray .int, 2) := by decide +kernel
theorem dX6_init_200 : decode cX6_init 200 = .ok (.putfield 84, 3) := by decide +kernel
theorem dX6_init_203 : decode cX6_init 203 = .ok (.aload_n 0, 1) := by decide +kernel
theorem dX6_init_204 : decode cX6_init 204 = .ok (.iconst 4, 1) := by decide +kernel
theorem dX6_init_205 : decode cX6_init 205 = .ok (.newarray .int, 2) := by decide +kernel
theorem dX6_init_207 : decode cX6_init 207 = .ok (.putfield 87, 3) := by decide +kernel
theorem dX6_init_210 : decode cX6_init 210 = .ok (.aload_n 0, 1) := by decide +kernel
theorem dX6_init_211 : decode cX6_init 211 = .ok (.bipush 40, 2) := by decide +kernel
theorem dX6_init_213 : decode cX6_init 213 = .ok (.newarray .int, 2) := by decide +kernel
theorem dX6_init_215 : decode cX6_init 215 = .ok (.putfield 90, 3) := by decide +kernel
theorem dX6_init_218 : decode cX6_init 218 = .ok (.aload_n 0, 1) := by decide +kernel
theorem dX6_init_219 : decode cX6_init 219 = .ok (.bipush 40, 2) := by decide +kernel
theorem dX6_init_221 : decode cX6_init 221 = .ok (.newarray .int, 2) := by decide +kernel
theorem dX6_init_223 : decode cX6_init 223 = .ok (.putfield 93, 3) := by decide +kernel
theorem dX6_init_226 : decode cX6_init 226 = .ok (.aload_n 0, 1) := by decide +kernel
theorem dX6_init_227 : decode cX6_init 227 = .ok (.bipush 40, 2) := by decide +kernel
theorem dX6_init_229 : decode cX6_init 229 = .ok (.newarray .int, 2) := by decide +kernel
theorem dX6_init_231 : decode cX6_init 231 = .ok (.putfield 96, 3) := by decide +kernel
theorem dX6_init_234 : decode cX6_init 234 = .ok (.aload_n 0, 1) := by decide +kernel
theorem dX6_init_235 : decode cX6_init 235 = .ok (.iconst 4, 1) := by decide +kernel
theorem dX6_init_236 : decode cX6_init 236 = .ok (.newarray .int, 2) := by decide +kernel
theorem dX6_init_238 : decode cX6_init 238 = .ok (.putfield 99, 3) := by decide +kernel
theorem dX6_init_241 : decode cX6_init 241 = .ok (.aload_n 0, 1) := by decide +kernel
theorem dX6_init_242 : decode cX6_init 242 = .ok (.iconst 4, 1) := by decide +kernel
theorem dX6_init_243 : decode cX6_init 243 = .ok (.newarray .int, 2) := by decide +kernel
theorem dX6_init_245 : decode cX6_init 245 = .ok (.putfield 102, 3) := by decide +kernel
theorem dX6_init_248 : decode cX6_init 248 = .ok (.iconst 0, 1) := by decide +kernel
theorem dX6_init_249 : decode cX6_init 249 = .ok (.istore_n 1, 1) := by decide +kernel
theorem dX6_init_250 : decode cX6_init 250 = .ok (.iload_n 1, 1) := by decide +kernel
theorem dX6_init_251 : decode cX6_init 251 = .ok (.iconst 3, 1) := by decide +kernel
theorem dX6_init_252 : decode cX6_init 252 = .ok (.if_icmp .ge 24, 3) := by decide +kernel
theorem dX6_init_255 : decode cX6_init 255 = .ok (.aload_n 0, 1) := by decide +kernel
theorem dX6_init_256 : decode cX6_init 256 = .ok (.getfield 50, 3) := by decide +kernel
theorem dX6_init_259 : decode cX6_init 259 = .ok (.iload_n 1, 1) := by decide +kernel
theorem dX6_init_260 : decode cX6_init 260 = .ok (.bipush 10, 2) := by decide +kernel
theorem dX6_init_262 : decode cX6_init 262 = .ok (.iastore, 1) := by decide +kernel
theorem dX6_init_263 : decode cX6_init 263 = .ok (.aload_n 0, 1) := by decide +kernel
theorem dX6_init_264 : decode cX6_init 264 = .ok (.getfield 53, 3) := by decide +kernel
theorem dX6_init_267 : decode cX6_init 267 = .ok (.iload_n 1, 1) := by decide +kernel
theorem dX6_init_268 : decode cX6_init 268 = .ok (.iconst 5, 1) := by decide +kernel
theorem dX6_init_269 : decode cX6_init 269 = .ok (.iastore, 1) := by decide +kernel
theorem dX6_init_270 : decode cX6_init 270 = .ok (.iinc 1 1, 3) := by decide +kernel
theorem dX6_init_273 : decode cX6_init 273 = .ok (.goto (-23), 3) := by decide +kernel
theorem dX6_init_276 : decode cX6_init 276 = .ok (.return_, 1) := by decide +kernel
theorem dX6_in_0 : decode cX6_in 0 = .ok (.iload_n 0, 1) := by decide +kernel
theorem dX6_in_1 : decode cX6_in 1 = .ok (.iload_n 1, 1) := by decide +kernel
theorem dX6_in_2 : decode cX6_in 2 = .ok (.if_icmp .lt 12, 3) := by decide +kernel
theorem dX6_in_5 : decode cX6_in 5 = .ok (.iload_n 0, 1) := by decide +kernel
theorem dX6_in_6 : decode cX6_in 6 = .ok (.iload_n 2, 1) := by decide +kernel
theorem dX6_in_7 : decode cX6_in 7 = .ok (.if_icmp .gt 7, 3) := by decide +kernel
theorem dX6_in_10 : decode cX6_in 10 = .ok (.iconst 1, 1) := by decide +kernel
theorem dX6_in_11 : decode cX6_in 11 = .ok (.goto 4, 3) := by decide +kernel
theorem dX6_in_14 : decode cX6_in 14 = .ok (.iconst 0, 1) := by decide +kernel
theorem dX6_in_15 : decode cX6_in 15 = .ok (.ireturn, 1) := by decide +kernel
theorem dX6_isFigure_0 : decode cX6_isFigure 0 = .ok (.iload_n 1, 1) := by decide +kernel
theorem dX6_isFigure_1 : decode cX6_isFigure 1 = .ok (.iconst 0, 1) := by decide +kernel
theorem dX6_isFigure_2 : decode cX6_isFigure 2 = .ok (.aload_n 0, 1) := by decide +kernel
theorem dX6_isFigure_3 : decode cX6_isFigure 3 = .ok (.getfield 105, 3) := by decide +kernel
theorem dX6_isFigure_6 : decode cX6_isFigure 6 = .ok (.iconst 1, 1) := by decide +kernel
theorem dX6_isFigure_7 : decode cX6_isFigure 7 = .ok (.isub, 1) := by decide +kernel
theorem dX6_isFigure_8 : decode cX6_isFigure 8 = .ok (.invokestatic 108, 3) := by decide +kernel
theorem dX6_isFigure_11 : decode cX6_isFigure 11 = .ok (.ireturn, 1) := by decide +kernel
theorem dX6_isSet_0 : decode cX6_isSet 0 = .ok (.iload_n 1, 1) := by decide +kernel
theorem dX6_isSet_1 : decode cX6_isSet 1 = .ok (.ifCond .lt 16, 3) := by decide +kernel
theorem dX6_isSet_4 : decode cX6_isSet 4 = .ok (.iload_n 1, 1) := by decide +kernel
theorem dX6_isSet_5 : decode cX6_isSet 5 = .ok (.aload_n 0, 1) := by decide +kernel
theorem dX6_isSet_6 : decode cX6_isSet 6 = .ok (.getfield 105, 3) := by decide +kernel
theorem dX6_isSet_9 : decode cX6_isSet 9 = .ok (.ishr, 1) := by decide +kernel
theorem dX6_isSet_10 : decode cX6_isSet 10 = .ok (.ifCond .ne 7, 3) := by decide +kernel
theorem dX6_isSet_13 : decode cX6_isSet 13 = .ok (.iconst 1, 1) := by decide +kernel
theorem dX6_isSet_14 : decode cX6_isSet 14 = .ok (.goto 4, 3) := by decide +kernel
theorem dX6_isSet_17 : decode cX6_isSet 17 = .ok (.iconst 0, 1) := by decide +kernel
theorem dX6_isSet_18 : decode cX6_isSet 18 = .ok (.ireturn, 1) := by decide +kernel
theorem dX6_figure_0 : decode cX6_figure 0 = .ok (.iload_n 1, 1) := by decide +kernel
theorem dX6_figure_1 : decode cX6_figure 1 = .ok (.iconst 0, 1) := by decide +kernel
theorem dX6_figure_2 : decode cX6_figure 2 = .ok (.sipush 200, 3) := by decide +kernel
theorem dX6_figure_5 : decode cX6_figure 5 = .ok (.invokestatic 108, 3) := by decide +kernel
theorem dX6_figure_8 : decode cX6_figure 8 = .ok (.ifCond .ne 6, 3) := by decide +kernel
theorem dX6_figure_11 : decode cX6_figure 11 = .ok (.bipush (-2), 2) := by decide +kernel
theorem dX6_figure_13 : decode cX6_figure 13 = .ok (.ireturn, 1) := by decide +kernel
theorem dX6_figure_14 : decode cX6_figure 14 = .ok (.aload_n 0, 1) := by decide +kernel
theorem dX6_figure_15 : decode cX6_figure 15 = .ok (.getfield 105, 3) := by decide +kernel
theorem dX6_figure_18 : decode cX6_figure 18 = .ok (.bipush 8, 2) := by decide +kernel
theorem dX6_figure_20 : decode cX6_figure 20 = .ok (.if_icmp .ne 6, 3) := by decide +kernel
theorem dX6_figure_23 : decode cX6_figure 23 = .ok (.bipush (-4), 2) := by decide +kernel
theorem dX6_figure_25 : decode cX6_figure 25 = .ok (.ireturn, 1) := by decide +kernel
theorem dX6_figure_26 : decode cX6_figure 26 = .ok (.aload_n 0, 1) := by decide +kernel
theorem dX6_figure_27 : decode cX6_figure 27 = .ok (.getfield 105, 3) := by decide +kernel
theorem dX6_figure_30 : decode cX6_figure 30 = .ok (.istore_n 2, 1) := by decide +kernel
theorem dX6_figure_31 : decode cX6_figure 31 = .ok (.aload_n 0, 1) := by decide +kernel
theorem dX6_figure_32 : decode cX6_figure 32 = .ok (.getfield 13, 3) := by decide +kernel
theorem dX6_figure_35 : decode cX6_figure 35 = .ok (.iload_n 2, 1) := by decide +kernel
theorem dX6_figure_36 : decode cX6_figure 36 = .ok (.iload_n 1, 1) := by decide +kernel
theorem dX6_figure_37 : decode cX6_figure 37 = .ok (.iastore, 1) := by decide +kernel
theorem dX6_figure_38 : decode cX6_figure 38 = .ok (.aload_n 0, 1) := by decide +kernel
theorem dX6_figure_39 : decode cX6_figure 39 = .ok (.getfield 19, 3) := by decide +kernel
theorem dX6_figure_42 : decode cX6_figure 42 = .ok (.iload_n 2, 1) := by decide +kernel
theorem dX6_figure_43 : decode cX6_figure 43 = .ok (.iconst 5, 1) := by decide +kernel
theorem dX6_figure_44 : decode cX6_figure 44 = .ok (.iastore, 1) := by decide +kernel
theorem dX6_figure_45 : decode cX6_figure 45 = .ok (.aload_n 0, 1) := by decide +kernel
theorem dX6_figure_46 : decode cX6_figure 46 = .ok (.getfield 22, 3) := by decide +kernel
theorem dX6_figure_49 : decode cX6_figure 49 = .ok (.iload_n 2, 1) := by decide +kernel
theorem dX6_figure_50 : decode cX6_figure 50 = .ok (.sipush 1000, 3) := by decide +kernel
theorem dX6_figure_53 : decode cX6_figure 53 = .ok (.iastore, 1) := by decide +kernel
theorem dX6_figure_54 : decode cX6_figure 54 = .ok (.iconst 0, 1) := by decide +kernel
theorem dX6_figure_55 : decode cX6_figure 55 = .ok (.istore_n 3, 1) := by decide +kernel
theorem dX6_figure_56 : decode cX6_figure 56 = .ok (.iload_n 3, 1) := by decide +kernel
theorem dX6_figure_57 : decode cX6_figure 57 = .ok (.iconst 4, 1) := by decide +kernel
theorem dX6_figure_58 : decode cX6_figure 58 = .ok (.if_icmp .ge 33, 3) := by decide +kernel
theorem dX6_figure_61 : decode cX6_figure 61 = .ok (.aload_n 0, 1) := by decide +kernel
theorem dX6_figure_62 : decode cX6_figure 62 = .ok (.getfield 40, 3) := by decide +kernel
theorem dX6_figure_65 : decode cX6_figure 65 = .ok (.iconst 4, 1) := by decide +kernel
theorem dX6_figure_66 : decode cX6_figure 66 = .ok (.iload_n 2, 1) := by decide +kernel
theorem dX6_figure_67 : decode cX6_figure 67 = .ok (.imul, 1) := by decide +kernel
theorem dX6_figure_68 : decode cX6_figure 68 = .ok (.iload_n 3, 1) := by decide +kernel
theorem dX6_figure_69 : decode cX6_figure 69 = .ok (.iadd, 1) := by decide +kernel
theorem dX6_figure_70 : decode cX6_figure 70 = .ok (.sipush 3000, 3) := by decide +kernel
theorem dX6_figure_73 : decode cX6_figure 73 = .ok (.iastore, 1) := by decide +kernel
theorem dX6_figure_74 : decode cX6_figure 74 = .ok (.aload_n 0, 1) := by decide +kernel
theorem dX6_figure_75 : decode cX6_figure 75 = .ok (.getfield 43, 3) := by decide +kernel
theorem dX6_figure_78 : decode cX6_figure 78 = .ok (.iconst 4, 1) := by decide +kernel
theorem dX6_figure_79 : decode cX6_figure 79 = .ok (.iload_n 2, 1) := by decide +kernel
theorem dX6_figure_80 : decode cX6_figure 80 = .ok (.imul, 1) := by decide +kernel
theorem dX6_figure_81 : decode cX6_figure 81 = .ok (.iload_n 3, 1) := by decide +kernel
theorem dX6_figure_82 : decode cX6_figure 82 = .ok (.iadd, 1) := by decide +kernel
theorem dX6_figure_83 : decode cX6_figure 83 = .ok (.iconst (-1), 1) := by decide +kernel
theorem dX6_figure_84 : decode cX6_figure 84 = .ok (.iastore, 1) := by decide +kernel
theorem dX6_figure_85 : decode cX6_figure 85 = .ok (.iinc 3 1, 3) := by decide +kernel
theorem dX6_figure_88 : decode cX6_figure 88 = .ok (.goto (-32), 3) := by decide +kernel
theorem dX6_figure_91 : decode cX6_figure 91 = .ok (.aload_n 0, 1) := by decide +kernel
theorem dX6_figure_92 : decode cX6_figure 92 = .ok (.dup, 1) := by decide +kernel
theorem dX6_figure_93 : decode cX6_figure 93 = .ok (.getfield 105, 3) := by decide +kernel
theorem dX6_figure_96 : decode cX6_figure 96 = .ok (.iconst 1, 1) := by decide +kernel
theorem dX6_figure_97 : decode cX6_figure 97 = .ok (.iadd, 1) := by decide +kernel
theorem dX6_figure_98 : decode cX6_figure 98 = .ok (.putfield 105, 3) := by decide +kernel
theorem dX6_figure_101 : decode cX6_figure 101 = .ok (.iload_n 2, 1) := by decide +kernel
theorem dX6_figure_102 : decode cX6_figure 102 = .ok (.ireturn, 1) := by decide +kernel
theorem dX6_fame_0 : decode cX6_fame 0 = .ok (.aload_n 0, 1) := by decide +kernel
theorem dX6_fame_1 : decode cX6_fame 1 = .ok (.iload_n 1, 1) := by decide +kernel
theorem dX6_fame_2 : decode cX6_fame 2 = .ok (.invokevirtual 112, 3) := by decide +kernel
theorem dX6_fame_5 : decode cX6_fame 5 = .ok (.ifCond .eq 23, 3) := by decide +kernel
theorem dX6_fame_8 : decode cX6_fame 8 = .ok (.iload_n 2, 1) := by decide +kernel
theorem dX6_fame_9 : decode cX6_fame 9 = .ok (.iconst 0, 1) := by decide +kernel
theorem dX6_fame_10 : decode cX6_fame 10 = .ok (.iconst 5, 1) := by decide +kernel
theorem dX6_fame_11 : decode cX6_fame 11 = .ok (.invokestatic 108, 3) := by decide +kernel
theorem dX6_fame_14 : decode cX6_fame 14 = .ok (.ifCond .eq 14, 3) := by decide +kernel
theorem dX6_fame_17 : decode cX6_fame 17 = .ok (.iload_n 3, 1) := by decide +kernel
theorem dX6_fame_18 : decode cX6_fame 18 = .ok (.bipush (-100), 2) := by decide +kernel
theorem dX6_fame_20 : decode cX6_fame 20 = .ok (.bipush 100, 2) := by decide +kernel
theorem dX6_fame_22 : decode cX6_fame 22 = .ok (.invokestatic 108, 3) := by decide +kernel
theorem dX6_fame_25 : decode cX6_fame 25 = .ok (.ifCond .ne 7, 3) := by decide +kernel
theorem dX6_fame_28 : decode cX6_fame 28 = .ok (.sipush (-1000), 3) := by decide +kernel
theorem dX6_fame_31 : decode cX6_fame 31 = .ok (.ireturn, 1) := by decide +kernel
theorem dX6_fame_32 : decode cX6_fame 32 = .ok (.aload_n 0, 1) := by decide +kernel
theorem dX6_fame_33 : decode cX6_fame 33 = .ok (.getfield 7, 3) := by decide +kernel
theorem dX6_fame_36 : decode cX6_fame 36 = .ok (.bipush 6, 2) := by decide +kernel
theorem dX6_fame_38 : decode cX6_fame 38 = .ok (.iload_n 1, 1) := by decide +kernel
theorem dX6_fame_39 : decode cX6_fame 39 = .ok (.imul, 1) := by decide +kernel
theorem dX6_fame_40 : decode cX6_fame 40 = .ok (.iload_n 2, 1) := by decide +kernel
theorem dX6_fame_41 : decode cX6_fame 41 = .ok (.iadd, 1) := by decide +kernel
theorem dX6_fame_42 : decode cX6_fame 42 = .ok (.iaload, 1) := by decide +kernel
theorem dX6_fame_43 : decode cX6_fame 43 = .ok (.istore 4, 2) := by decide +kernel
theorem dX6_fame_45 : decode cX6_fame 45 = .ok (.aload_n 0, 1) := by decide +kernel
theorem dX6_fame_46 : decode cX6_fame 46 = .ok (.getfield 7, 3) := by decide +kernel
theorem dX6_fame_49 : decode cX6_fame 49 = .ok (.bipush 6, 2) := by decide +kernel
theorem dX6_fame_51 : decode cX6_fame 51 = .ok (.iload_n 1, 1) := by decide +kernel
theorem dX6_fame_52 : decode cX6_fame 52 = .ok (.imul, 1) := by decide +kernel
theorem dX6_fame_53 : decode cX6_fame 53 = .ok (.iload_n 2, 1) := by decide +kernel
theorem dX6_fame_54 : decode cX6_fame 54 = .ok (.iadd, 1) := by decide +kernel
theorem dX6_fame_55 : decode cX6_fame 55 = .ok (.iload_n 3, 1) := by decide +kernel
theorem dX6_fame_56 : decode cX6_fame 56 = .ok (.iastore, 1) := by decide +kernel
theorem dX6_fame_57 : decode cX6_fame 57 = .ok (.iload 4, 2) := by decide +kernel
theorem dX6_fame_59 : decode cX6_fame 59 = .ok (.ireturn, 1) := by decide +kernel
theorem dX6_rights_0 : decode cX6_rights 0 = .ok (.aload_n 0, 1) := by decide +kernel
theorem dX6_rights_1 : decode cX6_rights 1 = .ok (.iload_n 1, 1) := by decide +kernel
theorem dX6_rights_2 : decode cX6_rights 2 = .ok (.invokevirtual 112, 3) := by decide +kernel
theorem dX6_rights_5 : decode cX6_rights 5 = .ok (.ifCond .eq 21, 3) := by decide +kernel
theorem dX6_rights_8 : decode cX6_rights 8 = .ok (.iload_n 2, 1) := by decide +kernel
theorem dX6_rights_9 : decode cX6_rights 9 = .ok (.iconst 0, 1) := by decide +kernel
theorem dX6_rights_10 : decode cX6_rights 10 = .ok (.iconst 5, 1) := by decide +kernel
theorem dX6_rights_11 : decode cX6_rights 11 = .ok (.invokestatic 108, 3) := by decide +kernel
theorem dX6_rights_14 : decode cX6_rights 14 = .ok (.ifCond .eq 12, 3) := by decide +kernel
theorem dX6_rights_17 : decode cX6_rights 17 = .ok (.iload_n 3, 1) := by decide +kernel
theorem dX6_rights_18 : decode cX6_rights 18 = .ok (.iload_n 2, 1) := by decide +kernel
theorem dX6_rights_19 : decode cX6_rights 19 = .ok (.iconst 5, 1) := by decide +kernel
theorem dX6_rights_20 : decode cX6_rights 20 = .ok (.invokestatic 108, 3) := by decide +kernel
theorem dX6_rights_23 : decode cX6_rights 23 = .ok (.ifCond .ne 6, 3) := by decide +kernel
theorem dX6_rights_26 : decode cX6_rights 26 = .ok (.bipush (-2), 2) := by decide +kernel
theorem dX6_rights_28 : decode cX6_rights 28 = .ok (.ireturn, 1) := by decide +kernel
theorem dX6_rights_29 : decode cX6_rights 29 = .ok (.aload_n 0, 1) := by decide +kernel
theorem dX6_rights_30 : decode cX6_rights 30 = .ok (.getfield 16, 3) := by decide +kernel
theorem dX6_rights_33 : decode cX6_rights 33 = .ok (.iload_n 1, 1) := by decide +kernel
theorem dX6_rights_34 : decode cX6_rights 34 = .ok (.iload_n 2, 1) := by decide +kernel
theorem dX6_rights_35 : decode cX6_rights 35 = .ok (.iastore, 1) := by decide +kernel
theorem dX6_rights_36 : decode cX6_rights 36 = .ok (.aload_n 0, 1) := by decide +kernel
theorem dX6_rights_37 : decode cX6_rights 37 = .ok (.getfield 19, 3) := by decide +kernel
theorem dX6_rights_40 : decode cX6_rights 40 = .ok (.iload_n 1, 1) := by decide +kernel
theorem dX6_rights_41 : decode cX6_rights 41 = .ok (.iload_n 3, 1) := by decide +kernel
theorem dX6_rights_42 : decode cX6_rights 42 = .ok (.iastore, 1) := by decide +kernel
theorem dX6_rights_43 : decode cX6_rights 43 = .ok (.iconst 1, 1) := by decide +kernel
theorem dX6_rights_44 : decode cX6_rights 44 = .ok (.ireturn, 1) := by decide +kernel
theorem dX6_places_0 : decode cX6_places 0 = .ok (.iload_n 1, 1) := by decide +kernel
theorem dX6_places_1 : decode cX6_places 1 = .ok (.iconst 1, 1) := by decide +kernel
theorem dX6_places_2 : decode cX6_places 2 = .ok (.iconst 5, 1) := by decide +kernel
theorem dX6_places_3 : decode cX6_places 3 = .ok (.invokestatic 108, 3) := by decide +kernel
theorem dX6_places_6 : decode cX6_places 6 = .ok (.ifCond .ne 6, 3) := by decide +kernel
theorem dX6_places_9 : decode cX6_places 9 = .ok (.bipush (-2), 2) := by decide +kernel
theorem dX6_places_11 : decode cX6_places 11 = .ok (.ireturn, 1) := by decide +kernel
theorem dX6_places_12 : decode cX6_places 12 = .ok (.aload_n 0, 1) := by decide +kernel
theorem dX6_places_13 : decode cX6_places 13 = .ok (.getfield 46, 3) := by decide +kernel
theorem dX6_places_16 : decode cX6_places 16 = .ok (.istore_n 2, 1) := by decide +kernel
theorem dX6_places_17 : decode cX6_places 17 = .ok (.aload_n 0, 1) := by decide +kernel
theorem dX6_places_18 : decode cX6_places 18 = .ok (.iload_n 1, 1) := by decide +kernel
theorem dX6_places_19 : decode cX6_places 19 = .ok (.putfield 46, 3) := by decide +kernel
theorem dX6_places_22 : decode cX6_places 22 = .ok (.iload_n 2, 1) := by decide +kernel
theorem dX6_places_23 : decode cX6_places 23 = .ok (.ireturn, 1) := by decide +kernel
theorem dX6_standing_0 : decode cX6_standing 0 = .ok (.aload_n 0, 1) := by decide +kernel
theorem dX6_standing_1 : decode cX6_standing 1 = .ok (.iload_n 1, 1) := by decide +kernel
theorem dX6_standing_2 : decode cX6_standing 2 = .ok (.invokevirtual 116, 3) := by decide +kernel
theorem dX6_standing_5 : decode cX6_standing 5 = .ok (.ifCond .ne 6, 3) := by decide +kernel
theorem dX6_standing_8 : decode cX6_standing 8 = .ok (.bipush (-2), 2) := by decide +kernel
theorem dX6_standing_10 : decode cX6_standing 10 = .ok (.ireturn, 1) := by decide +kernel
theorem dX6_standing_11 : decode cX6_standing 11 = .ok (.aload_n 0, 1) := by decide +kernel
theorem dX6_standing_12 : decode cX6_standing 12 = .ok (.getfield 119, 3) := by decide +kernel
theorem dX6_standing_15 : decode cX6_standing 15 = .ok (.istore_n 2, 1) := by decide +kernel
theorem dX6_standing_16 : decode cX6_standing 16 = .ok (.aload_n 0, 1) := by decide +kernel
theorem dX6_standing_17 : decode cX6_standing 17 = .ok (.iload_n 1, 1) := by decide +kernel
theorem dX6_standing_18 : decode cX6_standing 18 = .ok (.putfield 119, 3) := by decide +kernel
theorem dX6_standing_21 : decode cX6_standing 21 = .ok (.iload_n 2, 1) := by decide +kernel
theorem dX6_standing_22 : decode cX6_standing 22 = .ok (.ireturn, 1) := by decide +kernel
theorem dX6_laySets_0 : decode cX6_laySets 0 = .ok (.iconst 0, 1) := by decide +kernel
theorem dX6_laySets_1 : decode cX6_laySets 1 = .ok (.istore_n 1, 1) := by decide +kernel
theorem dX6_laySets_2 : decode cX6_laySets 2 = .ok (.iload_n 1, 1) := by decide +kernel
theorem dX6_laySets_3 : decode cX6_laySets 3 = .ok (.iconst 1, 1) := by decide +kernel
theorem dX6_laySets_4 : decode cX6_laySets 4 = .ok (.aload_n 0, 1) := by decide +kernel
theorem dX6_laySets_5 : decode cX6_laySets 5 = .ok (.getfield 105, 3) := by decide +kernel
theorem dX6_laySets_8 : decode cX6_laySets 8 = .ok (.ishl, 1) := by decide +kernel
theorem dX6_laySets_9 : decode cX6_laySets 9 = .ok (.if_icmp .ge 201, 3) := by decide +kernel
theorem dX6_laySets_12 : decode cX6_laySets 12 = .ok (.aload_n 0, 1) := by decide +kernel
theorem dX6_laySets_13 : decode cX6_laySets 13 = .ok (.getfield 71, 3) := by decide +kernel
theorem dX6_laySets_16 : decode cX6_laySets 16 = .ok (.iload_n 1, 1) := by decide +kernel
theorem dX6_laySets_17 : decode cX6_laySets 17 = .ok (.iconst 0, 1) := by decide +kernel
theorem dX6_laySets_18 : decode cX6_laySets 18 = .ok (.iastore, 1) := by decide +kernel
theorem dX6_laySets_19 : decode cX6_laySets 19 = .ok (.iconst 0, 1) := by decide +kernel
theorem dX6_laySets_20 : decode cX6_laySets 20 = .ok (.istore_n 2, 1) := by decide +kernel
theorem dX6_laySets_21 : decode cX6_laySets 21 = .ok (.iconst 0, 1) := by decide +kernel
theorem dX6_laySets_22 : decode cX6_laySets 22 = .ok (.istore_n 3, 1) := by decide +kernel
theorem dX6_laySets_23 : decode cX6_laySets 23 = .ok (.iload_n 3, 1) := by decide +kernel
theorem dX6_laySets_24 : decode cX6_laySets 24 = .ok (.aload_n 0, 1) := by decide +kernel
theorem dX6_laySets_25 : decode cX6_laySets 25 = .ok (.getfield 105, 3) := by decide +kernel
theorem dX6_laySets_28 : decode cX6_laySets 28 = .ok (.if_icmp .ge 38, 3) := by decide +kernel
theorem dX6_laySets_31 : decode cX6_laySets 31 = .ok (.aload_n 0, 1) := by decide +kernel

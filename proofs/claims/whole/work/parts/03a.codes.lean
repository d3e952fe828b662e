theorem dX0_init_0 : decode cX0_init 0 = .ok (.aload_n 0, 1) := by decide +kernel
theorem dX0_init_1 : decode cX0_init 1 = .ok (.invokespecial 3, 3) := by decide +kernel
theorem dX0_init_4 : decode cX0_init 4 = .ok (.aload_n 0, 1) := by decide +kernel
theorem dX0_init_5 : decode cX0_init 5 = .ok (.iconst 0, 1) := by decide +kernel
theorem dX0_init_6 : decode cX0_init 6 = .ok (.putfield 9, 3) := by decide +kernel
theorem dX0_init_9 : decode cX0_init 9 = .ok (.aload_n 0, 1) := by decide +kernel
theorem dX0_init_10 : decode cX0_init 10 = .ok (.bipush 20, 2) := by decide +kernel
theorem dX0_init_12 : decode cX0_init 12 = .ok (.newarray .int, 2) := by decide +kernel
theorem dX0_init_14 : decode cX0_init 14 = .ok (.putfield 15, 3) := by decide +kernel
theorem dX0_init_17 : decode cX0_init 17 = .ok (.aload_n 0, 1) := by decide +kernel
theorem dX0_init_18 : decode cX0_init 18 = .ok (.bipush 20, 2) := by decide +kernel
theorem dX0_init_20 : decode cX0_init 20 = .ok (.iconst 4, 1) := by decide +kernel
theorem dX0_init_21 : decode cX0_init 21 = .ok (.multianewarray 19 2, 4) := by decide +kernel
theorem dX0_init_25 : decode cX0_init 25 = .ok (.putfield 21, 3) := by decide +kernel
theorem dX0_init_28 : decode cX0_init 28 = .ok (.return_, 1) := by decide +kernel
theorem dX0_add_0 : decode cX0_add 0 = .ok (.aload_n 0, 1) := by decide +kernel
theorem dX0_add_1 : decode cX0_add 1 = .ok (.getfield 15, 3) := by decide +kernel
theorem dX0_add_4 : decode cX0_add 4 = .ok (.aload_n 0, 1) := by decide +kernel
theorem dX0_add_5 : decode cX0_add 5 = .ok (.getfield 9, 3) := by decide +kernel
theorem dX0_add_8 : decode cX0_add 8 = .ok (.iload_n 1, 1) := by decide +kernel
theorem dX0_add_9 : decode cX0_add 9 = .ok (.iastore, 1) := by decide +kernel
theorem dX0_add_10 : decode cX0_add 10 = .ok (.aload_n 0, 1) := by decide +kernel
theorem dX0_add_11 : decode cX0_add 11 = .ok (.getfield 21, 3) := by decide +kernel
theorem dX0_add_14 : decode cX0_add 14 = .ok (.aload_n 0, 1) := by decide +kernel
theorem dX0_add_15 : decode cX0_add 15 = .ok (.getfield 9, 3) := by decide +kernel
theorem dX0_add_18 : decode cX0_add 18 = .ok (.aaload, 1) := by decide +kernel
theorem dX0_add_19 : decode cX0_add 19 = .ok (.iconst 0, 1) := by decide +kernel
theorem dX0_add_20 : decode cX0_add 20 = .ok (.iload_n 2, 1) := by decide +kernel
theorem dX0_add_21 : decode cX0_add 21 = .ok (.iastore, 1) := by decide +kernel
theorem dX0_add_22 : decode cX0_add 22 = .ok (.aload_n 0, 1) := by decide +kernel
theorem dX0_add_23 : decode cX0_add 23 = .ok (.getfield 21, 3) := by decide +kernel
theorem dX0_add_26 : decode cX0_add 26 = .ok (.aload_n 0, 1) := by decide +kernel
theorem dX0_add_27 : decode cX0_add 27 = .ok (.getfield 9, 3) := by decide +kernel
theorem dX0_add_30 : decode cX0_add 30 = .ok (.aaload, 1) := by decide +kernel
theorem dX0_add_31 : decode cX0_add 31 = .ok (.iconst 1, 1) := by decide +kernel
theorem dX0_add_32 : decode cX0_add 32 = .ok (.iload_n 3, 1) := by decide +kernel
theorem dX0_add_33 : decode cX0_add 33 = .ok (.iastore, 1) := by decide +kernel
theorem dX0_add_34 : decode cX0_add 34 = .ok (.aload_n 0, 1) := by decide +kernel
theorem dX0_add_35 : decode cX0_add 35 = .ok (.getfield 21, 3) := by decide +kernel
theorem dX0_add_38 : decode cX0_add 38 = .ok (.aload_n 0, 1) := by decide +kernel
theorem dX0_add_39 : decode cX0_add 39 = .ok (.getfield 9, 3) := by decide +kernel
theorem dX0_add_42 : decode cX0_add 42 = .ok (.aaload, 1) := by decide +kernel
theorem dX0_add_43 : decode cX0_add 43 = .ok (.iconst 2, 1) := by decide +kernel
theorem dX0_add_44 : decode cX0_add 44 = .ok (.iload 4, 2) := by decide +kernel
theorem dX0_add_46 : decode cX0_add 46 = .ok (.iastore, 1) := by decide +kernel
theorem dX0_add_47 : decode cX0_add 47 = .ok (.aload_n 0, 1) := by decide +kernel
theorem dX0_add_48 : decode cX0_add 48 = .ok (.getfield 21, 3) := by decide +kernel
theorem dX0_add_51 : decode cX0_add 51 = .ok (.aload_n 0, 1) := by decide +kernel
theorem dX0_add_52 : decode cX0_add 52 = .ok (.getfield 9, 3) := by decide +kernel
theorem dX0_add_55 : decode cX0_add 55 = .ok (.aaload, 1) := by decide +kernel
theorem dX0_add_56 : decode cX0_add 56 = .ok (.iconst 3, 1) := by decide +kernel
theorem dX0_add_57 : decode cX0_add 57 = .ok (.iload 5, 2) := by decide +kernel
theorem dX0_add_59 : decode cX0_add 59 = .ok (.iastore, 1) := by decide +kernel
theorem dX0_add_60 : decode cX0_add 60 = .ok (.aload_n 0, 1) := by decide +kernel
theorem dX0_add_61 : decode cX0_add 61 = .ok (.dup, 1) := by decide +kernel
theorem dX0_add_62 : decode cX0_add 62 = .ok (.getfield 9, 3) := by decide +kernel
theorem dX0_add_65 : decode cX0_add 65 = .ok (.iconst 1, 1) := by decide +kernel
theorem dX0_add_66 : decode cX0_add 66 = .ok (.iadd, 1) := by decide +kernel
theorem dX0_add_67 : decode cX0_add 67 = .ok (.putfield 9, 3) := by decide +kernel
theorem dX0_add_70 : decode cX0_add 70 = .ok (.aload_n 0, 1) := by decide +kernel
theorem dX0_add_71 : decode cX0_add 71 = .ok (.getfield 9, 3) := by decide +kernel
theorem dX0_add_74 : decode cX0_add 74 = .ok (.ireturn, 1) := by decide +kernel
theorem dX1_init_0 : decode cX1_init 0 = .ok (.aload_n 0, 1) := by decide +kernel
theorem dX1_init_1 : decode cX1_init 1 = .ok (.invokespecial 3, 3) := by decide +kernel
theorem dX1_init_4 : decode cX1_init 4 = .ok (.aload_n 0, 1) := by decide +kernel
theorem dX1_init_5 : decode cX1_init 5 = .ok (.iconst 0, 1) := by decide +kernel
theorem dX1_init_6 : decode cX1_init 6 = .ok (.putfield 9, 3) := by decide +kernel
theorem dX1_init_9 : decode cX1_init 9 = .ok (.aload_n 0, 1) := by decide +kernel
theorem dX1_init_10 : decode cX1_init 10 = .ok (.iconst 0, 1) := by decide +kernel
theorem dX1_init_11 : decode cX1_init 11 = .ok (.putfield 15, 3) := by decide +kernel
theorem dX1_init_14 : decode cX1_init 14 = .ok (.aload_n 0, 1) := by decide +kernel
theorem dX1_init_15 : decode cX1_init 15 = .ok (.iconst 5, 1) := by decide +kernel
theorem dX1_init_16 : decode cX1_init 16 = .ok (.putfield 18, 3) := by decide +kernel
theorem dX1_init_19 : decode cX1_init 19 = .ok (.aload_n 0, 1) := by decide +kernel
theorem dX1_init_20 : decode cX1_init 20 = .ok (.sipush 1000, 3) := by decide +kernel
theorem dX1_init_23 : decode cX1_init 23 = .ok (.putfield 21, 3) := by decide +kernel
theorem dX1_init_26 : decode cX1_init 26 = .ok (.aload_n 0, 1) := by decide +kernel
theorem dX1_init_27 : decode cX1_init 27 = .ok (.iconst 0, 1) := by decide +kernel
theorem dX1_init_28 : decode cX1_init 28 = .ok (.putfield 24, 3) := by decide +kernel
theorem dX1_init_31 : decode cX1_init 31 = .ok (.aload_n 0, 1) := by decide +kernel
theorem dX1_init_32 : decode cX1_init 32 = .ok (.iconst 0, 1) := by decide +kernel
theorem dX1_init_33 : decode cX1_init 33 = .ok (.putfield 27, 3) := by decide +kernel
theorem dX1_init_36 : decode cX1_init 36 = .ok (.aload_n 0, 1) := by decide +kernel
theorem dX1_init_37 : decode cX1_init 37 = .ok (.bipush 6, 2) := by decide +kernel
theorem dX1_init_39 : decode cX1_init 39 = .ok (.newarray .int, 2) := by decide +kernel
theorem dX1_init_41 : decode cX1_init 41 = .ok (.putfield 30, 3) := by decide +kernel
theorem dX1_init_44 : decode cX1_init 44 = .ok (.aload_n 0, 1) := by decide +kernel
theorem dX1_init_45 : decode cX1_init 45 = .ok (.iconst 4, 1) := by decide +kernel
theorem dX1_init_46 : decode cX1_init 46 = .ok (.newarray .int, 2) := by decide +kernel
theorem dX1_init_48 : decode cX1_init 48 = .ok (.putfield 34, 3) := by decide +kernel
theorem dX1_init_51 : decode cX1_init 51 = .ok (.aload_n 0, 1) := by decide +kernel
theorem dX1_init_52 : decode cX1_init 52 = .ok (.iconst 4, 1) := by decide +kernel
theorem dX1_init_53 : decode cX1_init 53 = .ok (.newarray .int, 2) := by decide +kernel
theorem dX1_init_55 : decode cX1_init 55 = .ok (.putfield 37, 3) := by decide +kernel
theorem dX1_init_58 : decode cX1_init 58 = .ok (.aload_n 0, 1) := by decide +kernel
theorem dX1_init_59 : decode cX1_init 59 = .ok (.iconst 4, 1) := by decide +kernel
theorem dX1_init_60 : decode cX1_init 60 = .ok (.newarray .int, 2) := by decide +kernel
theorem dX1_init_62 : decode cX1_init 62 = .ok (.putfield 40, 3) := by decide +kernel
theorem dX1_init_65 : decode cX1_init 65 = .ok (.aload_n 0, 1) := by decide +kernel
theorem dX1_init_66 : decode cX1_init 66 = .ok (.iconst 4, 1) := by decide +kernel
theorem dX1_init_67 : decode cX1_init 67 = .ok (.newarray .int, 2) := by decide +kernel
theorem dX1_init_69 : decode cX1_init 69 = .ok (.putfield 43, 3) := by decide +kernel
theorem dX1_init_72 : decode cX1_init 72 = .ok (.aload_n 0, 1) := by decide +kernel
theorem dX1_init_73 : decode cX1_init 73 = .ok (.iconst 4, 1) := by decide +kernel
theorem dX1_init_74 : decode cX1_init 74 = .ok (.newarray .int, 2) := by decide +kernel
theorem dX1_init_76 : decode cX1_init 76 = .ok (.putfield 46, 3) := by decide +kernel
theorem dX1_init_79 : decode cX1_init 79 = .ok (.iconst 0, 1) := by decide +kernel
theorem dX1_init_80 : decode cX1_init 80 = .ok (.istore_n 1, 1) := by decide +kernel
theorem dX1_init_81 : decode cX1_init 81 = .ok (.iload_n 1, 1) := by decide +kernel
theorem dX1_init_82 : decode cX1_init 82 = .ok (.iconst 4, 1) := by decide +kernel
theorem dX1_init_83 : decode cX1_init 83 = .ok (.if_icmp .ge 25, 3) := by decide +kernel
theorem dX1_init_86 : decode cX1_init 86 = .ok (.aload_n 0, 1) := by decide +kernel
theorem dX1_init_87 : decode cX1_init 87 = .ok (.getfield 43, 3) := by decide +kernel
theorem dX1_init_90 : decode cX1_init 90 = .ok (.iload_n 1, 1) := by decide +kernel
theorem dX1_init_91 : decode cX1_init 91 = .ok (.sipush 3000, 3) := by decide +kernel
theorem dX1_init_94 : decode cX1_init 94 = .ok (.iastore, 1) := by decide +kernel
theorem dX1_init_95 : decode cX1_init 95 = .ok (.aload_n 0, 1) := by decide +kernel
theorem dX1_init_96 : decode cX1_init 96 = .ok (.getfield 46, 3) := by decide +kernel
theorem dX1_init_99 : decode cX1_init 99 = .ok (.iload_n 1, 1) := by decide +kernel
theorem dX1_init_100 : decode cX1_init 100 = .ok (.iconst (-1), 1) := by decide +kernel
theorem dX1_init_101 : decode cX1_init 101 = .ok (.iastore, 1) := by decide +kernel
theorem dX1_init_102 : decode cX1_init 102 = .ok (.iinc 1 1, 3) := by decide +kernel
theorem dX1_init_105 : decode cX1_init 105 = .ok (.goto (-24), 3) := by decide +kernel
theorem dX1_init_108 : decode cX1_init 108 = .ok (.return_, 1) := by decide +kernel
theorem dX1_hasRights_0 : decode cX1_hasRights 0 = .ok (.iload_n 1, 1) := by decide +kernel
theorem dX1_hasRights_1 : decode cX1_hasRights 1 = .ok (.aload_n 0, 1) := by decide +kernel
theorem dX1_hasRights_2 : decode cX1_hasRights 2 = .ok (.getfield 15, 3) := by decide +kernel
theorem dX1_hasRights_5 : decode cX1_hasRights 5 = .ok (.aload_n 0, 1) := by decide +kernel
theorem dX1_hasRights_6 : decode cX1_hasRights 6 = .ok (.getfield 18, 3) := by decide +kernel
theorem dX1_hasRights_9 : decode cX1_hasRights 9 = .ok (.invokestatic 49, 3) := by decide +kernel
theorem dX1_hasRights_12 : decode cX1_hasRights 12 = .ok (.ireturn, 1) := by decide +kernel
theorem dX1_addPicture_0 : decode cX1_addPicture 0 = .ok (.aload_n 0, 1) := by decide +kernel
theorem dX1_addPicture_1 : decode cX1_addPicture 1 = .ok (.getfield 46, 3) := by decide +kernel
theorem dX1_addPicture_4 : decode cX1_addPicture 4 = .ok (.iload_n 1, 1) := by decide +kernel
theorem dX1_addPicture_5 : decode cX1_addPicture 5 = .ok (.iaload, 1) := by decide +kernel
theorem dX1_addPicture_6 : decode cX1_addPicture 6 = .ok (.iconst (-1), 1) := by decide +kernel
theorem dX1_addPicture_7 : decode cX1_addPicture 7 = .ok (.if_icmp .ne 62, 3) := by decide +kernel
theorem dX1_addPicture_10 : decode cX1_addPicture 10 = .ok (.aload_n 0, 1) := by decide +kernel
theorem dX1_addPicture_11 : decode cX1_addPicture 11 = .ok (.getfield 40, 3) := by decide +kernel
theorem dX1_addPicture_14 : decode cX1_addPicture 14 = .ok (.iload_n 1, 1) := by decide +kernel
theorem dX1_addPicture_15 : decode cX1_addPicture 15 = .ok (.aload_n 0, 1) := by decide +kernel
theorem dX1_addPicture_16 : decode cX1_addPicture 16 = .ok (.getfield 40, 3) := by decide +kernel
theorem dX1_addPicture_19 : decode cX1_addPicture 19 = .ok (.iload_n 1, 1) := by decide +kernel
theorem dX1_addPicture_20 : decode cX1_addPicture 20 = .ok (.iaload, 1) := by decide +kernel
theorem dX1_addPicture_21 : decode cX1_addPicture 21 = .ok (.iload_n 2, 1) := by decide +kernel
theorem dX1_addPicture_22 : decode cX1_addPicture 22 = .ok (.invokestatic 53, 3) := by decide +kernel
theorem dX1_addPicture_25 : decode cX1_addPicture 25 = .ok (.iastore, 1) := by decide +kernel
theorem dX1_addPicture_26 : decode cX1_addPicture 26 = .ok (.aload_n 0, 1) := by decide +kernel
theorem dX1_addPicture_27 : decode cX1_addPicture 27 = .ok (.getfield 43, 3) := by decide +kernel
theorem dX1_addPicture_30 : decode cX1_addPicture 30 = .ok (.iload_n 1, 1) := by decide +kernel
theorem dX1_addPicture_31 : decode cX1_addPicture 31 = .ok (.aload_n 0, 1) := by decide +kernel
theorem dX1_addPicture_32 : decode cX1_addPicture 32 = .ok (.getfield 43, 3) := by decide +kernel
theorem dX1_addPicture_35 : decode cX1_addPicture 35 = .ok (.iload_n 1, 1) := by decide +kernel
theorem dX1_addPicture_36 : decode cX1_addPicture 36 = .ok (.iaload, 1) := by decide +kernel
theorem dX1_addPicture_37 : decode cX1_addPicture 37 = .ok (.iload_n 3, 1) := by decide +kernel
theorem dX1_addPicture_38 : decode cX1_addPicture 38 = .ok (.invokestatic 59, 3) := by decide +kernel
theorem dX1_addPicture_41 : decode cX1_addPicture 41 = .ok (.iastore, 1) := by decide +kernel
theorem dX1_addPicture_42 : decode cX1_addPicture 42 = .ok (.aload_n 0, 1) := by decide +kernel
theorem dX1_addPicture_43 : decode cX1_addPicture 43 = .ok (.getfield 40, 3) := by decide +kernel
theorem dX1_addPicture_46 : decode cX1_addPicture 46 = .ok (.iload_n 1, 1) := by decide +kernel
theorem dX1_addPicture_47 : decode cX1_addPicture 47 = .ok (.iaload, 1) := by decide +kernel
theorem dX1_addPicture_48 : decode cX1_addPicture 48 = .ok (.aload_n 0, 1) := by decide +kernel
theorem dX1_addPicture_49 : decode cX1_addPicture 49 = .ok (.getfield 43, 3) := by decide +kernel
theorem dX1_addPicture_52 : decode cX1_addPicture 52 = .ok (.iload_n 1, 1) := by decide +kernel
theorem dX1_addPicture_53 : decode cX1_addPicture 53 = .ok (.iaload, 1) := by decide +kernel
theorem dX1_addPicture_54 : decode cX1_addPicture 54 = .ok (.if_icmp .le 15, 3) := by decide +kernel
theorem dX1_addPicture_57 : decode cX1_addPicture 57 = .ok (.aload_n 0, 1) := by decide +kernel
theorem dX1_addPicture_58 : decode cX1_addPicture 58 = .ok (.getfield 46, 3) := by decide +kernel
theorem dX1_addPicture_61 : decode cX1_addPicture 61 = .ok (.iload_n 1, 1) := by decide +kernel
theorem dX1_addPicture_62 : decode cX1_addPicture 62 = .ok (.aload_n 0, 1) := by decide +kernel
theorem dX1_addPicture_63 : decode cX1_addPicture 63 = .ok (.getfield 37, 3) := by decide +kernel
theorem dX1_addPicture_66 : decode cX1_addPicture 66 = .ok (.iload_n 1, 1) := by decide +kernel
theorem dX1_addPicture_67 : decode cX1_addPicture 67 = .ok (.iaload, 1) := by decide +kernel
theorem dX1_addPicture_68 : decode cX1_addPicture 68 = .ok (.iastore, 1) := by decide +kernel
theorem dX1_addPicture_69 : decode cX1_addPicture 69 = .ok (.aload_n 0, 1) := by decide +kernel
theorem dX1_addPicture_70 : decode cX1_addPicture 70 = .ok (.getfield 37, 3) := by decide +kernel
theorem dX1_addPicture_73 : decode cX1_addPicture 73 = .ok (.iload_n 1, 1) := by decide +kernel
theorem dX1_addPicture_74 : decode cX1_addPicture 74 = .ok (.dup2, 1) := by decide +kernel
theorem dX1_addPicture_75 : decode cX1_addPicture 75 = .ok (.iaload, 1) := by decide +kernel
theorem dX1_addPicture_76 : decode cX1_addPicture 76 = .ok (.iconst 1, 1) := by decide +kernel
theorem dX1_addPicture_77 : decode cX1_addPicture 77 = .ok (.iadd, 1) := by decide +kernel
theorem dX1_addPicture_78 : decode cX1_addPicture 78 = .ok (.iastore, 1) := by decide +kernel
theorem dX1_addPicture_79 : decode cX1_addPicture 79 = .ok (.aload_n 0, 1) := by decide +kernel
theorem dX1_addPicture_80 : decode cX1_addPicture 80 = .ok (.getfield 37, 3) := by decide +kernel
theorem dX1_addPicture_83 : decode cX1_addPicture 83 = .ok (.iload_n 1, 1) := by decide +kernel
theorem dX1_addPicture_84 : decode cX1_addPicture 84 = .ok (.iaload, 1) := by decide +kernel
theorem dX1_addPicture_85 : decode cX1_addPicture 85 = .ok (.ireturn, 1) := by decide +kernel
theorem dX1_agreesInAll_0 : decode cX1_agreesInAll 0 = .ok (.iconst 0, 1) := by decide +kernel
theorem dX1_agreesInAll_1 : decode cX1_agreesInAll 1 = .ok (.istore_n 1, 1) := by decide +kernel
theorem dX1_agreesInAll_2 : decode cX1_agreesInAll 2 = .ok (.iload_n 1, 1) := by decide +kernel
theorem dX1_agreesInAll_3 : decode cX1_agreesInAll 3 = .ok (.iconst 4, 1) := by decide +kernel
theorem dX1_agreesInAll_4 : decode cX1_agreesInAll 4 = .ok (.if_icmp .ge 21, 3) := by decide +kernel
theorem dX1_agreesInAll_7 : decode cX1_agreesInAll 7 = .ok (.aload_n 0, 1) := by decide +kernel
theorem dX1_agreesInAll_8 : decode cX1_agreesInAll 8 = .ok (.getfield 46, 3) := by decide +kernel
theorem dX1_agreesInAll_11 : decode cX1_agreesInAll 11 = .ok (.iload_n 1, 1) := by decide +kernel
theorem dX1_agreesInAll_12 : decode cX1_agreesInAll 12 = .ok (.iaload, 1) := by decide +kernel
theorem dX1_agreesInAll_13 : decode cX1_agreesInAll 13 = .ok (.iconst (-1), 1) := by decide +kernel
theorem dX1_agreesInAll_14 : decode cX1_agreesInAll 14 = .ok (.if_icmp .eq 5, 3) := by decide +kernel
theorem dX1_agreesInAll_17 : decode cX1_agreesInAll 17 = .ok (.iconst 0, 1) := by decide +kernel
theorem dX1_agreesInAll_18 : decode cX1_agreesInAll 18 = .ok (.ireturn, 1) := by decide +kernel
theorem dX1_agreesInAll_19 : decode cX1_agreesInAll 19 = .ok (.iinc 1 1, 3) := by decide +kernel
theorem dX1_agreesInAll_22 : decode cX1_agreesInAll 22 = .ok (.goto (-20), 3) := by decide +kernel
theorem dX1_agreesInAll_25 : decode cX1_agreesInAll 25 = .ok (.iconst 1, 1) := by decide +kernel
theorem dX1_agreesInAll_26 : decode cX1_agreesInAll 26 = .ok (.ireturn, 1) := by decide +kernel
theorem dX1_distance_0 : decode cX1_distance 0 = .ok (.aload_n 0, 1) := by decide +kernel
theorem dX1_distance_1 : decode cX1_distance 1 = .ok (.iconst 0, 1) := by decide +kernel
theorem dX1_distance_2 : decode cX1_distance 2 = .ok (.iload_n 1, 1) := by decide +kernel
theorem dX1_distance_3 : decode cX1_distance 3 = .ok (.invokevirtual 62, 3) := by decide +kernel
theorem dX1_distance_6 : decode cX1_distance 6 = .ok (.aload_n 0, 1) := by decide +kernel
theorem dX1_distance_7 : decode cX1_distance 7 = .ok (.iconst 1, 1) := by decide +kernel
theorem dX1_distance_8 : decode cX1_distance 8 = .ok (.iload_n 2, 1) := by decide +kernel
theorem dX1_distance_9 : decode cX1_distance 9 = .ok (.invokevirtual 62, 3) := by decide +kernel
theorem dX1_distance_12 : decode cX1_distance 12 = .ok (.iadd, 1) := by decide +kernel
theorem dX1_distance_13 : decode cX1_distance 13 = .ok (.aload_n 0, 1) := by decide +kernel
theorem dX1_distance_14 : decode cX1_distance 14 = .ok (.iconst 2, 1) := by decide +kernel
theorem dX1_distance_15 : decode cX1_distance 15 = .ok (.iload_n 3, 1) := by decide +kernel
theorem dX1_distance_16 : decode cX1_distance 16 = .ok (.invokevirtual 62, 3) := by decide +kernel
theorem dX1_distance_19 : decode cX1_distance 19 = .ok (.iadd, 1) := by decide +kernel
theorem dX1_distance_20 : decode cX1_distance 20 = .ok (.aload_n 0, 1) := by decide +kernel
theorem dX1_distance_21 : decode cX1_distance 21 = .ok (.iconst 3, 1) := by decide +kernel
theorem dX1_distance_22 : decode cX1_distance 22 = .ok (.iload 4, 2) := by decide +kernel
theorem dX1_distance_24 : decode cX1_distance 24 = .ok (.invokevirtual 62, 3) := by decide +kernel
theorem dX1_distance_27 : decode cX1_distance 27 = .ok (.iadd, 1) := by decide +kernel
theorem dX1_distance_28 : decode cX1_distance 28 = .ok (.ireturn, 1) := by decide +kernel
theorem dX1_squareFrom_0 : decode cX1_squareFrom 0 = .ok (.aload_n 0, 1) := by decide +kernel
theorem dX1_squareFrom_1 : decode cX1_squareFrom 1 = .ok (.getfield 40, 3) := by decide +kernel
theorem dX1_squareFrom_4 : decode cX1_squareFrom 4 = .ok (.iload_n 1, 1) := by decide +kernel
theorem dX1_squareFrom_5 : decode cX1_squareFrom 5 = .ok (.iaload, 1) := by decide +kernel
theorem dX1_squareFrom_6 : decode cX1_squareFrom 6 = .ok (.aload_n 0, 1) := by decide +kernel
theorem dX1_squareFrom_7 : decode cX1_squareFrom 7 = .ok (.getfield 43, 3) := by decide +kernel
theorem dX1_squareFrom_10 : decode cX1_squareFrom 10 = .ok (.iload_n 1, 1) := by decide +kernel
theorem dX1_squareFrom_11 : decode cX1_squareFrom 11 = .ok (.iaload, 1) := by decide +kernel
theorem dX1_squareFrom_12 : decode cX1_squareFrom 12 = .ok (.iadd, 1) := by decide +kernel
theorem dX1_squareFrom_13 : decode cX1_squareFrom 13 = .ok (.iconst 2, 1) := by decide +kernel
theorem dX1_squareFrom_14 : decode cX1_squareFrom 14 = .ok (.idiv, 1) := by decide +kernel
theorem dX1_squareFrom_15 : decode cX1_squareFrom 15 = .ok (.iload_n 2, 1) := by decide +kernel
theorem dX1_squareFrom_16 : decode cX1_squareFrom 16 = .ok (.isub, 1) := by decide +kernel
theorem dX1_squareFrom_17 : decode cX1_squareFrom 17 = .ok (.istore_n 3, 1) := by decide +kernel
theorem dX1_squareFrom_18 : decode cX1_squareFrom 18 = .ok (.iload_n 3, 1) := by decide +kernel
theorem dX1_squareFrom_19 : decode cX1_squareFrom 19 = .ok (.iload_n 3, 1) := by decide +kernel
theorem dX1_squareFrom_20 : decode cX1_squareFrom 20 = .ok (.imul, 1) := by decide +kernel
theorem dX1_squareFrom_21 : decode cX1_squareFrom 21 = .ok (.ireturn, 1) := by decide +kernel
theorem dX1_warm_0 : decode cX1_warm 0 = .ok (.aload_n 0, 1) := by decide +kernel
theorem dX1_warm_1 : decode cX1_warm 1 = .ok (.dup, 1) := by decide +kernel
theorem dX1_warm_2 : decode cX1_warm 2 = .ok (.getfield 24, 3) := by decide +kernel
theorem dX1_warm_5 : decode cX1_warm 5 = .ok (.iconst 0, 1) := by decide +kernel
theorem dX1_warm_6 : decode cX1_warm 6 = .ok (.iload_n 1, 1) := by decide +kernel
theorem dX1_warm_7 : decode cX1_warm 7 = .ok (.bipush 30, 2) := by decide +kernel
theorem dX1_warm_9 : decode cX1_warm 9 = .ok (.isub, 1) := by decide +kernel
theorem dX1_warm_10 : decode cX1_warm 10 = .ok (.invokestatic 53, 3) := by decide +kernel
theorem dX1_warm_13 : decode cX1_warm 13 = .ok (.iload_n 2, 1) := by decide +kernel
theorem dX1_warm_14 : decode cX1_warm 14 = .ok (.imul, 1) := by decide +kernel
theorem dX1_warm_15 : decode cX1_warm 15 = .ok (.iadd, 1) := by decide +kernel
theorem dX1_warm_16 : decode cX1_warm 16 = .ok (.putfield 24, 3) := by decide +kernel
theorem dX1_warm_19 : decode cX1_warm 19 = .ok (.aload_n 0, 1) := by decide +kernel
theorem dX1_warm_20 : decode cX1_warm 20 = .ok (.bipush 100, 2) := by decide +kernel
theorem dX1_warm_22 : decode cX1_warm 22 = .ok (.aload_n 0, 1) := by decide +kernel
theorem dX1_warm_23 : decode cX1_warm 23 = .ok (.getfield 21, 3) := by decide +kernel
theorem dX1_warm_26 : decode cX1_warm 26 = .ok (.iload_n 1, 1) := by decide +kernel
theorem dX1_warm_27 : decode cX1_warm 27 = .ok (.bipush 20, 2) := by decide +kernel
theorem dX1_warm_29 : decode cX1_warm 29 = .ok (.idiv, 1) := by decide +kernel
theorem dX1_warm_30 : decode cX1_warm 30 = .ok (.iload_n 2, 1) := by decide +kernel
theorem dX1_warm_31 : decode cX1_warm 31 = .ok (.imul, 1) := by decide +kernel
theorem dX1_warm_32 : decode cX1_warm 32 = .ok (.isub, 1) := by decide +kernel
theorem dX1_warm_33 : decode cX1_warm 33 = .ok (.invokestatic 53, 3) := by decide +kernel
theorem dX1_warm_36 : decode cX1_warm 36 = .ok (.putfield 21, 3) := by decide +kernel
theorem dX1_warm_39 : decode cX1_warm 39 = .ok (.aload_n 0, 1) := by decide +kernel
theorem dX1_warm_40 : decode cX1_warm 40 = .ok (.getfield 24, 3) := by decide +kernel
theorem dX1_warm_43 : decode cX1_warm 43 = .ok (.ireturn, 1) := by decide +kernel
theorem dX1_needsRepair_0 : decode cX1_needsRepair 0 = .ok (.aload_n 0, 1) := by decide +kernel
theorem dX1_needsRepair_1 : decode cX1_needsRepair 1 = .ok (.getfield 24, 3) := by decide +kernel
theorem dX1_needsRepair_4 : decode cX1_needsRepair 4 = .ok (.bipush 50, 2) := by decide +kernel
theorem dX1_needsRepair_6 : decode cX1_needsRepair 6 = .ok (.if_icmp .ge 12, 3) := by decide +kernel
theorem dX1_needsRepair_9 : decode cX1_needsRepair 9 = .ok (.aload_n 0, 1) := by decide +kernel
theorem dX1_needsRepair_10 : decode cX1_needsRepair 10 = .ok (.getfield 27, 3) := by decide +kernel
theorem dX1_needsRepair_13 : decode cX1_needsRepair 13 = .ok (.bipush 20, 2) := by decide +kernel
theorem dX1_needsRepair_15 : decode cX1_needsRepair 15 = .ok (.if_icmp .lt 7, 3) := by decide +kernel
theorem dX1_needsRepair_18 : decode cX1_needsRepair 18 = .ok (.iconst 1, 1) := by decide +kernel
theorem dX1_needsRepair_19 : decode cX1_needsRepair 19 = .ok (.goto 4, 3) := by decide +kernel
theorem dX1_needsRepair_22 : decode cX1_needsRepair 22 = .ok (.iconst 0, 1) := by decide +kernel
theorem dX1_needsRepair_23 : decode cX1_needsRepair 23 = .ok (.ireturn, 1) := by decide +kernel
theorem dX1_mend_0 : decode cX1_mend 0 = .ok (.aload_n 0, 1) := by decide +kernel
theorem dX1_mend_1 : decode cX1_mend 1 = .ok (.dup, 1) := by decide +kernel
theorem dX1_mend_2 : decode cX1_mend 2 = .ok (.getfield 21, 3) := by decide +kernel
theorem dX1_mend_5 : decode cX1_mend 5 = .ok (.aload_n 0, 1) := by decide +kernel
theorem dX1_mend_6 : decode cX1_mend 6 = .ok (.getfield 24, 3) := by decide +kernel
theorem dX1_mend_9 : decode cX1_mend 9 = .ok (.bipush 10, 2) := by decide +kernel
theorem dX1_mend_11 : decode cX1_mend 11 = .ok (.idiv, 1) := by decide +kernel
theorem dX1_mend_12 : decode cX1_mend 12 = .ok (.iadd, 1) := by decide +kernel
theorem dX1_mend_13 : decode cX1_mend 13 = .ok (.putfield 21, 3) := by decide +kernel
theorem dX1_mend_16 : decode cX1_mend 16 = .ok (.aload_n 0, 1) := by decide +kernel
theorem dX1_mend_17 : decode cX1_mend 17 = .ok (.iconst 0, 1) := by decide +kernel
theorem dX1_mend_18 : decode cX1_mend 18 = .ok (.putfield 24, 3) := by decide +kernel
theorem dX1_mend_21 : decode cX1_mend 21 = .ok (.aload_n 0, 1) := by decide +kernel
theorem dX1_mend_22 : decode cX1_mend 22 = .ok (.iconst 0, 1) := by decide +kernel
theorem dX1_mend_23 : decode cX1_mend 23 = .ok (.putfield 27, 3) := by decide +kernel
theorem dX1_mend_26 : decode cX1_mend 26 = .ok (.aload_n 0, 1) := by decide +kernel
theorem dX1_mend_27 : decode cX1_mend 27 = .ok (.getfield 21, 3) := by decide +kernel
theorem dX1_mend_30 : decode cX1_mend 30 = .ok (.ireturn, 1) := by decide +kernel
theorem dX2_init_0 : decode cX2_init 0 = .ok (.aload_n 0, 1) := by decide +kernel
theorem dX2_init_1 : decode cX2_init 1 = .ok (.invokespecial 3, 3) := by decide +kernel
theorem dX2_init_4 : decode cX2_init 4 = .ok (.aload_n 0, 1) := by decide +kernel
theorem dX2_init_5 : decode cX2_init 5 = .ok (.iconst 0, 1) := by decide +kernel
theorem dX2_init_6 : decode cX2_init 6 = .ok (.putfield 9, 3) := by decide +kernel
theorem dX2_init_9 : decode cX2_init 9 = .ok (.aload_n 0, 1) := by decide +kernel
theorem dX2_init_10 : decode cX2_init 10 = .ok (.bipush 6, 2) := by decide +kernel
theorem dX2_init_12 : decode cX2_init 12 = .ok (.newarray .int, 2) := by decide +kernel
theorem dX2_init_14 : decode cX2_init 14 = .ok (.putfield 15, 3) := by decide +kernel
theorem dX2_init_17 : decode cX2_init 17 = .ok (.aload_n 0, 1) := by decide +kernel
theorem dX2_init_18 : decode cX2_init 18 = .ok (.bipush 6, 2) := by decide +kernel
theorem dX2_init_20 : decode cX2_init 20 = .ok (.sipush 256, 3) := by decide +kernel
theorem dX2_init_23 : decode cX2_init 23 = .ok (.multianewarray 19 2, 4) := by decide +kernel
theorem dX2_init_27 : decode cX2_init 27 = .ok (.putfield 21, 3) := by decide +kernel
theorem dX2_init_30 : decode cX2_init 30 = .ok (.aload_n 0, 1) := by decide +kernel
theorem dX2_init_31 : decode cX2_init 31 = .ok (.sipush 256, 3) := by decide +kernel
theorem dX2_init_34 : decode cX2_init 34 = .ok (.newarray .int, 2) := by decide +kernel
theorem dX2_init_36 : decode cX2_init 36 = .ok (.putfield 24, 3) := by decide +kernel
theorem dX2_init_39 : decode cX2_init 39 = .ok (.aload_n 0, 1) := by decide +kernel
theorem dX2_init_40 : decode cX2_init 40 = .ok (.sipush 256, 3) := by decide +kernel
theorem dX2_init_43 : decode cX2_init 43 = .ok (.newarray .int, 2) := by decide +kernel
theorem dX2_init_45 : decode cX2_init 45 = .ok (.putfield 27, 3) := by decide +kernel
theorem dX2_init_48 : decode cX2_init 48 = .ok (.return_, 1) := by decide +kernel
theorem dX2_lay_0 : decode cX2_lay 0 = .ok (.iconst 1, 1) := by decide +kernel
theorem dX2_lay_1 : decode cX2_lay 1 = .ok (.iload_n 2, 1) := by decide +kernel
theorem dX2_lay_2 : decode cX2_lay 2 = .ok (.ishl, 1) := by decide +kernel
theorem dX2_lay_3 : decode cX2_lay 3 = .ok (.istore 5, 2) := by decide +kernel
theorem dX2_lay_5 : decode cX2_lay 5 = .ok (.aload_n 0, 1) := by decide +kernel
theorem dX2_lay_6 : decode cX2_lay 6 = .ok (.aload_n 1, 1) := by decide +kernel
theorem dX2_lay_7 : decode cX2_lay 7 = .ok (.iload_n 2, 1) := by decide +kernel
theorem dX2_lay_8 : decode cX2_lay 8 = .ok (.invokevirtual 30, 3) := by decide +kernel
theorem dX2_lay_11 : decode cX2_lay 11 = .ok (.iconst 0, 1) := by decide +kernel
theorem dX2_lay_12 : decode cX2_lay 12 = .ok (.istore 6, 2) := by decide +kernel
theorem dX2_lay_14 : decode cX2_lay 14 = .ok (.iload 6, 2) := by decide +kernel
theorem dX2_lay_16 : decode cX2_lay 16 = .ok (.iload 5, 2) := by decide +kernel
theorem dX2_lay_18 : decode cX2_lay 18 = .ok (.if_icmp .ge 17, 3) := by decide +kernel
theorem dX2_lay_21 : decode cX2_lay 21 = .ok (.aload_n 0, 1) := by decide +kernel
theorem dX2_lay_22 : decode cX2_lay 22 = .ok (.getfield 24, 3) := by decide +kernel
theorem dX2_lay_25 : decode cX2_lay 25 = .ok (.iload 6, 2) := by decide +kernel
theorem dX2_lay_27 : decode cX2_lay 27 = .ok (.iconst 0, 1) := by decide +kernel
theorem dX2_lay_28 : decode cX2_lay 28 = .ok (.iastore, 1) := by decide +kernel
theorem dX2_lay_29 : decode cX2_lay 29 = .ok (.iinc 6 1, 3) := by decide +kernel
theorem dX2_lay_32 : decode cX2_lay 32 = .ok (.goto (-18), 3) := by decide +kernel
theorem dX2_lay_35 : decode cX2_lay 35 = .ok (.iload 4, 2) := by decide +kernel
theorem dX2_lay_37 : decode cX2_lay 37 = .ok (.iconst 1, 1) := by decide +kernel
theorem dX2_lay_38 : decode cX2_lay 38 = .ok (.isub, 1) := by decide +kernel
theorem dX2_lay_39 : decode cX2_lay 39 = .ok (.istore 6, 2) := by decide +kernel
theorem dX2_lay_41 : decode cX2_lay 41 = .ok (.iload 6, 2) := by decide +kernel
theorem dX2_lay_43 : decode cX2_lay 43 = .ok (.ifCond .lt 114, 3) := by decide +kernel
theorem dX2_lay_46 : decode cX2_lay 46 = .ok (.aload_n 0, 1) := by decide +kernel
theorem dX2_lay_47 : decode cX2_lay 47 = .ok (.aload_n 1, 1) := by decide +kernel
theorem dX2_lay_48 : decode cX2_lay 48 = .ok (.iload_n 2, 1) := by decide +kernel
theorem dX2_lay_49 : decode cX2_lay 49 = .ok (.iload 6, 2) := by decide +kernel
theorem dX2_lay_51 : decode cX2_lay 51 = .ok (.invokevirtual 34, 3) := by decide +kernel
theorem dX2_lay_54 : decode cX2_lay 54 = .ok (.aload_n 1, 1) := by decide +kernel
theorem dX2_lay_55 : decode cX2_lay 55 = .ok (.iload_n 2, 1) := by decide +kernel
theorem dX2_lay_56 : decode cX2_lay 56 = .ok (.iload 6, 2) := by decide +kernel
theorem dX2_lay_58 : decode cX2_lay 58 = .ok (.invokestatic 38, 3) := by decide +kernel
theorem dX2_lay_61 : decode cX2_lay 61 = .ok (.istore 7, 2) := by decide +kernel
theorem dX2_lay_63 : decode cX2_lay 63 = .ok (.iconst 0, 1) := by decide +kernel
theorem dX2_lay_64 : decode cX2_lay 64 = .ok (.istore 8, 2) := by decide +kernel
theorem dX2_lay_66 : decode cX2_lay 66 = .ok (.iload 8, 2) := by decide +kernel
theorem dX2_lay_68 : decode cX2_lay 68 = .ok (.iload 5, 2) := by decide +kernel
theorem dX2_lay_70 : decode cX2_lay 70 = .ok (.if_icmp .ge 73, 3) := by decide +kernel
theorem dX2_lay_73 : decode cX2_lay 73 = .ok (.iload 8, 2) := by decide +kernel
theorem dX2_lay_75 : decode cX2_lay 75 = .ok (.invokestatic 42, 3) := by decide +kernel
theorem dX2_lay_78 : decode cX2_lay 78 = .ok (.iload_n 3, 1) := by decide +kernel
theorem dX2_lay_79 : decode cX2_lay 79 = .ok (.if_icmp .gt 17, 3) := by decide +kernel
theorem dX2_lay_82 : decode cX2_lay 82 = .ok (.iload 8, 2) := by decide +kernel
theorem dX2_lay_84 : decode cX2_lay 84 = .ok (.iload 7, 2) := by decide +kernel
theorem dX2_lay_86 : decode cX2_lay 86 = .ok (.iconst (-1), 1) := by decide +kernel
theorem dX2_lay_87 : decode cX2_lay 87 = .ok (.ixor, 1) := by decide +kernel
theorem dX2_lay_88 : decode cX2_lay 88 = .ok (.iand, 1) := by decide +kernel
theorem dX2_lay_89 : decode cX2_lay 89 = .ok (.ifCond .ne 7, 3) := by decide +kernel
theorem dX2_lay_92 : decode cX2_lay 92 = .ok (.iconst 1, 1) := by decide +kernel
theorem dX2_lay_93 : decode cX2_lay 93 = .ok (.goto 4, 3) := by decide +kernel
theorem dX2_lay_96 : decode cX2_lay 96 = .ok (.iconst 0, 1) := by decide +kernel
theorem dX2_lay_97 : decode cX2_lay 97 = .ok (.istore 9, 2) := by decide +kernel
theorem dX2_lay_99 : decode cX2_lay 99 = .ok (.aload_n 0, 1) := by decide +kernel
theorem dX2_lay_100 : decode cX2_lay 100 = .ok (.getfield 21, 3) := by decide +kernel
theorem dX2_lay_103 : decode cX2_lay 103 = .ok (.iload 6, 2) := by decide +kernel
theorem dX2_lay_105 : decode cX2_lay 105 = .ok (.aaload, 1) := by decide +kernel
theorem dX2_lay_106 : decode cX2_lay 106 = .ok (.iload 8, 2) := by decide +kernel
theorem dX2_lay_108 : decode cX2_lay 108 = .ok (.iload 9, 2) := by decide +kernel
theorem dX2_lay_110 : decode cX2_lay 110 = .ok (.ifCond .eq 24, 3) := by decide +kernel
theorem dX2_lay_113 : decode cX2_lay 113 = .ok (.aload_n 0, 1) := by decide +kernel
theorem dX2_lay_114 : decode cX2_lay 114 = .ok (.getfield 21, 3) := by decide +kernel
theorem dX2_lay_117 : decode cX2_lay 117 = .ok (.iload 6, 2) := by decide +kernel
theorem dX2_lay_119 : decode cX2_lay 119 = .ok (.aaload, 1) := by decide +kernel
theorem dX2_lay_120 : decode cX2_lay 120 = .ok (.iload 8, 2) := by decide +kernel
theorem dX2_lay_122 : decode cX2_lay 122 = .ok (.iaload, 1) := by decide +kernel
theorem dX2_lay_123 : decode cX2_lay 123 = .ok (.aload_n 0, 1) := by decide +kernel
theorem dX2_lay_124 : decode cX2_lay 124 = .ok (.getfield 24, 3) := by decide +kernel
theorem dX2_lay_127 : decode cX2_lay 127 = .ok (.iload 8, 2) := by decide +kernel
theorem dX2_lay_129 : decode cX2_lay 129 = .ok (.iaload, 1) := by decide +kernel
theorem dX2_lay_130 : decode cX2_lay 130 = .ok (.iadd, 1) := by decide +kernel
theorem dX2_lay_131 : decode cX2_lay 131 = .ok (.goto 5, 3) := by decide +kernel
theorem dX2_lay_134 : decode cX2_lay 134 = .ok (.ldc 48, 2) := by decide +kernel
theorem dX2_lay_136 : decode cX2_lay 136 = .ok (.iastore, 1) := by decide +kernel
theorem dX2_lay_137 : decode cX2_lay 137 = .ok (.iinc 8 1, 3) := by decide +kernel
theorem dX2_lay_140 : decode cX2_lay 140 = .ok (.goto (-74), 3) := by decide +kernel
theorem dX2_lay_143 : decode cX2_lay 143 = .ok (.aload_n 0, 1) := by decide +kernel
theorem dX2_lay_144 : decode cX2_lay 144 = .ok (.aload_n 1, 1) := by decide +kernel
theorem dX2_lay_145 : decode cX2_lay 145 = .ok (.iload_n 2, 1) := by decide +kernel
theorem dX2_lay_146 : decode cX2_lay 146 = .ok (.iload 6, 2) := by decide +kernel
theorem dX2_lay_148 : decode cX2_lay 148 = .ok (.invokevirtual 49, 3) := by decide +kernel
theorem dX2_lay_151 : decode cX2_lay 151 = .ok (.iinc 6 (-1), 3) := by decide +kernel
theorem dX2_lay_154 : decode cX2_lay 154 = .ok (.goto (-113), 3) := by decide +kernel
theorem dX2_lay_157 : decode cX2_lay 157 = .ok (.return_, 1) := by decide +kernel
theorem dX2_choose_0 : decode cX2_choose 0 = .ok (.iload_n 1, 1) := by decide +kernel
theorem dX2_choose_1 : decode cX2_choose 1 = .ok (.istore 4, 2) := by decide +kernel
theorem dX2_choose_3 : decode cX2_choose 3 = .ok (.iconst 0, 1) := by decide +kernel
theorem dX2_choose_4 : decode cX2_choose 4 = .ok (.istore 5, 2) := by decide +kernel
theorem dX2_choose_6 : decode cX2_choose 6 = .ok (.iload 5, 2) := by decide +kernel
theorem dX2_choose_8 : decode cX2_choose 8 = .ok (.iload_n 3, 1) := by decide +kernel
theorem dX2_choose_9 : decode cX2_choose 9 = .ok (.if_icmp .ge 102, 3) := by decide +kernel
theorem dX2_choose_12 : decode cX2_choose 12 = .ok (.iconst 0, 1) := by decide +kernel
theorem dX2_choose_13 : decode cX2_choose 13 = .ok (.istore 6, 2) := by decide +kernel
theorem dX2_choose_15 : decode cX2_choose 15 = .ok (.aload_n 0, 1) := by decide +kernel
theorem dX2_choose_16 : decode cX2_choose 16 = .ok (.getfield 21, 3) := by decide +kernel
theorem dX2_choose_19 : decode cX2_choose 19 = .ok (.iload 5, 2) := by decide +kernel
theorem dX2_choose_21 : decode cX2_choose 21 = .ok (.aaload, 1) := by decide +kernel
theorem dX2_choose_22 : decode cX2_choose 22 = .ok (.iconst 0, 1) := by decide +kernel
theorem dX2_choose_23 : decode cX2_choose 23 = .ok (.iaload, 1) := by decide +kernel
theorem dX2_choose_24 : decode cX2_choose 24 = .ok (.istore 7, 2) := by decide +kernel
theorem dX2_choose_26 : decode cX2_choose 26 = .ok (.iconst 1, 1) := by decide +kernel
theorem dX2_choose_27 : decode cX2_choose 27 = .ok (.istore 8, 2) := by decide +kernel
theorem dX2_choose_29 : decode cX2_choose 29 = .ok (.iload 8, 2) := by decide +kernel
theorem dX2_choose_31 : decode cX2_choose 31 = .ok (.iload_n 2, 1) := by decide +kernel
theorem dX2_choose_32 : decode cX2_choose 32 = .ok (.if_icmp .ge 49, 3) := by decide +kernel
theorem dX2_choose_35 : decode cX2_choose 35 = .ok (.aload_n 0, 1) := by decide +kernel
theorem dX2_choose_36 : decode cX2_choose 36 = .ok (.getfield 21, 3) := by decide +kernel
theorem dX2_choose_39 : decode cX2_choose 39 = .ok (.iload 5, 2) := by decide +kernel
theorem dX2_choose_41 : decode cX2_choose 41 = .ok (.aaload, 1) := by decide +kernel
theorem dX2_choose_42 : decode cX2_choose 42 = .ok (.iload 8, 2) := by decide +kernel
theorem dX2_choose_44 : decode cX2_choose 44 = .ok (.iaload, 1) := by decide +kernel
theorem dX2_choose_45 : decode cX2_choose 45 = .ok (.aload_n 0, 1) := by decide +kernel
theorem dX2_choose_46 : decode cX2_choose 46 = .ok (.getfield 27, 3) := by decide +kernel
theorem dX2_choose_49 : decode cX2_choose 49 = .ok (.iload 8, 2) := by decide +kernel
theorem dX2_choose_51 : decode cX2_choose 51 = .ok (.iload 4, 2) := by decide +kernel
theorem dX2_choose_53 : decode cX2_choose 53 = .ok (.iconst (-1), 1) := by decide +kernel
theorem dX2_choose_54 : decode cX2_choose 54 = .ok (.ixor, 1) := by decide +kernel
theorem dX2_choose_55 : decode cX2_choose 55 = .ok (.iand, 1) := by decide +kernel
theorem dX2_choose_56 : decode cX2_choose 56 = .ok (.iaload, 1) := by decide +kernel
theorem dX2_choose_57 : decode cX2_choose 57 = .ok (.isub, 1) := by decide +kernel
theorem dX2_choose_58 : decode cX2_choose 58 = .ok (.istore 9, 2) := by decide +kernel
theorem dX2_choose_60 : decode cX2_choose 60 = .ok (.iload 9, 2) := by decide +kernel
theorem dX2_choose_62 : decode cX2_choose 62 = .ok (.iload 7, 2) := by decide +kernel
theorem dX2_choose_64 : decode cX2_choose 64 = .ok (.if_icmp .le 11, 3) := by decide +kernel
theorem dX2_choose_67 : decode cX2_choose 67 = .ok (.iload 8, 2) := by decide +kernel
theorem dX2_choose_69 : decode cX2_choose 69 = .ok (.istore 6, 2) := by decide +kernel
theorem dX2_choose_71 : decode cX2_choose 71 = .ok (.iload 9, 2) := by decide +kernel
theorem dX2_choose_73 : decode cX2_choose 73 = .ok (.istore 7, 2) := by decide +kernel
theorem dX2_choose_75 : decode cX2_choose 75 = .ok (.iinc 8 1, 3) := by decide +kernel
theorem dX2_choose_78 : decode cX2_choose 78 = .ok (.goto (-49), 3) := by decide +kernel
theorem dX2_choose_81 : decode cX2_choose 81 = .ok (.iload 5, 2) := by decide +kernel
theorem dX2_choose_83 : decode cX2_choose 83 = .ok (.ifCond .ne 9, 3) := by decide +kernel
theorem dX2_choose_86 : decode cX2_choose 86 = .ok (.aload_n 0, 1) := by decide +kernel
theorem dX2_choose_87 : decode cX2_choose 87 = .ok (.iload 7, 2) := by decide +kernel
theorem dX2_choose_89 : decode cX2_choose 89 = .ok (.putfield 9, 3) := by decide +kernel
theorem dX2_choose_92 : decode cX2_choose 92 = .ok (.aload_n 0, 1) := by decide +kernel
theorem dX2_choose_93 : decode cX2_choose 93 = .ok (.getfield 15, 3) := by decide +kernel
theorem dX2_choose_96 : decode cX2_choose 96 = .ok (.iload 5, 2) := by decide +kernel
theorem dX2_choose_98 : decode cX2_choose 98 = .ok (.iload 6, 2) := by decide +kernel
theorem dX2_choose_100 : decode cX2_choose 100 = .ok (.iastore, 1) := by decide +kernel
theorem dX2_choose_101 : decode cX2_choose 101 = .ok (.iload 6, 2) := by decide +kernel
theorem dX2_choose_103 : decode cX2_choose 103 = .ok (.istore 4, 2) := by decide +kernel
theorem dX2_choose_105 : decode cX2_choose 105 = .ok (.iinc 5 1, 3) := by decide +kernel
theorem dX2_choose_108 : decode cX2_choose 108 = .ok (.goto (-102), 3) := by decide +kernel
theorem dX2_choose_111 : decode cX2_choose 111 = .ok (.return_, 1) := by decide +kernel
theorem dX2_sumPrices_0 : decode cX2_sumPrices 0 = .ok (.aload_n 0, 1) := by decide +kernel
theorem dX2_sumPrices_1 : decode cX2_sumPrices 1 = .ok (.getfield 27, 3) := by decide +kernel
theorem dX2_sumPrices_4 : decode cX2_sumPrices 4 = .ok (.iconst 0, 1) := by decide +kernel
theorem dX2_sumPrices_5 : decode cX2_sumPrices 5 = .ok (.iconst 0, 1) := by decide +kernel
theorem dX2_sumPrices_6 : decode cX2_sumPrices 6 = .ok (.iastore, 1) := by decide +kernel
theorem dX2_sumPrices_7 : decode cX2_sumPrices 7 = .ok (.iconst 0, 1) := by decide +kernel
theorem dX2_sumPrices_8 : decode cX2_sumPrices 8 = .ok (.istore_n 3, 1) := by decide +kernel
theorem dX2_sumPrices_9 : decode cX2_sumPrices 9 = .ok (.iload_n 3, 1) := by decide +kernel
theorem dX2_sumPrices_10 : decode cX2_sumPrices 10 = .ok (.iload_n 2, 1) := by decide +kernel
theorem dX2_sumPrices_11 : decode cX2_sumPrices 11 = .ok (.if_icmp .ge 54, 3) := by decide +kernel
theorem dX2_sumPrices_14 : decode cX2_sumPrices 14 = .ok (.iconst 1, 1) := by decide +kernel
theorem dX2_sumPrices_15 : decode cX2_sumPrices 15 = .ok (.iload_n 3, 1) := by decide +kernel
theorem dX2_sumPrices_16 : decode cX2_sumPrices 16 = .ok (.ishl, 1) := by decide +kernel
theorem dX2_sumPrices_17 : decode cX2_sumPrices 17 = .ok (.istore 4, 2) := by decide +kernel
theorem dX2_sumPrices_19 : decode cX2_sumPrices 19 = .ok (.iconst 0, 1) := by decide +kernel
theorem dX2_sumPrices_20 : decode cX2_sumPrices 20 = .ok (.istore 5, 2) := by decide +kernel
theorem dX2_sumPrices_22 : decode cX2_sumPrices 22 = .ok (.iload 5, 2) := by decide +kernel
theorem dX2_sumPrices_24 : decode cX2_sumPrices 24 = .ok (.iload 4, 2) := by decide +kernel
theorem dX2_sumPrices_26 : decode cX2_sumPrices 26 = .ok (.if_icmp .ge 33, 3) := by decide +kernel
theorem dX2_sumPrices_29 : decode cX2_sumPrices 29 = .ok (.aload_n 0, 1) := by decide +kernel
theorem dX2_sumPrices_30 : decode cX2_sumPrices 30 = .ok (.getfield 27, 3) := by decide +kernel
theorem dX2_sumPrices_33 : decode cX2_sumPrices 33 = .ok (.iload 5, 2) := by decide +kernel
theorem dX2_sumPrices_35 : decode cX2_sumPrices 35 = .ok (.iload 4, 2) := by decide +kernel
theorem dX2_sumPrices_37 : decode cX2_sumPrices 37 = .ok (.ior, 1) := by decide +kernel
theorem dX2_sumPrices_38 : decode cX2_sumPrices 38 = .ok (.aload_n 0, 1) := by decide +kernel
theorem dX2_sumPrices_39 : decode cX2_sumPrices 39 = .ok (.getfield 27, 3) := by decide +kernel
theorem dX2_sumPrices_42 : decode cX2_sumPrices 42 = .ok (.iload 5, 2) := by decide +kernel
theorem dX2_sumPrices_44 : decode cX2_sumPrices 44 = .ok (.iaload, 1) := by decide +kernel
theorem dX2_sumPrices_45 : decode cX2_sumPrices 45 = .ok (.aload_n 1, 1) := by decide +kernel
theorem dX2_sumPrices_46 : decode cX2_sumPrices 46 = .ok (.iload_n 3, 1) := by decide +kernel
theorem dX2_sumPrices_47 : decode cX2_sumPrices 47 = .ok (.aaload, 1) := by decide +kernel
theorem dX2_sumPrices_48 : decode cX2_sumPrices 48 = .ok (.getfield 52, 3) := by decide +kernel
theorem dX2_sumPrices_51 : decode cX2_sumPrices 51 = .ok (.iadd, 1) := by decide +kernel
theorem dX2_sumPrices_52 : decode cX2_sumPrices 52 = .ok (.iastore, 1) := by decide +kernel
theorem dX2_sumPrices_53 : decode cX2_sumPrices 53 = .ok (.iinc 5 1, 3) := by decide +kernel
theorem dX2_sumPrices_56 : decode cX2_sumPrices 56 = .ok (.goto (-34), 3) := by decide +kernel
theorem dX2_sumPrices_59 : decode cX2_sumPrices 59 = .ok (.iinc 3 1, 3) := by decide +kernel
theorem dX2_sumPrices_62 : decode cX2_sumPrices 62 = .ok (.goto (-53), 3) := by decide +kernel
theorem dX2_sumPrices_65 : decode cX2_sumPrices 65 = .ok (.return_, 1) := by decide +kernel
theorem dX2_sumFame_0 : decode cX2_sumFame 0 = .ok (.aload_n 0, 1) := by decide +kernel
theorem dX2_sumFame_1 : decode cX2_sumFame 1 = .ok (.getfield 21, 3) := by decide +kernel
theorem dX2_sumFame_4 : decode cX2_sumFame 4 = .ok (.iload_n 3, 1) := by decide +kernel
theorem dX2_sumFame_5 : decode cX2_sumFame 5 = .ok (.aaload, 1) := by decide +kernel
theorem dX2_sumFame_6 : decode cX2_sumFame 6 = .ok (.iconst 0, 1) := by decide +kernel
theorem dX2_sumFame_7 : decode cX2_sumFame 7 = .ok (.iconst 0, 1) := by decide +kernel
theorem dX2_sumFame_8 : decode cX2_sumFame 8 = .ok (.iastore, 1) := by decide +kernel
theorem dX2_sumFame_9 : decode cX2_sumFame 9 = .ok (.iconst 0, 1) := by decide +kernel
theorem dX2_sumFame_10 : decode cX2_sumFame 10 = .ok (.istore 4, 2) := by decide +kernel
theorem dX2_sumFame_12 : decode cX2_sumFame 12 = .ok (.iload 4, 2) := by decide +kernel
theorem dX2_sumFame_14 : decode cX2_sumFame 14 = .ok (.iload_n 2, 1) := by decide +kernel
theorem dX2_sumFame_15 : decode cX2_sumFame 15 = .ok (.if_icmp .ge 62, 3) := by decide +kernel
theorem dX2_sumFame_18 : decode cX2_sumFame 18 = .ok (.iconst 1, 1) := by decide +kernel
theorem dX2_sumFame_19 : decode cX2_sumFame 19 = .ok (.iload 4, 2) := by decide +kernel
theorem dX2_sumFame_21 : decode cX2_sumFame 21 = .ok (.ishl, 1) := by decide +kernel
theorem dX2_sumFame_22 : decode cX2_sumFame 22 = .ok (.istore 5, 2) := by decide +kernel
theorem dX2_sumFame_24 : decode cX2_sumFame 24 = .ok (.iconst 0, 1) := by decide +kernel
theorem dX2_sumFame_25 : decode cX2_sumFame 25 = .ok (.istore 6, 2) := by decide +kernel
theorem dX2_sumFame_27 : decode cX2_sumFame 27 = .ok (.iload 6, 2) := by decide +kernel
theorem dX2_sumFame_29 : decode cX2_sumFame 29 = .ok (.iload 5, 2) := by decide +kernel
theorem dX2_sumFame_31 : decode cX2_sumFame 31 = .ok (.if_icmp .ge 40, 3) := by decide +kernel
theorem dX2_sumFame_34 : decode cX2_sumFame 34 = .ok (.aload_n 0, 1) := by decide +kernel
theorem dX2_sumFame_35 : decode cX2_sumFame 35 = .ok (.getfield 21, 3) := by decide +kernel
theorem dX2_sumFame_38 : decode cX2_sumFame 38 = .ok (.iload_n 3, 1) := by decide +kernel
theorem dX2_sumFame_39 : decode cX2_sumFame 39 = .ok (.aaload, 1) := by decide +kernel
theorem dX2_sumFame_40 : decode cX2_sumFame 40 = .ok (.iload 6, 2) := by decide +kernel
theorem dX2_sumFame_42 : decode cX2_sumFame 42 = .ok (.iload 5, 2) := by decide +kernel
theorem dX2_sumFame_44 : decode cX2_sumFame 44 = .ok (.ior, 1) := by decide +kernel
theorem dX2_sumFame_45 : decode cX2_sumFame 45 = .ok (.aload_n 0, 1) := by decide +kernel
theorem dX2_sumFame_46 : decode cX2_sumFame 46 = .ok (.getfield 21, 3) := by decide +kernel
theorem dX2_sumFame_49 : decode cX2_sumFame 49 = .ok (.iload_n 3, 1) := by decide +kernel
theorem dX2_sumFame_50 : decode cX2_sumFame 50 = .ok (.aaload, 1) := by decide +kernel
theorem dX2_sumFame_51 : decode cX2_sumFame 51 = .ok (.iload 6, 2) := by decide +kernel
theorem dX2_sumFame_53 : decode cX2_sumFame 53 = .ok (.iaload, 1) := by decide +kernel
theorem dX2_sumFame_54 : decode cX2_sumFame 54 = .ok (.aload_n 1, 1) := by decide +kernel
theorem dX2_sumFame_55 : decode cX2_sumFame 55 = .ok (.iload 4, 2) := by decide +kernel
theorem dX2_sumFame_57 : decode cX2_sumFame 57 = .ok (.aaload, 1) := by decide +kernel
theorem dX2_sumFame_58 : decode cX2_sumFame 58 = .ok (.getfield 57, 3) := by decide +kernel
theorem dX2_sumFame_61 : decode cX2_sumFame 61 = .ok (.iload_n 3, 1) := by decide +kernel
theorem dX2_sumFame_62 : decode cX2_sumFame 62 = .ok (.iaload, 1) := by decide +kernel
theorem dX2_sumFame_63 : decode cX2_sumFame 63 = .ok (.iadd, 1) := by decide +kernel
theorem dX2_sumFame_64 : decode cX2_sumFame 64 = .ok (.iastore, 1) := by decide +kernel
theorem dX2_sumFame_65 : decode cX2_sumFame 65 = .ok (.iinc 6 1, 3) := by decide +kernel
theorem dX2_sumFame_68 : decode cX2_sumFame 68 = .ok (.goto (-41), 3) := by decide +kernel
theorem dX2_sumFame_71 : decode cX2_sumFame 71 = .ok (.iinc 4 1, 3) := by decide +kernel
theorem dX2_sumFame_74 : decode cX2_sumFame 74 = .ok (.goto (-62), 3) := by decide +kernel
theorem dX2_sumFame_77 : decode cX2_sumFame 77 = .ok (.return_, 1) := by decide +kernel
theorem dX2_righted_0 : decode cX2_righted 0 = .ok (.iconst 0, 1) := by decide +kernel
theorem dX2_righted_1 : decode cX2_righted 1 = .ok (.istore_n 3, 1) := by decide +kernel
theorem dX2_righted_2 : decode cX2_righted 2 = .ok (.iconst 0, 1) := by decide +kernel
theorem dX2_righted_3 : decode cX2_righted 3 = .ok (.istore 4, 2) := by decide +kernel
theorem dX2_righted_5 : decode cX2_righted 5 = .ok (.iload 4, 2) := by decide +kernel
theorem dX2_righted_7 : decode cX2_righted 7 = .ok (.iload_n 1, 1) := by decide +kernel
theorem dX2_righted_8 : decode cX2_righted 8 = .ok (.if_icmp .ge 27, 3) := by decide +kernel
theorem dX2_righted_11 : decode cX2_righted 11 = .ok (.aload_n 0, 1) := by decide +kernel
theorem dX2_righted_12 : decode cX2_righted 12 = .ok (.iload 4, 2) := by decide +kernel
theorem dX2_righted_14 : decode cX2_righted 14 = .ok (.aaload, 1) := by decide +kernel
theorem dX2_righted_15 : decode cX2_righted 15 = .ok (.iload_n 2, 1) := by decide +kernel
theorem dX2_righted_16 : decode cX2_righted 16 = .ok (.invokevirtual 60, 3) := by decide +kernel
theorem dX2_righted_19 : decode cX2_righted 19 = .ok (.ifCond .eq 10, 3) := by decide +kernel
theorem dX2_righted_22 : decode cX2_righted 22 = .ok (.iload_n 3, 1) := by decide +kernel
theorem dX2_righted_23 : decode cX2_righted 23 = .ok (.iconst 1, 1) := by decide +kernel
theorem dX2_righted_24 : decode cX2_righted 24 = .ok (.iload 4, 2) := by decide +kernel
theorem dX2_righted_26 : decode cX2_righted 26 = .ok (.ishl, 1) := by decide +kernel
theorem dX2_righted_27 : decode cX2_righted 27 = .ok (.ior, 1) := by decide +kernel
theorem dX2_righted_28 : decode cX2_righted 28 = .ok (.istore_n 3, 1) := by decide +kernel
theorem dX2_righted_29 : decode cX2_righted 29 = .ok (.iinc 4 1, 3) := by decide +kernel
theorem dX2_righted_32 : decode cX2_righted 32 = .ok (.goto (-27), 3) := by decide +kernel
theorem dX2_righted_35 : decode cX2_righted 35 = .ok (.iload_n 3, 1) := by decide +kernel
theorem dX2_righted_36 : decode cX2_righted 36 = .ok (.ireturn, 1) := by decide +kernel
theorem dX2_lookAhead_0 : decode cX2_lookAhead 0 = .ok (.iconst 1, 1) := by decide +kernel
theorem dX2_lookAhead_1 : decode cX2_lookAhead 1 = .ok (.iload_n 2, 1) := by decide +kernel
theorem dX2_lookAhead_2 : decode cX2_lookAhead 2 = .ok (.ishl, 1) := by decide +kernel
theorem dX2_lookAhead_3 : decode cX2_lookAhead 3 = .ok (.istore 4, 2) := by decide +kernel
theorem dX2_lookAhead_5 : decode cX2_lookAhead 5 = .ok (.iconst 0, 1) := by decide +kernel
theorem dX2_lookAhead_6 : decode cX2_lookAhead 6 = .ok (.istore 5, 2) := by decide +kernel
theorem dX2_lookAhead_8 : decode cX2_lookAhead 8 = .ok (.iload 5, 2) := by decide +kernel
theorem dX2_lookAhead_10 : decode cX2_lookAhead 10 = .ok (.iload 4, 2) := by decide +kernel
theorem dX2_lookAhead_12 : decode cX2_lookAhead 12 = .ok (.if_icmp .ge 25, 3) := by decide +kernel
theorem dX2_lookAhead_15 : decode cX2_lookAhead 15 = .ok (.aload_n 0, 1) := by decide +kernel
theorem dX2_lookAhead_16 : decode cX2_lookAhead 16 = .ok (.getfield 24, 3) := by decide +kernel
theorem dX2_lookAhead_19 : decode cX2_lookAhead 19 = .ok (.iload 5, 2) := by decide +kernel
theorem dX2_lookAhead_21 : decode cX2_lookAhead 21 = .ok (.aload_n 0, 1) := by decide +kernel
theorem dX2_lookAhead_22 : decode cX2_lookAhead 22 = .ok (.getfield 21, 3) := by decide +kernel
theorem dX2_lookAhead_25 : decode cX2_lookAhead 25 = .ok (.iload_n 3, 1) := by decide +kernel
theorem dX2_lookAhead_26 : decode cX2_lookAhead 26 = .ok (.aaload, 1) := by decide +kernel
theorem dX2_lookAhead_27 : decode cX2_lookAhead 27 = .ok (.iload 5, 2) := by decide +kernel
theorem dX2_lookAhead_29 : decode cX2_lookAhead 29 = .ok (.iaload, 1) := by decide +kernel
theorem dX2_lookAhead_30 : decode cX2_lookAhead 30 = .ok (.iastore, 1) := by decide +kernel
theorem dX2_lookAhead_31 : decode cX2_lookAhead 31 = .ok (.iinc 5 1, 3) := by decide +kernel
theorem dX2_lookAhead_34 : decode cX2_lookAhead 34 = .ok (.goto (-26), 3) := by decide +kernel
theorem dX2_lookAhead_37 : decode cX2_lookAhead 37 = .ok (.iconst 0, 1) := by decide +kernel
theorem dX2_lookAhead_38 : decode cX2_lookAhead 38 = .ok (.istore 5, 2) := by decide +kernel
theorem dX2_lookAhead_40 : decode cX2_lookAhead 40 = .ok (.iload 5, 2) := by decide +kernel
theorem dX2_lookAhead_42 : decode cX2_lookAhead 42 = .ok (.iload_n 2, 1) := by decide +kernel
theorem dX2_lookAhead_43 : decode cX2_lookAhead 43 = .ok (.if_icmp .ge 99, 3) := by decide +kernel
theorem dX2_lookAhead_46 : decode cX2_lookAhead 46 = .ok (.iconst 1, 1) := by decide +kernel
theorem dX2_lookAhead_47 : decode cX2_lookAhead 47 = .ok (.iload 5, 2) := by decide +kernel
theorem dX2_lookAhead_49 : decode cX2_lookAhead 49 = .ok (.ishl, 1) := by decide +kernel
theorem dX2_lookAhead_50 : decode cX2_lookAhead 50 = .ok (.istore 6, 2) := by decide +kernel
theorem dX2_lookAhead_52 : decode cX2_lookAhead 52 = .ok (.iconst 0, 1) := by decide +kernel
theorem dX2_lookAhead_53 : decode cX2_lookAhead 53 = .ok (.istore 7, 2) := by decide +kernel
theorem dX2_lookAhead_55 : decode cX2_lookAhead 55 = .ok (.iload 7, 2) := by decide +kernel
theorem dX2_lookAhead_57 : decode cX2_lookAhead 57 = .ok (.iload 4, 2) := by decide +kernel
theorem dX2_lookAhead_59 : decode cX2_lookAhead 59 = .ok (.if_icmp .ge 77, 3) := by decide +kernel
theorem dX2_lookAhead_62 : decode cX2_lookAhead 62 = .ok (.iload 7, 2) := by decide +kernel
theorem dX2_lookAhead_64 : decode cX2_lookAhead 64 = .ok (.iload 6, 2) := by decide +kernel
theorem dX2_lookAhead_66 : decode cX2_lookAhead 66 = .ok (.iand, 1) := by decide +kernel
theorem dX2_lookAhead_67 : decode cX2_lookAhead 67 = .ok (.ifCond .ne 63, 3) := by decide +kernel
theorem dX2_lookAhead_70 : decode cX2_lookAhead 70 = .ok (.aload_n 0, 1) := by decide +kernel
theorem dX2_lookAhead_71 : decode cX2_lookAhead 71 = .ok (.getfield 24, 3) := by decide +kernel
theorem dX2_lookAhead_74 : decode cX2_lookAhead 74 = .ok (.iload 7, 2) := by decide +kernel
theorem dX2_lookAhead_76 : decode cX2_lookAhead 76 = .ok (.iaload, 1) := by decide +kernel
theorem dX2_lookAhead_77 : decode cX2_lookAhead 77 = .ok (.istore 8, 2) := by decide +kernel
theorem dX2_lookAhead_79 : decode cX2_lookAhead 79 = .ok (.aload_n 0, 1) := by decide +kernel
theorem dX2_lookAhead_80 : decode cX2_lookAhead 80 = .ok (.getfield 24, 3) := by decide +kernel
theorem dX2_lookAhead_83 : decode cX2_lookAhead 83 = .ok (.iload 7, 2) := by decide +kernel
theorem dX2_lookAhead_85 : decode cX2_lookAhead 85 = .ok (.iload 6, 2) := by decide +kernel
theorem dX2_lookAhead_87 : decode cX2_lookAhead 87 = .ok (.ior, 1) := by decide +kernel
theorem dX2_lookAhead_88 : decode cX2_lookAhead 88 = .ok (.iaload, 1) := by decide +kernel
theorem dX2_lookAhead_89 : decode cX2_lookAhead 89 = .ok (.istore 9, 2) := by decide +kernel
theorem dX2_lookAhead_91 : decode cX2_lookAhead 91 = .ok (.aload_n 0, 1) := by decide +kernel
theorem dX2_lookAhead_92 : decode cX2_lookAhead 92 = .ok (.getfield 24, 3) := by decide +kernel
theorem dX2_lookAhead_95 : decode cX2_lookAhead 95 = .ok (.iload 7, 2) := by decide +kernel
theorem dX2_lookAhead_97 : decode cX2_lookAhead 97 = .ok (.iload 8, 2) := by decide +kernel
theorem dX2_lookAhead_99 : decode cX2_lookAhead 99 = .ok (.iload 9, 2) := by decide +kernel
theorem dX2_lookAhead_101 : decode cX2_lookAhead 101 = .ok (.aload_n 1, 1) := by decide +kernel
theorem dX2_lookAhead_102 : decode cX2_lookAhead 102 = .ok (.iload 5, 2) := by decide +kernel
theorem dX2_lookAhead_104 : decode cX2_lookAhead 104 = .ok (.aaload, 1) := by decide +kernel
theorem dX2_lookAhead_105 : decode cX2_lookAhead 105 = .ok (.getfield 52, 3) := by decide +kernel
theorem dX2_lookAhead_108 : decode cX2_lookAhead 108 = .ok (.isub, 1) := by decide +kernel
theorem dX2_lookAhead_109 : decode cX2_lookAhead 109 = .ok (.invokestatic 64, 3) := by decide +kernel
theorem dX2_lookAhead_112 : decode cX2_lookAhead 112 = .ok (.iastore, 1) := by decide +kernel
theorem dX2_lookAhead_113 : decode cX2_lookAhead 113 = .ok (.aload_n 0, 1) := by decide +kernel
theorem dX2_lookAhead_114 : decode cX2_lookAhead 114 = .ok (.getfield 24, 3) := by decide +kernel
theorem dX2_lookAhead_117 : decode cX2_lookAhead 117 = .ok (.iload 7, 2) := by decide +kernel
theorem dX2_lookAhead_119 : decode cX2_lookAhead 119 = .ok (.iload 6, 2) := by decide +kernel
theorem dX2_lookAhead_121 : decode cX2_lookAhead 121 = .ok (.ior, 1) := by decide +kernel
theorem dX2_lookAhead_122 : decode cX2_lookAhead 122 = .ok (.iload 8, 2) := by decide +kernel
theorem dX2_lookAhead_124 : decode cX2_lookAhead 124 = .ok (.iload 9, 2) := by decide +kernel
theorem dX2_lookAhead_126 : decode cX2_lookAhead 126 = .ok (.invokestatic 64, 3) := by decide +kernel
theorem dX2_lookAhead_129 : decode cX2_lookAhead 129 = .ok (.iastore, 1) := by decide +kernel
theorem dX2_lookAhead_130 : decode cX2_lookAhead 130 = .ok (.iinc 7 1, 3) := by decide +kernel
theorem dX2_lookAhead_133 : decode cX2_lookAhead 133 = .ok (.goto (-78), 3) := by decide +kernel
theorem dX2_lookAhead_136 : decode cX2_lookAhead 136 = .ok (.iinc 5 1, 3) := by decide +kernel
theorem dX2_lookAhead_139 : decode cX2_lookAhead 139 = .ok (.goto (-99), 3) := by decide +kernel
theorem dX2_lookAhead_142 : decode cX2_lookAhead 142 = .ok (.return_, 1) := by decide +kernel
theorem dX3_init_0 : decode cX3_init 0 = .ok (.aload_n 0, 1) := by decide +kernel
theorem dX3_init_1 : decode cX3_init 1 = .ok (.invokespecial 3, 3) := by decide +kernel
theorem dX3_init_4 : decode cX3_init 4 = .ok (.aload_n 0, 1) := by decide +kernel
theorem dX3_init_5 : decode cX3_init 5 = .ok (.iconst 0, 1) := by decide +kernel
theorem dX3_init_6 : decode cX3_init 6 = .ok (.putfield 9, 3) := by decide +kernel
theorem dX3_init_9 : decode cX3_init 9 = .ok (.aload_n 0, 1) := by decide +kernel
theorem dX3_init_10 : decode cX3_init 10 = .ok (.iconst 3, 1) := by decide +kernel
theorem dX3_init_11 : decode cX3_init 11 = .ok (.newarray .int, 2) := by decide +kernel
theorem dX3_init_13 : decode cX3_init 13 = .ok (.putfield 15, 3) := by decide +kernel
theorem dX3_init_16 : decode cX3_init 16 = .ok (.aload_n 0, 1) := by decide +kernel
theorem dX3_init_17 : decode cX3_init 17 = .ok (.iconst 3, 1) := by decide +kernel
theorem dX3_init_18 : decode cX3_init 18 = .ok (.newarray .int, 2) := by decide +kernel
theorem dX3_init_20 : decode cX3_init 20 = .ok (.putfield 19, 3) := by decide +kernel
theorem dX3_init_23 : decode cX3_init 23 = .ok (.aload_n 0, 1) := by decide +kernel
theorem dX3_init_24 : decode cX3_init 24 = .ok (.bipush 40, 2) := by decide +kernel
theorem dX3_init_26 : decode cX3_init 26 = .ok (.newarray .int, 2) := by decide +kernel
theorem dX3_init_28 : decode cX3_init 28 = .ok (.putfield 22, 3) := by decide +kernel
theorem dX3_init_31 : decode cX3_init 31 = .ok (.aload_n 0, 1) := by decide +kernel
theorem dX3_init_32 : decode cX3_init 32 = .ok (.iconst 4, 1) := by decide +kernel
theorem dX3_init_33 : decode cX3_init 33 = .ok (.bipush 40, 2) := by decide +kernel
theorem dX3_init_35 : decode cX3_init 35 = .ok (.multianewarray 25 2, 4) := by decide +kernel
theorem dX3_init_39 : decode cX3_init 39 = .ok (.putfield 27, 3) := by decide +kernel
theorem dX3_init_42 : decode cX3_init 42 = .ok (.iconst 0, 1) := by decide +kernel
theorem dX3_init_43 : decode cX3_init 43 = .ok (.istore_n 1, 1) := by decide +kernel
theorem dX3_init_44 : decode cX3_init 44 = .ok (.iload_n 1, 1) := by decide +kernel
theorem dX3_init_45 : decode cX3_init 45 = .ok (.iconst 3, 1) := by decide +kernel
theorem dX3_init_46 : decode cX3_init 46 = .ok (.if_icmp .ge 24, 3) := by decide +kernel
theorem dX3_init_49 : decode cX3_init 49 = .ok (.aload_n 0, 1) := by decide +kernel
theorem dX3_init_50 : decode cX3_init 50 = .ok (.getfield 15, 3) := by decide +kernel
theorem dX3_init_53 : decode cX3_init 53 = .ok (.iload_n 1, 1) := by decide +kernel
theorem dX3_init_54 : decode cX3_init 54 = .ok (.bipush 10, 2) := by decide +kernel
theorem dX3_init_56 : decode cX3_init 56 = .ok (.iastore, 1) := by decide +kernel
theorem dX3_init_57 : decode cX3_init 57 = .ok (.aload_n 0, 1) := by decide +kernel
theorem dX3_init_58 : decode cX3_init 58 = .ok (.getfield 19, 3) := by decide +kernel
theorem dX3_init_61 : decode cX3_init 61 = .ok (.iload_n 1, 1) := by decide +kernel
theorem dX3_init_62 : decode cX3_init 62 = .ok (.iconst 5, 1) := by decide +kernel
theorem dX3_init_63 : decode cX3_init 63 = .ok (.iastore, 1) := by decide +kernel
theorem dX3_init_64 : decode cX3_init 64 = .ok (.iinc 1 1, 3) := by decide +kernel
theorem dX3_init_67 : decode cX3_init 67 = .ok (.goto (-23), 3) := by decide +kernel
theorem dX3_init_70 : decode cX3_init 70 = .ok (.return_, 1) := by decide +kernel
theorem dX3_lastComing_0 : decode cX3_lastComing 0 = .ok (.aload_n 0, 1) := by decide +kernel
theorem dX3_lastComing_1 : decode cX3_lastComing 1 = .ok (.getfield 9, 3) := by decide +kernel
theorem dX3_lastComing_4 : decode cX3_lastComing 4 = .ok (.ifCond .le 17, 3) := by decide +kernel
theorem dX3_lastComing_7 : decode cX3_lastComing 7 = .ok (.aload_n 0, 1) := by decide +kernel
theorem dX3_lastComing_8 : decode cX3_lastComing 8 = .ok (.getfield 22, 3) := by decide +kernel
theorem dX3_lastComing_11 : decode cX3_lastComing 11 = .ok (.aload_n 0, 1) := by decide +kernel
theorem dX3_lastComing_12 : decode cX3_lastComing 12 = .ok (.getfield 9, 3) := by decide +kernel
theorem dX3_lastComing_15 : decode cX3_lastComing 15 = .ok (.iconst 1, 1) := by decide +kernel
theorem dX3_lastComing_16 : decode cX3_lastComing 16 = .ok (.isub, 1) := by decide +kernel
theorem dX3_lastComing_17 : decode cX3_lastComing 17 = .ok (.iaload, 1) := by decide +kernel
theorem dX3_lastComing_18 : decode cX3_lastComing 18 = .ok (.goto 4, 3) := by decide +kernel
theorem dX3_lastComing_21 : decode cX3_lastComing 21 = .ok (.iconst 0, 1) := by decide +kernel
theorem dX3_lastComing_22 : decode cX3_lastComing 22 = .ok (.ireturn, 1) := by decide +kernel
theorem dX3_addGroup_0 : decode cX3_addGroup 0 = .ok (.bipush 40, 2) := by decide +kernel
theorem dX3_addGroup_2 : decode cX3_addGroup 2 = .ok (.aload_n 0, 1) := by decide +kernel
theorem dX3_addGroup_3 : decode cX3_addGroup 3 = .ok (.getfield 9, 3) := by decide +kernel
theorem dX3_addGroup_6 : decode cX3_addGroup 6 = .ok (.iload_n 2, 1) := by decide +kernel
theorem dX3_addGroup_7 : decode cX3_addGroup 7 = .ok (.iadd, 1) := by decide +kernel
theorem dX3_addGroup_8 : decode cX3_addGroup 8 = .ok (.invokestatic 30, 3) := by decide +kernel
theorem dX3_addGroup_11 : decode cX3_addGroup 11 = .ok (.istore_n 3, 1) := by decide +kernel
theorem dX3_addGroup_12 : decode cX3_addGroup 12 = .ok (.aload_n 0, 1) := by decide +kernel
theorem dX3_addGroup_13 : decode cX3_addGroup 13 = .ok (.getfield 9, 3) := by decide +kernel
theorem dX3_addGroup_16 : decode cX3_addGroup 16 = .ok (.istore 4, 2) := by decide +kernel
theorem dX3_addGroup_18 : decode cX3_addGroup 18 = .ok (.iload 4, 2) := by decide +kernel
theorem dX3_addGroup_20 : decode cX3_addGroup 20 = .ok (.iload_n 3, 1) := by decide +kernel
theorem dX3_addGroup_21 : decode cX3_addGroup 21 = .ok (.if_icmp .ge 17, 3) := by decide +kernel
theorem dX3_addGroup_24 : decode cX3_addGroup 24 = .ok (.aload_n 0, 1) := by decide +kernel
theorem dX3_addGroup_25 : decode cX3_addGroup 25 = .ok (.getfield 22, 3) := by decide +kernel
theorem dX3_addGroup_28 : decode cX3_addGroup 28 = .ok (.iload 4, 2) := by decide +kernel
theorem dX3_addGroup_30 : decode cX3_addGroup 30 = .ok (.iload_n 1, 1) := by decide +kernel
theorem dX3_addGroup_31 : decode cX3_addGroup 31 = .ok (.iastore, 1) := by decide +kernel
theorem dX3_addGroup_32 : decode cX3_addGroup 32 = .ok (.iinc 4 1, 3) := by decide +kernel
theorem dX3_addGroup_35 : decode cX3_addGroup 35 = .ok (.goto (-17), 3) := by decide +kernel
theorem dX3_addGroup_38 : decode cX3_addGroup 38 = .ok (.aload_n 0, 1) := by decide +kernel
theorem dX3_addGroup_39 : decode cX3_addGroup 39 = .ok (.iload_n 3, 1) := by decide +kernel
theorem dX3_addGroup_40 : decode cX3_addGroup 40 = .ok (.putfield 9, 3) := by decide +kernel
theorem dX3_addGroup_43 : decode cX3_addGroup 43 = .ok (.aload_n 0, 1) := by decide +kernel
theorem dX3_addGroup_44 : decode cX3_addGroup 44 = .ok (.getfield 9, 3) := by decide +kernel
theorem dX3_addGroup_47 : decode cX3_addGroup 47 = .ok (.ireturn, 1) := by decide +kernel
theorem dX3_walk_0 : decode cX3_walk 0 = .ok (.iconst 0, 1) := by decide +kernel
theorem dX3_walk_1 : decode cX3_walk 1 = .ok (.istore_n 1, 1) := by decide +kernel
theorem dX3_walk_2 : decode cX3_walk 2 = .ok (.iload_n 1, 1) := by decide +kernel
theorem dX3_walk_3 : decode cX3_walk 3 = .ok (.aload_n 0, 1) := by decide +kernel
theorem dX3_walk_4 : decode cX3_walk 4 = .ok (.getfield 9, 3) := by decide +kernel
theorem dX3_walk_7 : decode cX3_walk 7 = .ok (.if_icmp .ge 103, 3) := by decide +kernel
theorem dX3_walk_10 : decode cX3_walk 10 = .ok (.aload_n 0, 1) := by decide +kernel
theorem dX3_walk_11 : decode cX3_walk 11 = .ok (.getfield 22, 3) := by decide +kernel
theorem dX3_walk_14 : decode cX3_walk 14 = .ok (.iload_n 1, 1) := by decide +kernel
theorem dX3_walk_15 : decode cX3_walk 15 = .ok (.iaload, 1) := by decide +kernel
theorem dX3_walk_16 : decode cX3_walk 16 = .ok (.istore_n 2, 1) := by decide +kernel
theorem dX3_walk_17 : decode cX3_walk 17 = .ok (.iconst 0, 1) := by decide +kernel
theorem dX3_walk_18 : decode cX3_walk 18 = .ok (.istore_n 3, 1) := by decide +kernel
theorem dX3_walk_19 : decode cX3_walk 19 = .ok (.iload_n 3, 1) := by decide +kernel
theorem dX3_walk_20 : decode cX3_walk 20 = .ok (.iconst 3, 1) := by decide +kernel
theorem dX3_walk_21 : decode cX3_walk 21 = .ok (.if_icmp .ge 74, 3) := by decide +kernel
theorem dX3_walk_24 : decode cX3_walk 24 = .ok (.aload_n 0, 1) := by decide +kernel
theorem dX3_walk_25 : decode cX3_walk 25 = .ok (.getfield 15, 3) := by decide +kernel
theorem dX3_walk_28 : decode cX3_walk 28 = .ok (.iload_n 3, 1) := by decide +kernel
theorem dX3_walk_29 : decode cX3_walk 29 = .ok (.iaload, 1) := by decide +kernel
theorem dX3_walk_30 : decode cX3_walk 30 = .ok (.ifCond .ne 9, 3) := by decide +kernel
theorem dX3_walk_33 : decode cX3_walk 33 = .ok (.ldc 36, 2) := by decide +kernel
theorem dX3_walk_35 : decode cX3_walk 35 = .ok (.istore_n 2, 1) := by decide +kernel
theorem dX3_walk_36 : decode cX3_walk 36 = .ok (.goto 35, 3) := by decide +kernel
theorem dX3_walk_39 : decode cX3_walk 39 = .ok (.aload_n 0, 1) := by decide +kernel
theorem dX3_walk_40 : decode cX3_walk 40 = .ok (.getfield 15, 3) := by decide +kernel
theorem dX3_walk_43 : decode cX3_walk 43 = .ok (.iload_n 3, 1) := by decide +kernel
theorem dX3_walk_44 : decode cX3_walk 44 = .ok (.iaload, 1) := by decide +kernel
theorem dX3_walk_45 : decode cX3_walk 45 = .ok (.iload_n 1, 1) := by decide +kernel
theorem dX3_walk_46 : decode cX3_walk 46 = .ok (.if_icmp .gt 25, 3) := by decide +kernel
theorem dX3_walk_49 : decode cX3_walk 49 = .ok (.iload_n 2, 1) := by decide +kernel
theorem dX3_walk_50 : decode cX3_walk 50 = .ok (.aload_n 0, 1) := by decide +kernel
theorem dX3_walk_51 : decode cX3_walk 51 = .ok (.getfield 27, 3) := by decide +kernel
theorem dX3_walk_54 : decode cX3_walk 54 = .ok (.iload_n 3, 1) := by decide +kernel
theorem dX3_walk_55 : decode cX3_walk 55 = .ok (.iconst 1, 1) := by decide +kernel
theorem dX3_walk_56 : decode cX3_walk 56 = .ok (.iadd, 1) := by decide +kernel
theorem dX3_walk_57 : decode cX3_walk 57 = .ok (.aaload, 1) := by decide +kernel
theorem dX3_walk_58 : decode cX3_walk 58 = .ok (.iload_n 1, 1) := by decide +kernel
theorem dX3_walk_59 : decode cX3_walk 59 = .ok (.aload_n 0, 1) := by decide +kernel
theorem dX3_walk_60 : decode cX3_walk 60 = .ok (.getfield 15, 3) := by decide +kernel
theorem dX3_walk_63 : decode cX3_walk 63 = .ok (.iload_n 3, 1) := by decide +kernel
theorem dX3_walk_64 : decode cX3_walk 64 = .ok (.iaload, 1) := by decide +kernel
theorem dX3_walk_65 : decode cX3_walk 65 = .ok (.isub, 1) := by decide +kernel
theorem dX3_walk_66 : decode cX3_walk 66 = .ok (.iaload, 1) := by decide +kernel
theorem dX3_walk_67 : decode cX3_walk 67 = .ok (.invokestatic 37, 3) := by decide +kernel
theorem dX3_walk_70 : decode cX3_walk 70 = .ok (.istore_n 2, 1) := by decide +kernel
theorem dX3_walk_71 : decode cX3_walk 71 = .ok (.aload_n 0, 1) := by decide +kernel
theorem dX3_walk_72 : decode cX3_walk 72 = .ok (.getfield 27, 3) := by decide +kernel
theorem dX3_walk_75 : decode cX3_walk 75 = .ok (.iload_n 3, 1) := by decide +kernel
theorem dX3_walk_76 : decode cX3_walk 76 = .ok (.aaload, 1) := by decide +kernel
theorem dX3_walk_77 : decode cX3_walk 77 = .ok (.iload_n 1, 1) := by decide +kernel
theorem dX3_walk_78 : decode cX3_walk 78 = .ok (.iload_n 2, 1) := by decide +kernel
theorem dX3_walk_79 : decode cX3_walk 79 = .ok (.iastore, 1) := by decide +kernel
theorem dX3_walk_80 : decode cX3_walk 80 = .ok (.iload_n 2, 1) := by decide +kernel
theorem dX3_walk_81 : decode cX3_walk 81 = .ok (.aload_n 0, 1) := by decide +kernel
theorem dX3_walk_82 : decode cX3_walk 82 = .ok (.getfield 19, 3) := by decide +kernel
theorem dX3_walk_85 : decode cX3_walk 85 = .ok (.iload_n 3, 1) := by decide +kernel
theorem dX3_walk_86 : decode cX3_walk 86 = .ok (.iaload, 1) := by decide +kernel
theorem dX3_walk_87 : decode cX3_walk 87 = .ok (.iadd, 1) := by decide +kernel
theorem dX3_walk_88 : decode cX3_walk 88 = .ok (.istore_n 2, 1) := by decide +kernel
theorem dX3_walk_89 : decode cX3_walk 89 = .ok (.iinc 3 1, 3) := by decide +kernel
theorem dX3_walk_92 : decode cX3_walk 92 = .ok (.goto (-73), 3) := by decide +kernel
theorem dX3_walk_95 : decode cX3_walk 95 = .ok (.aload_n 0, 1) := by decide +kernel
theorem dX3_walk_96 : decode cX3_walk 96 = .ok (.getfield 27, 3) := by decide +kernel
theorem dX3_walk_99 : decode cX3_walk 99 = .ok (.iconst 3, 1) := by decide +kernel
theorem dX3_walk_100 : decode cX3_walk 100 = .ok (.aaload, 1) := by decide +kernel
theorem dX3_walk_101 : decode cX3_walk 101 = .ok (.iload_n 1, 1) := by decide +kernel
theorem dX3_walk_102 : decode cX3_walk 102 = .ok (.iload_n 2, 1) := by decide +kernel
theorem dX3_walk_103 : decode cX3_walk 103 = .ok (.iastore, 1) := by decide +kernel
theorem dX3_walk_104 : decode cX3_walk 104 = .ok (.iinc 1 1, 3) := by decide +kernel
theorem dX3_walk_107 : decode cX3_walk 107 = .ok (.goto (-105), 3) := by decide +kernel
theorem dX3_walk_110 : decode cX3_walk 110 = .ok (.return_, 1) := by decide +kernel
theorem dX3_mostBetween_0 : decode cX3_mostBetween 0 = .ok (.iconst 0, 1) := by decide +kernel
theorem dX3_mostBetween_1 : decode cX3_mostBetween 1 = .ok (.istore_n 3, 1) := by decide +kernel
theorem dX3_mostBetween_2 : decode cX3_mostBetween 2 = .ok (.iconst 0, 1) := by decide +kernel
theorem dX3_mostBetween_3 : decode cX3_mostBetween 3 = .ok (.istore 4, 2) := by decide +kernel
theorem dX3_mostBetween_5 : decode cX3_mostBetween 5 = .ok (.iload 4, 2) := by decide +kernel
theorem dX3_mostBetween_7 : decode cX3_mostBetween 7 = .ok (.aload_n 0, 1) := by decide +kernel
theorem dX3_mostBetween_8 : decode cX3_mostBetween 8 = .ok (.getfield 9, 3) := by decide +kernel
theorem dX3_mostBetween_11 : decode cX3_mostBetween 11 = .ok (.if_icmp .ge 34, 3) := by decide +kernel
theorem dX3_mostBetween_14 : decode cX3_mostBetween 14 = .ok (.aload_n 1, 1) := by decide +kernel
theorem dX3_mostBetween_15 : decode cX3_mostBetween 15 = .ok (.iload 4, 2) := by decide +kernel
theorem dX3_mostBetween_17 : decode cX3_mostBetween 17 = .ok (.iaload, 1) := by decide +kernel
theorem dX3_mostBetween_18 : decode cX3_mostBetween 18 = .ok (.sipush 5000, 3) := by decide +kernel
theorem dX3_mostBetween_21 : decode cX3_mostBetween 21 = .ok (.if_icmp .gt 18, 3) := by decide +kernel
theorem dX3_mostBetween_24 : decode cX3_mostBetween 24 = .ok (.iload_n 3, 1) := by decide +kernel
theorem dX3_mostBetween_25 : decode cX3_mostBetween 25 = .ok (.aload_n 0, 1) := by decide +kernel
theorem dX3_mostBetween_26 : decode cX3_mostBetween 26 = .ok (.aload_n 1, 1) := by decide +kernel
theorem dX3_mostBetween_27 : decode cX3_mostBetween 27 = .ok (.iload 4, 2) := by decide +kernel
theorem dX3_mostBetween_29 : decode cX3_mostBetween 29 = .ok (.iaload, 1) := by decide +kernel
theorem dX3_mostBetween_30 : decode cX3_mostBetween 30 = .ok (.aload_n 1, 1) := by decide +kernel
theorem dX3_mostBetween_31 : decode cX3_mostBetween 31 = .ok (.aload_n 2, 1) := by decide +kernel
theorem dX3_mostBetween_32 : decode cX3_mostBetween 32 = .ok (.invokevirtual 40, 3) := by decide +kernel
theorem dX3_mostBetween_35 : decode cX3_mostBetween 35 = .ok (.invokestatic 37, 3) := by decide +kernel
theorem dX3_mostBetween_38 : decode cX3_mostBetween 38 = .ok (.istore_n 3, 1) := by decide +kernel
theorem dX3_mostBetween_39 : decode cX3_mostBetween 39 = .ok (.iinc 4 1, 3) := by decide +kernel
theorem dX3_mostBetween_42 : decode cX3_mostBetween 42 = .ok (.goto (-37), 3) := by decide +kernel
theorem dX3_mostBetween_45 : decode cX3_mostBetween 45 = .ok (.iload_n 3, 1) := by decide +kernel
theorem dX3_mostBetween_46 : decode cX3_mostBetween 46 = .ok (.ireturn, 1) := by decide +kernel
theorem dX3_thereAt_0 : decode cX3_thereAt 0 = .ok (.iconst 0, 1) := by decide +kernel
theorem dX3_thereAt_1 : decode cX3_thereAt 1 = .ok (.istore 4, 2) := by decide +kernel
theorem dX3_thereAt_3 : decode cX3_thereAt 3 = .ok (.iconst 0, 1) := by decide +kernel
theorem dX3_thereAt_4 : decode cX3_thereAt 4 = .ok (.istore 5, 2) := by decide +kernel
theorem dX3_thereAt_6 : decode cX3_thereAt 6 = .ok (.iload 5, 2) := by decide +kernel
theorem dX3_thereAt_8 : decode cX3_thereAt 8 = .ok (.aload_n 0, 1) := by decide +kernel
theorem dX3_thereAt_9 : decode cX3_thereAt 9 = .ok (.getfield 9, 3) := by decide +kernel
theorem dX3_thereAt_12 : decode cX3_thereAt 12 = .ok (.if_icmp .ge 28, 3) := by decide +kernel
theorem dX3_thereAt_15 : decode cX3_thereAt 15 = .ok (.aload_n 2, 1) := by decide +kernel
theorem dX3_thereAt_16 : decode cX3_thereAt 16 = .ok (.iload 5, 2) := by decide +kernel
theorem dX3_thereAt_18 : decode cX3_thereAt 18 = .ok (.iaload, 1) := by decide +kernel
theorem dX3_thereAt_19 : decode cX3_thereAt 19 = .ok (.iload_n 1, 1) := by decide +kernel
theorem dX3_thereAt_20 : decode cX3_thereAt 20 = .ok (.if_icmp .gt 14, 3) := by decide +kernel
theorem dX3_thereAt_23 : decode cX3_thereAt 23 = .ok (.iload_n 1, 1) := by decide +kernel
theorem dX3_thereAt_24 : decode cX3_thereAt 24 = .ok (.aload_n 3, 1) := by decide +kernel
theorem dX3_thereAt_25 : decode cX3_thereAt 25 = .ok (.iload 5, 2) := by decide +kernel
theorem dX3_thereAt_27 : decode cX3_thereAt 27 = .ok (.iaload, 1) := by decide +kernel
theorem dX3_thereAt_28 : decode cX3_thereAt 28 = .ok (.if_icmp .ge 6, 3) := by decide +kernel
theorem dX3_thereAt_31 : decode cX3_thereAt 31 = .ok (.iinc 4 1, 3) := by decide +kernel
theorem dX3_thereAt_34 : decode cX3_thereAt 34 = .ok (.iinc 5 1, 3) := by decide +kernel
theorem dX3_thereAt_37 : decode cX3_thereAt 37 = .ok (.goto (-31), 3) := by decide +kernel
theorem dX3_thereAt_40 : decode cX3_thereAt 40 = .ok (.iload 4, 2) := by decide +kernel
theorem dX3_thereAt_42 : decode cX3_thereAt 42 = .ok (.ireturn, 1) := by decide +kernel
theorem dX4_init_0 : decode cX4_init 0 = .ok (.aload_n 0, 1) := by decide +kernel

theorem dX4_init_1 : decode cX4_init 1 = .ok (.invokespecial 3, 3) := by decide +kernel
theorem dX4_init_4 : decode cX4_init 4 = .ok (.aload_n 0, 1) := by decide +kernel
theorem dX4_init_5 : decode cX4_init 5 = .ok (.iconst 0, 1) := by decide +kernel
theorem dX4_init_6 : decode cX4_init 6 = .ok (.putfield 9, 3) := by decide +kernel
theorem dX4_init_9 : decode cX4_init 9 = .ok (.aload_n 0, 1) := by decide +kernel
theorem dX4_init_10 : decode cX4_init 10 = .ok (.iconst 0, 1) := by decide +kernel
theorem dX4_init_11 : decode cX4_init 11 = .ok (.putfield 15, 3) := by decide +kernel
theorem dX4_init_14 : decode cX4_init 14 = .ok (.aload_n 0, 1) := by decide +kernel
theorem dX4_init_15 : decode cX4_init 15 = .ok (.bipush 8, 2) := by decide +kernel
theorem dX4_init_17 : decode cX4_init 17 = .ok (.newarray .int, 2) := by decide +kernel
theorem dX4_init_19 : decode cX4_init 19 = .ok (.putfield 18, 3) := by decide +kernel
theorem dX4_init_22 : decode cX4_init 22 = .ok (.aload_n 0, 1) := by decide +kernel
theorem dX4_init_23 : decode cX4_init 23 = .ok (.iconst (-1), 1) := by decide +kernel
theorem dX4_init_24 : decode cX4_init 24 = .ok (.putfield 22, 3) := by decide +kernel
theorem dX4_init_27 : decode cX4_init 27 = .ok (.aload_n 0, 1) := by decide +kernel
theorem dX4_init_28 : decode cX4_init 28 = .ok (.bipush 8, 2) := by decide +kernel
theorem dX4_init_30 : decode cX4_init 30 = .ok (.newarray .int, 2) := by decide +kernel
theorem dX4_init_32 : decode cX4_init 32 = .ok (.putfield 25, 3) := by decide +kernel
theorem dX4_init_35 : decode cX4_init 35 = .ok (.aload_n 0, 1) := by decide +kernel
theorem dX4_init_36 : decode cX4_init 36 = .ok (.bipush 9, 2) := by decide +kernel
theorem dX4_init_38 : decode cX4_init 38 = .ok (.iconst 4, 1) := by decide +kernel
theorem dX4_init_39 : decode cX4_init 39 = .ok (.multianewarray 28 2, 4) := by decide +kernel
theorem dX4_init_43 : decode cX4_init 43 = .ok (.putfield 30, 3) := by decide +kernel
theorem dX4_init_46 : decode cX4_init 46 = .ok (.aload_n 0, 1) := by decide +kernel
theorem dX4_init_47 : decode cX4_init 47 = .ok (.bipush 8, 2) := by decide +kernel
theorem dX4_init_49 : decode cX4_init 49 = .ok (.iconst 4, 1) := by decide +kernel
theorem dX4_init_50 : decode cX4_init 50 = .ok (.multianewarray 28 2, 4) := by decide +kernel
theorem dX4_init_54 : decode cX4_init 54 = .ok (.putfield 33, 3) := by decide +kernel
theorem dX4_init_57 : decode cX4_init 57 = .ok (.aload_n 0, 1) := by decide +kernel
theorem dX4_init_58 : decode cX4_init 58 = .ok (.bipush 8, 2) := by decide +kernel
theorem dX4_init_60 : decode cX4_init 60 = .ok (.iconst 4, 1) := by decide +kernel
theorem dX4_init_61 : decode cX4_init 61 = .ok (.multianewarray 28 2, 4) := by decide +kernel
theorem dX4_init_65 : decode cX4_init 65 = .ok (.putfield 36, 3) := by decide +kernel
theorem dX4_init_68 : decode cX4_init 68 = .ok (.return_, 1) := by decide +kernel
theorem dX4_forgetOrder_0 : decode cX4_forgetOrder 0 = .ok (.aload_n 0, 1) := by decide +kernel
theorem dX4_forgetOrder_1 : decode cX4_forgetOrder 1 = .ok (.iconst (-1), 1) := by decide +kernel
theorem dX4_forgetOrder_2 : decode cX4_forgetOrder 2 = .ok (.putfield 22, 3) := by decide +kernel
theorem dX4_forgetOrder_5 : decode cX4_forgetOrder 5 = .ok (.return_, 1) := by decide +kernel
theorem dX4_findOrder_0 : decode cX4_findOrder 0 = .ok (.iload_n 2, 1) := by decide +kernel
theorem dX4_findOrder_1 : decode cX4_findOrder 1 = .ok (.aload_n 0, 1) := by decide +kernel
theorem dX4_findOrder_2 : decode cX4_findOrder 2 = .ok (.getfield 22, 3) := by decide +kernel
theorem dX4_findOrder_5 : decode cX4_findOrder 5 = .ok (.if_icmp .ne 4, 3) := by decide +kernel
theorem dX4_findOrder_8 : decode cX4_findOrder 8 = .ok (.return_, 1) := by decide +kernel
theorem dX4_findOrder_9 : decode cX4_findOrder 9 = .ok (.iconst 0, 1) := by decide +kernel
theorem dX4_findOrder_10 : decode cX4_findOrder 10 = .ok (.istore_n 3, 1) := by decide +kernel
theorem dX4_findOrder_11 : decode cX4_findOrder 11 = .ok (.iload_n 3, 1) := by decide +kernel
theorem dX4_findOrder_12 : decode cX4_findOrder 12 = .ok (.bipush 8, 2) := by decide +kernel
theorem dX4_findOrder_14 : decode cX4_findOrder 14 = .ok (.if_icmp .ge 20, 3) := by decide +kernel
theorem dX4_findOrder_17 : decode cX4_findOrder 17 = .ok (.aload_n 0, 1) := by decide +kernel
theorem dX4_findOrder_18 : decode cX4_findOrder 18 = .ok (.iload_n 3, 1) := by decide +kernel
theorem dX4_findOrder_19 : decode cX4_findOrder 19 = .ok (.aload_n 1, 1) := by decide +kernel
theorem dX4_findOrder_20 : decode cX4_findOrder 20 = .ok (.iload_n 3, 1) := by decide +kernel
theorem dX4_findOrder_21 : decode cX4_findOrder 21 = .ok (.aaload, 1) := by decide +kernel
theorem dX4_findOrder_22 : decode cX4_findOrder 22 = .ok (.getfield 39, 3) := by decide +kernel
theorem dX4_findOrder_25 : decode cX4_findOrder 25 = .ok (.invokevirtual 43, 3) := by decide +kernel
theorem dX4_findOrder_28 : decode cX4_findOrder 28 = .ok (.iinc 3 1, 3) := by decide +kernel
theorem dX4_findOrder_31 : decode cX4_findOrder 31 = .ok (.goto (-20), 3) := by decide +kernel
theorem dX4_findOrder_34 : decode cX4_findOrder 34 = .ok (.aload_n 0, 1) := by decide +kernel
theorem dX4_findOrder_35 : decode cX4_findOrder 35 = .ok (.iload_n 2, 1) := by decide +kernel
theorem dX4_findOrder_36 : decode cX4_findOrder 36 = .ok (.invokestatic 47, 3) := by decide +kernel
theorem dX4_findOrder_39 : decode cX4_findOrder 39 = .ok (.putfield 9, 3) := by decide +kernel
theorem dX4_findOrder_42 : decode cX4_findOrder 42 = .ok (.aload_n 0, 1) := by decide +kernel
theorem dX4_findOrder_43 : decode cX4_findOrder 43 = .ok (.ldc 53, 2) := by decide +kernel
theorem dX4_findOrder_45 : decode cX4_findOrder 45 = .ok (.putfield 15, 3) := by decide +kernel
theorem dX4_findOrder_48 : decode cX4_findOrder 48 = .ok (.aload_n 0, 1) := by decide +kernel
theorem dX4_findOrder_49 : decode cX4_findOrder 49 = .ok (.iconst 0, 1) := by decide +kernel
theorem dX4_findOrder_50 : decode cX4_findOrder 50 = .ok (.iload_n 2, 1) := by decide +kernel
theorem dX4_findOrder_51 : decode cX4_findOrder 51 = .ok (.invokestatic 54, 3) := by decide +kernel
theorem dX4_findOrder_54 : decode cX4_findOrder 54 = .ok (.aload_n 0, 1) := by decide +kernel
theorem dX4_findOrder_55 : decode cX4_findOrder 55 = .ok (.iload_n 2, 1) := by decide +kernel
theorem dX4_findOrder_56 : decode cX4_findOrder 56 = .ok (.putfield 22, 3) := by decide +kernel
theorem dX4_findOrder_59 : decode cX4_findOrder 59 = .ok (.return_, 1) := by decide +kernel
theorem dX4_takeDays_0 : decode cX4_takeDays 0 = .ok (.iconst 0, 1) := by decide +kernel
theorem dX4_takeDays_1 : decode cX4_takeDays 1 = .ok (.istore_n 3, 1) := by decide +kernel
theorem dX4_takeDays_2 : decode cX4_takeDays 2 = .ok (.iconst 3, 1) := by decide +kernel
theorem dX4_takeDays_3 : decode cX4_takeDays 3 = .ok (.istore 4, 2) := by decide +kernel
theorem dX4_takeDays_5 : decode cX4_takeDays 5 = .ok (.iload 4, 2) := by decide +kernel
theorem dX4_takeDays_7 : decode cX4_takeDays 7 = .ok (.ifCond .lt 39, 3) := by decide +kernel
theorem dX4_takeDays_10 : decode cX4_takeDays 10 = .ok (.aload_n 0, 1) := by decide +kernel
theorem dX4_takeDays_11 : decode cX4_takeDays 11 = .ok (.getfield 33, 3) := by decide +kernel
theorem dX4_takeDays_14 : decode cX4_takeDays 14 = .ok (.iload_n 1, 1) := by decide +kernel
theorem dX4_takeDays_15 : decode cX4_takeDays 15 = .ok (.aaload, 1) := by decide +kernel
theorem dX4_takeDays_16 : decode cX4_takeDays 16 = .ok (.iload 4, 2) := by decide +kernel
theorem dX4_takeDays_18 : decode cX4_takeDays 18 = .ok (.aload_n 2, 1) := by decide +kernel
theorem dX4_takeDays_19 : decode cX4_takeDays 19 = .ok (.iload 4, 2) := by decide +kernel
theorem dX4_takeDays_21 : decode cX4_takeDays 21 = .ok (.iaload, 1) := by decide +kernel
theorem dX4_takeDays_22 : decode cX4_takeDays 22 = .ok (.iastore, 1) := by decide +kernel
theorem dX4_takeDays_23 : decode cX4_takeDays 23 = .ok (.aload_n 0, 1) := by decide +kernel
theorem dX4_takeDays_24 : decode cX4_takeDays 24 = .ok (.getfield 36, 3) := by decide +kernel
theorem dX4_takeDays_27 : decode cX4_takeDays 27 = .ok (.iload_n 1, 1) := by decide +kernel
theorem dX4_takeDays_28 : decode cX4_takeDays 28 = .ok (.aaload, 1) := by decide +kernel
theorem dX4_takeDays_29 : decode cX4_takeDays 29 = .ok (.iload 4, 2) := by decide +kernel
theorem dX4_takeDays_31 : decode cX4_takeDays 31 = .ok (.iload_n 3, 1) := by decide +kernel
theorem dX4_takeDays_32 : decode cX4_takeDays 32 = .ok (.iastore, 1) := by decide +kernel
theorem dX4_takeDays_33 : decode cX4_takeDays 33 = .ok (.iload_n 3, 1) := by decide +kernel
theorem dX4_takeDays_34 : decode cX4_takeDays 34 = .ok (.aload_n 2, 1) := by decide +kernel
theorem dX4_takeDays_35 : decode cX4_takeDays 35 = .ok (.iload 4, 2) := by decide +kernel
theorem dX4_takeDays_37 : decode cX4_takeDays 37 = .ok (.iaload, 1) := by decide +kernel
theorem dX4_takeDays_38 : decode cX4_takeDays 38 = .ok (.iadd, 1) := by decide +kernel
theorem dX4_takeDays_39 : decode cX4_takeDays 39 = .ok (.istore_n 3, 1) := by decide +kernel
theorem dX4_takeDays_40 : decode cX4_takeDays 40 = .ok (.iinc 4 (-1), 3) := by decide +kernel
theorem dX4_takeDays_43 : decode cX4_takeDays 43 = .ok (.goto (-38), 3) := by decide +kernel
theorem dX4_takeDays_46 : decode cX4_takeDays 46 = .ok (.return_, 1) := by decide +kernel
theorem dX4_search_0 : decode cX4_search 0 = .ok (.iload_n 1, 1) := by decide +kernel
theorem dX4_search_1 : decode cX4_search 1 = .ok (.bipush 8, 2) := by decide +kernel
theorem dX4_search_3 : decode cX4_search 3 = .ok (.if_icmp .gt 16, 3) := by decide +kernel
theorem dX4_search_6 : decode cX4_search 6 = .ok (.aload_n 0, 1) := by decide +kernel
theorem dX4_search_7 : decode cX4_search 7 = .ok (.iload_n 1, 1) := by decide +kernel
theorem dX4_search_8 : decode cX4_search 8 = .ok (.iload_n 2, 1) := by decide +kernel
theorem dX4_search_9 : decode cX4_search 9 = .ok (.invokevirtual 58, 3) := by decide +kernel
theorem dX4_search_12 : decode cX4_search 12 = .ok (.aload_n 0, 1) := by decide +kernel
theorem dX4_search_13 : decode cX4_search 13 = .ok (.getfield 15, 3) := by decide +kernel
theorem dX4_search_16 : decode cX4_search 16 = .ok (.if_icmp .lt 4, 3) := by decide +kernel
theorem dX4_search_19 : decode cX4_search 19 = .ok (.return_, 1) := by decide +kernel
theorem dX4_search_20 : decode cX4_search 20 = .ok (.iload_n 2, 1) := by decide +kernel
theorem dX4_search_21 : decode cX4_search 21 = .ok (.ifCond .ne 9, 3) := by decide +kernel
theorem dX4_search_24 : decode cX4_search 24 = .ok (.aload_n 0, 1) := by decide +kernel
theorem dX4_search_25 : decode cX4_search 25 = .ok (.iload_n 1, 1) := by decide +kernel
theorem dX4_search_26 : decode cX4_search 26 = .ok (.invokevirtual 62, 3) := by decide +kernel
theorem dX4_search_29 : decode cX4_search 29 = .ok (.return_, 1) := by decide +kernel
theorem dX4_search_30 : decode cX4_search 30 = .ok (.iconst 0, 1) := by decide +kernel
theorem dX4_search_31 : decode cX4_search 31 = .ok (.istore_n 3, 1) := by decide +kernel
theorem dX4_search_32 : decode cX4_search 32 = .ok (.iload_n 3, 1) := by decide +kernel
theorem dX4_search_33 : decode cX4_search 33 = .ok (.bipush 8, 2) := by decide +kernel
theorem dX4_search_35 : decode cX4_search 35 = .ok (.if_icmp .ge 43, 3) := by decide +kernel
theorem dX4_search_38 : decode cX4_search 38 = .ok (.iload_n 1, 1) := by decide +kernel
theorem dX4_search_39 : decode cX4_search 39 = .ok (.bipush 8, 2) := by decide +kernel
theorem dX4_search_41 : decode cX4_search 41 = .ok (.if_icmp .ge 37, 3) := by decide +kernel
theorem dX4_search_44 : decode cX4_search 44 = .ok (.iload_n 2, 1) := by decide +kernel
theorem dX4_search_45 : decode cX4_search 45 = .ok (.iconst 1, 1) := by decide +kernel
theorem dX4_search_46 : decode cX4_search 46 = .ok (.iload_n 3, 1) := by decide +kernel
theorem dX4_search_47 : decode cX4_search 47 = .ok (.ishl, 1) := by decide +kernel
theorem dX4_search_48 : decode cX4_search 48 = .ok (.iand, 1) := by decide +kernel
theorem dX4_search_49 : decode cX4_search 49 = .ok (.ifCond .eq 23, 3) := by decide +kernel
theorem dX4_search_52 : decode cX4_search 52 = .ok (.aload_n 0, 1) := by decide +kernel
theorem dX4_search_53 : decode cX4_search 53 = .ok (.iload_n 1, 1) := by decide +kernel
theorem dX4_search_54 : decode cX4_search 54 = .ok (.iload_n 3, 1) := by decide +kernel
theorem dX4_search_55 : decode cX4_search 55 = .ok (.invokevirtual 66, 3) := by decide +kernel
theorem dX4_search_58 : decode cX4_search 58 = .ok (.aload_n 0, 1) := by decide +kernel
theorem dX4_search_59 : decode cX4_search 59 = .ok (.iload_n 1, 1) := by decide +kernel
theorem dX4_search_60 : decode cX4_search 60 = .ok (.iconst 1, 1) := by decide +kernel
theorem dX4_search_61 : decode cX4_search 61 = .ok (.iadd, 1) := by decide +kernel
theorem dX4_search_62 : decode cX4_search 62 = .ok (.iload_n 2, 1) := by decide +kernel
theorem dX4_search_63 : decode cX4_search 63 = .ok (.iconst 1, 1) := by decide +kernel
theorem dX4_search_64 : decode cX4_search 64 = .ok (.iload_n 3, 1) := by decide +kernel
theorem dX4_search_65 : decode cX4_search 65 = .ok (.ishl, 1) := by decide +kernel
theorem dX4_search_66 : decode cX4_search 66 = .ok (.iconst (-1), 1) := by decide +kernel
theorem dX4_search_67 : decode cX4_search 67 = .ok (.ixor, 1) := by decide +kernel
theorem dX4_search_68 : decode cX4_search 68 = .ok (.iand, 1) := by decide +kernel
theorem dX4_search_69 : decode cX4_search 69 = .ok (.invokestatic 54, 3) := by decide +kernel
theorem dX4_search_72 : decode cX4_search 72 = .ok (.iinc 3 1, 3) := by decide +kernel
theorem dX4_search_75 : decode cX4_search 75 = .ok (.goto (-43), 3) := by decide +kernel
theorem dX4_search_78 : decode cX4_search 78 = .ok (.return_, 1) := by decide +kernel
theorem dX4_work_0 : decode cX4_work 0 = .ok (.aload_n 0, 1) := by decide +kernel
theorem dX4_work_1 : decode cX4_work 1 = .ok (.getfield 25, 3) := by decide +kernel
theorem dX4_work_4 : decode cX4_work 4 = .ok (.iload_n 1, 1) := by decide +kernel
theorem dX4_work_5 : decode cX4_work 5 = .ok (.iload_n 2, 1) := by decide +kernel
theorem dX4_work_6 : decode cX4_work 6 = .ok (.iastore, 1) := by decide +kernel
theorem dX4_work_7 : decode cX4_work 7 = .ok (.iconst 0, 1) := by decide +kernel
theorem dX4_work_8 : decode cX4_work 8 = .ok (.istore_n 3, 1) := by decide +kernel
theorem dX4_work_9 : decode cX4_work 9 = .ok (.iconst 0, 1) := by decide +kernel
theorem dX4_work_10 : decode cX4_work 10 = .ok (.istore 4, 2) := by decide +kernel
theorem dX4_work_12 : decode cX4_work 12 = .ok (.iload 4, 2) := by decide +kernel
theorem dX4_work_14 : decode cX4_work 14 = .ok (.iconst 4, 1) := by decide +kernel
theorem dX4_work_15 : decode cX4_work 15 = .ok (.if_icmp .ge 49, 3) := by decide +kernel
theorem dX4_work_18 : decode cX4_work 18 = .ok (.aload_n 0, 1) := by decide +kernel
theorem dX4_work_19 : decode cX4_work 19 = .ok (.getfield 30, 3) := by decide +kernel
theorem dX4_work_22 : decode cX4_work 22 = .ok (.iload_n 1, 1) := by decide +kernel
theorem dX4_work_23 : decode cX4_work 23 = .ok (.aaload, 1) := by decide +kernel
theorem dX4_work_24 : decode cX4_work 24 = .ok (.iload 4, 2) := by decide +kernel
theorem dX4_work_26 : decode cX4_work 26 = .ok (.iaload, 1) := by decide +kernel
theorem dX4_work_27 : decode cX4_work 27 = .ok (.iload_n 3, 1) := by decide +kernel
theorem dX4_work_28 : decode cX4_work 28 = .ok (.invokestatic 70, 3) := by decide +kernel
theorem dX4_work_31 : decode cX4_work 31 = .ok (.istore 5, 2) := by decide +kernel
theorem dX4_work_33 : decode cX4_work 33 = .ok (.iload 5, 2) := by decide +kernel
theorem dX4_work_35 : decode cX4_work 35 = .ok (.aload_n 0, 1) := by decide +kernel
theorem dX4_work_36 : decode cX4_work 36 = .ok (.getfield 33, 3) := by decide +kernel
theorem dX4_work_39 : decode cX4_work 39 = .ok (.iload_n 2, 1) := by decide +kernel
theorem dX4_work_40 : decode cX4_work 40 = .ok (.aaload, 1) := by decide +kernel
theorem dX4_work_41 : decode cX4_work 41 = .ok (.iload 4, 2) := by decide +kernel
theorem dX4_work_43 : decode cX4_work 43 = .ok (.iaload, 1) := by decide +kernel
theorem dX4_work_44 : decode cX4_work 44 = .ok (.iadd, 1) := by decide +kernel
theorem dX4_work_45 : decode cX4_work 45 = .ok (.istore_n 3, 1) := by decide +kernel
theorem dX4_work_46 : decode cX4_work 46 = .ok (.aload_n 0, 1) := by decide +kernel
theorem dX4_work_47 : decode cX4_work 47 = .ok (.getfield 30, 3) := by decide +kernel
theorem dX4_work_50 : decode cX4_work 50 = .ok (.iload_n 1, 1) := by decide +kernel
theorem dX4_work_51 : decode cX4_work 51 = .ok (.iconst 1, 1) := by decide +kernel
theorem dX4_work_52 : decode cX4_work 52 = .ok (.iadd, 1) := by decide +kernel
theorem dX4_work_53 : decode cX4_work 53 = .ok (.aaload, 1) := by decide +kernel
theorem dX4_work_54 : decode cX4_work 54 = .ok (.iload 4, 2) := by decide +kernel
theorem dX4_work_56 : decode cX4_work 56 = .ok (.iload_n 3, 1) := by decide +kernel
theorem dX4_work_57 : decode cX4_work 57 = .ok (.iastore, 1) := by decide +kernel
theorem dX4_work_58 : decode cX4_work 58 = .ok (.iinc 4 1, 3) := by decide +kernel
theorem dX4_work_61 : decode cX4_work 61 = .ok (.goto (-49), 3) := by decide +kernel
theorem dX4_work_64 : decode cX4_work 64 = .ok (.return_, 1) := by decide +kernel
theorem dX4_soonestEnd_0 : decode cX4_soonestEnd 0 = .ok (.iconst 0, 1) := by decide +kernel
theorem dX4_soonestEnd_1 : decode cX4_soonestEnd 1 = .ok (.istore_n 3, 1) := by decide +kernel
theorem dX4_soonestEnd_2 : decode cX4_soonestEnd 2 = .ok (.iconst 0, 1) := by decide +kernel
theorem dX4_soonestEnd_3 : decode cX4_soonestEnd 3 = .ok (.istore 4, 2) := by decide +kernel
theorem dX4_soonestEnd_5 : decode cX4_soonestEnd 5 = .ok (.iload 4, 2) := by decide +kernel
theorem dX4_soonestEnd_7 : decode cX4_soonestEnd 7 = .ok (.iconst 4, 1) := by decide +kernel
theorem dX4_soonestEnd_8 : decode cX4_soonestEnd 8 = .ok (.if_icmp .ge 99, 3) := by decide +kernel
theorem dX4_soonestEnd_11 : decode cX4_soonestEnd 11 = .ok (.aload_n 0, 1) := by decide +kernel
theorem dX4_soonestEnd_12 : decode cX4_soonestEnd 12 = .ok (.getfield 30, 3) := by decide +kernel
theorem dX4_soonestEnd_15 : decode cX4_soonestEnd 15 = .ok (.iload_n 1, 1) := by decide +kernel
theorem dX4_soonestEnd_16 : decode cX4_soonestEnd 16 = .ok (.aaload, 1) := by decide +kernel
theorem dX4_soonestEnd_17 : decode cX4_soonestEnd 17 = .ok (.iload 4, 2) := by decide +kernel
theorem dX4_soonestEnd_19 : decode cX4_soonestEnd 19 = .ok (.iaload, 1) := by decide +kernel
theorem dX4_soonestEnd_20 : decode cX4_soonestEnd 20 = .ok (.istore 5, 2) := by decide +kernel
theorem dX4_soonestEnd_22 : decode cX4_soonestEnd 22 = .ok (.iload_n 2, 1) := by decide +kernel
theorem dX4_soonestEnd_23 : decode cX4_soonestEnd 23 = .ok (.ifCond .ne 7, 3) := by decide +kernel
theorem dX4_soonestEnd_26 : decode cX4_soonestEnd 26 = .ok (.iconst 0, 1) := by decide +kernel
theorem dX4_soonestEnd_27 : decode cX4_soonestEnd 27 = .ok (.goto 5, 3) := by decide +kernel
theorem dX4_soonestEnd_30 : decode cX4_soonestEnd 30 = .ok (.ldc 53, 2) := by decide +kernel
theorem dX4_soonestEnd_32 : decode cX4_soonestEnd 32 = .ok (.istore 6, 2) := by decide +kernel
theorem dX4_soonestEnd_34 : decode cX4_soonestEnd 34 = .ok (.iconst 0, 1) := by decide +kernel
theorem dX4_soonestEnd_35 : decode cX4_soonestEnd 35 = .ok (.istore 7, 2) := by decide +kernel
theorem dX4_soonestEnd_37 : decode cX4_soonestEnd 37 = .ok (.iload 7, 2) := by decide +kernel
theorem dX4_soonestEnd_39 : decode cX4_soonestEnd 39 = .ok (.bipush 8, 2) := by decide +kernel
theorem dX4_soonestEnd_41 : decode cX4_soonestEnd 41 = .ok (.if_icmp .ge 50, 3) := by decide +kernel
theorem dX4_soonestEnd_44 : decode cX4_soonestEnd 44 = .ok (.iload_n 2, 1) := by decide +kernel
theorem dX4_soonestEnd_45 : decode cX4_soonestEnd 45 = .ok (.iconst 1, 1) := by decide +kernel
theorem dX4_soonestEnd_46 : decode cX4_soonestEnd 46 = .ok (.iload 7, 2) := by decide +kernel
theorem dX4_soonestEnd_48 : decode cX4_soonestEnd 48 = .ok (.ishl, 1) := by decide +kernel
theorem dX4_soonestEnd_49 : decode cX4_soonestEnd 49 = .ok (.iand, 1) := by decide +kernel
theorem dX4_soonestEnd_50 : decode cX4_soonestEnd 50 = .ok (.ifCond .eq 35, 3) := by decide +kernel
theorem dX4_soonestEnd_53 : decode cX4_soonestEnd 53 = .ok (.iload 5, 2) := by decide +kernel
theorem dX4_soonestEnd_55 : decode cX4_soonestEnd 55 = .ok (.aload_n 0, 1) := by decide +kernel
theorem dX4_soonestEnd_56 : decode cX4_soonestEnd 56 = .ok (.getfield 33, 3) := by decide +kernel
theorem dX4_soonestEnd_59 : decode cX4_soonestEnd 59 = .ok (.iload 7, 2) := by decide +kernel
theorem dX4_soonestEnd_61 : decode cX4_soonestEnd 61 = .ok (.aaload, 1) := by decide +kernel
theorem dX4_soonestEnd_62 : decode cX4_soonestEnd 62 = .ok (.iload 4, 2) := by decide +kernel
theorem dX4_soonestEnd_64 : decode cX4_soonestEnd 64 = .ok (.iaload, 1) := by decide +kernel
theorem dX4_soonestEnd_65 : decode cX4_soonestEnd 65 = .ok (.iadd, 1) := by decide +kernel
theorem dX4_soonestEnd_66 : decode cX4_soonestEnd 66 = .ok (.istore 5, 2) := by decide +kernel
theorem dX4_soonestEnd_68 : decode cX4_soonestEnd 68 = .ok (.iload 6, 2) := by decide +kernel
theorem dX4_soonestEnd_70 : decode cX4_soonestEnd 70 = .ok (.aload_n 0, 1) := by decide +kernel
theorem dX4_soonestEnd_71 : decode cX4_soonestEnd 71 = .ok (.getfield 36, 3) := by decide +kernel
theorem dX4_soonestEnd_74 : decode cX4_soonestEnd 74 = .ok (.iload 7, 2) := by decide +kernel
theorem dX4_soonestEnd_76 : decode cX4_soonestEnd 76 = .ok (.aaload, 1) := by decide +kernel
theorem dX4_soonestEnd_77 : decode cX4_soonestEnd 77 = .ok (.iload 4, 2) := by decide +kernel
theorem dX4_soonestEnd_79 : decode cX4_soonestEnd 79 = .ok (.iaload, 1) := by decide +kernel
theorem dX4_soonestEnd_80 : decode cX4_soonestEnd 80 = .ok (.invokestatic 75, 3) := by decide +kernel
theorem dX4_soonestEnd_83 : decode cX4_soonestEnd 83 = .ok (.istore 6, 2) := by decide +kernel
theorem dX4_soonestEnd_85 : decode cX4_soonestEnd 85 = .ok (.iinc 7 1, 3) := by decide +kernel
theorem dX4_soonestEnd_88 : decode cX4_soonestEnd 88 = .ok (.goto (-51), 3) := by decide +kernel
theorem dX4_soonestEnd_91 : decode cX4_soonestEnd 91 = .ok (.iload_n 3, 1) := by decide +kernel
theorem dX4_soonestEnd_92 : decode cX4_soonestEnd 92 = .ok (.iload 5, 2) := by decide +kernel
theorem dX4_soonestEnd_94 : decode cX4_soonestEnd 94 = .ok (.iload 6, 2) := by decide +kernel
theorem dX4_soonestEnd_96 : decode cX4_soonestEnd 96 = .ok (.iadd, 1) := by decide +kernel
theorem dX4_soonestEnd_97 : decode cX4_soonestEnd 97 = .ok (.invokestatic 70, 3) := by decide +kernel
theorem dX4_soonestEnd_100 : decode cX4_soonestEnd 100 = .ok (.istore_n 3, 1) := by decide +kernel
theorem dX4_soonestEnd_101 : decode cX4_soonestEnd 101 = .ok (.iinc 4 1, 3) := by decide +kernel
theorem dX4_soonestEnd_104 : decode cX4_soonestEnd 104 = .ok (.goto (-99), 3) := by decide +kernel
theorem dX4_soonestEnd_107 : decode cX4_soonestEnd 107 = .ok (.iload_n 3, 1) := by decide +kernel
theorem dX4_soonestEnd_108 : decode cX4_soonestEnd 108 = .ok (.ireturn, 1) := by decide +kernel
theorem dX4_keepRow_0 : decode cX4_keepRow 0 = .ok (.aload_n 0, 1) := by decide +kernel
theorem dX4_keepRow_1 : decode cX4_keepRow 1 = .ok (.aload_n 0, 1) := by decide +kernel
theorem dX4_keepRow_2 : decode cX4_keepRow 2 = .ok (.getfield 30, 3) := by decide +kernel
theorem dX4_keepRow_5 : decode cX4_keepRow 5 = .ok (.iload_n 1, 1) := by decide +kernel
theorem dX4_keepRow_6 : decode cX4_keepRow 6 = .ok (.aaload, 1) := by decide +kernel
theorem dX4_keepRow_7 : decode cX4_keepRow 7 = .ok (.iconst 3, 1) := by decide +kernel
theorem dX4_keepRow_8 : decode cX4_keepRow 8 = .ok (.iaload, 1) := by decide +kernel
theorem dX4_keepRow_9 : decode cX4_keepRow 9 = .ok (.putfield 15, 3) := by decide +kernel
theorem dX4_keepRow_12 : decode cX4_keepRow 12 = .ok (.iconst 0, 1) := by decide +kernel
theorem dX4_keepRow_13 : decode cX4_keepRow 13 = .ok (.istore_n 2, 1) := by decide +kernel
theorem dX4_keepRow_14 : decode cX4_keepRow 14 = .ok (.iload_n 2, 1) := by decide +kernel
theorem dX4_keepRow_15 : decode cX4_keepRow 15 = .ok (.iload_n 1, 1) := by decide +kernel
theorem dX4_keepRow_16 : decode cX4_keepRow 16 = .ok (.if_icmp .ge 27, 3) := by decide +kernel
theorem dX4_keepRow_19 : decode cX4_keepRow 19 = .ok (.iload_n 2, 1) := by decide +kernel
theorem dX4_keepRow_20 : decode cX4_keepRow 20 = .ok (.bipush 8, 2) := by decide +kernel
theorem dX4_keepRow_22 : decode cX4_keepRow 22 = .ok (.if_icmp .ge 21, 3) := by decide +kernel
theorem dX4_keepRow_25 : decode cX4_keepRow 25 = .ok (.aload_n 0, 1) := by decide +kernel
theorem dX4_keepRow_26 : decode cX4_keepRow 26 = .ok (.getfield 18, 3) := by decide +kernel
theorem dX4_keepRow_29 : decode cX4_keepRow 29 = .ok (.iload_n 2, 1) := by decide +kernel
theorem dX4_keepRow_30 : decode cX4_keepRow 30 = .ok (.aload_n 0, 1) := by decide +kernel
theorem dX4_keepRow_31 : decode cX4_keepRow 31 = .ok (.getfield 25, 3) := by decide +kernel
theorem dX4_keepRow_34 : decode cX4_keepRow 34 = .ok (.iload_n 2, 1) := by decide +kernel
theorem dX4_keepRow_35 : decode cX4_keepRow 35 = .ok (.iaload, 1) := by decide +kernel
theorem dX4_keepRow_36 : decode cX4_keepRow 36 = .ok (.iastore, 1) := by decide +kernel
theorem dX4_keepRow_37 : decode cX4_keepRow 37 = .ok (.iinc 2 1, 3) := by decide +kernel
theorem dX4_keepRow_40 : decode cX4_keepRow 40 = .ok (.goto (-26), 3) := by decide +kernel
theorem dX4_keepRow_43 : decode cX4_keepRow 43 = .ok (.return_, 1) := by decide +kernel
theorem dX5_init_0 : decode cX5_init 0 = .ok (.aload_n 0, 1) := by decide +kernel
theorem dX5_init_1 : decode cX5_init 1 = .ok (.invokespecial 3, 3) := by decide +kernel
theorem dX5_init_4 : decode cX5_init 4 = .ok (.aload_n 0, 1) := by decide +kernel
theorem dX5_init_5 : decode cX5_init 5 = .ok (.bipush 8, 2) := by decide +kernel
theorem dX5_init_7 : decode cX5_init 7 = .ok (.anewarray 9, 3) := by decide +kernel
theorem dX5_init_10 : decode cX5_init 10 = .ok (.putfield 11, 3) := by decide +kernel
theorem dX5_init_13 : decode cX5_init 13 = .ok (.aload_n 0, 1) := by decide +kernel
theorem dX5_init_14 : decode cX5_init 14 = .ok (.new 15, 3) := by decide +kernel
theorem dX5_init_17 : decode cX5_init 17 = .ok (.dup, 1) := by decide +kernel
theorem dX5_init_18 : decode cX5_init 18 = .ok (.invokespecial 17, 3) := by decide +kernel
theorem dX5_init_21 : decode cX5_init 21 = .ok (.putfield 18, 3) := by decide +kernel
theorem dX5_init_24 : decode cX5_init 24 = .ok (.aload_n 0, 1) := by decide +kernel
theorem dX5_init_25 : decode cX5_init 25 = .ok (.new 22, 3) := by decide +kernel
theorem dX5_init_28 : decode cX5_init 28 = .ok (.dup, 1) := by decide +kernel
theorem dX5_init_29 : decode cX5_init 29 = .ok (.invokespecial 24, 3) := by decide +kernel
theorem dX5_init_32 : decode cX5_init 32 = .ok (.putfield 25, 3) := by decide +kernel
theorem dX5_init_35 : decode cX5_init 35 = .ok (.aload_n 0, 1) := by decide +kernel
theorem dX5_init_36 : decode cX5_init 36 = .ok (.new 29, 3) := by decide +kernel
theorem dX5_init_39 : decode cX5_init 39 = .ok (.dup, 1) := by decide +kernel
theorem dX5_init_40 : decode cX5_init 40 = .ok (.invokespecial 31, 3) := by decide +kernel
theorem dX5_init_43 : decode cX5_init 43 = .ok (.putfield 32, 3) := by decide +kernel
theorem dX5_init_46 : decode cX5_init 46 = .ok (.aload_n 0, 1) := by decide +kernel
theorem dX5_init_47 : decode cX5_init 47 = .ok (.new 36, 3) := by decide +kernel
theorem dX5_init_50 : decode cX5_init 50 = .ok (.dup, 1) := by decide +kernel
theorem dX5_init_51 : decode cX5_init 51 = .ok (.invokespecial 38, 3) := by decide +kernel
theorem dX5_init_54 : decode cX5_init 54 = .ok (.putfield 39, 3) := by decide +kernel
theorem dX5_init_57 : decode cX5_init 57 = .ok (.aload_n 0, 1) := by decide +kernel
theorem dX5_init_58 : decode cX5_init 58 = .ok (.iconst 0, 1) := by decide +kernel
theorem dX5_init_59 : decode cX5_init 59 = .ok (.putfield 43, 3) := by decide +kernel
theorem dX5_init_62 : decode cX5_init 62 = .ok (.aload_n 0, 1) := by decide +kernel
theorem dX5_init_63 : decode cX5_init 63 = .ok (.iconst 3, 1) := by decide +kernel
theorem dX5_init_64 : decode cX5_init 64 = .ok (.putfield 47, 3) := by decide +kernel
theorem dX5_init_67 : decode cX5_init 67 = .ok (.aload_n 0, 1) := by decide +kernel
theorem dX5_init_68 : decode cX5_init 68 = .ok (.iconst 0, 1) := by decide +kernel
theorem dX5_init_69 : decode cX5_init 69 = .ok (.putfield 50, 3) := by decide +kernel
theorem dX5_init_72 : decode cX5_init 72 = .ok (.aload_n 0, 1) := by decide +kernel
theorem dX5_init_73 : decode cX5_init 73 = .ok (.iconst 0, 1) := by decide +kernel
theorem dX5_init_74 : decode cX5_init 74 = .ok (.putfield 53, 3) := by decide +kernel
theorem dX5_init_77 : decode cX5_init 77 = .ok (.iconst 0, 1) := by decide +kernel
theorem dX5_init_78 : decode cX5_init 78 = .ok (.istore_n 1, 1) := by decide +kernel
theorem dX5_init_79 : decode cX5_init 79 = .ok (.iload_n 1, 1) := by decide +kernel
theorem dX5_init_80 : decode cX5_init 80 = .ok (.bipush 8, 2) := by decide +kernel
theorem dX5_init_82 : decode cX5_init 82 = .ok (.if_icmp .ge 22, 3) := by decide +kernel
theorem dX5_init_85 : decode cX5_init 85 = .ok (.aload_n 0, 1) := by decide +kernel
theorem dX5_init_86 : decode cX5_init 86 = .ok (.getfield 11, 3) := by decide +kernel
theorem dX5_init_89 : decode cX5_init 89 = .ok (.iload_n 1, 1) := by decide +kernel
theorem dX5_init_90 : decode cX5_init 90 = .ok (.new 9, 3) := by decide +kernel
theorem dX5_init_93 : decode cX5_init 93 = .ok (.dup, 1) := by decide +kernel
theorem dX5_init_94 : decode cX5_init 94 = .ok (.invokespecial 56, 3) := by decide +kernel
theorem dX5_init_97 : decode cX5_init 97 = .ok (.aastore, 1) := by decide +kernel
theorem dX5_init_98 : decode cX5_init 98 = .ok (.iinc 1 1, 3) := by decide +kernel
theorem dX5_init_101 : decode cX5_init 101 = .ok (.goto (-22), 3) := by decide +kernel
theorem dX5_init_104 : decode cX5_init 104 = .ok (.return_, 1) := by decide +kernel
theorem dX5_figure_0 : decode cX5_figure 0 = .ok (.iload_n 1, 1) := by decide +kernel
theorem dX5_figure_1 : decode cX5_figure 1 = .ok (.iconst 0, 1) := by decide +kernel
theorem dX5_figure_2 : decode cX5_figure 2 = .ok (.sipush 200, 3) := by decide +kernel
theorem dX5_figure_5 : decode cX5_figure 5 = .ok (.invokestatic 57, 3) := by decide +kernel
theorem dX5_figure_8 : decode cX5_figure 8 = .ok (.ifCond .ne 6, 3) := by decide +kernel
theorem dX5_figure_11 : decode cX5_figure 11 = .ok (.bipush (-2), 2) := by decide +kernel
theorem dX5_figure_13 : decode cX5_figure 13 = .ok (.ireturn, 1) := by decide +kernel
theorem dX5_figure_14 : decode cX5_figure 14 = .ok (.aload_n 0, 1) := by decide +kernel
theorem dX5_figure_15 : decode cX5_figure 15 = .ok (.getfield 43, 3) := by decide +kernel
theorem dX5_figure_18 : decode cX5_figure 18 = .ok (.bipush 8, 2) := by decide +kernel
theorem dX5_figure_20 : decode cX5_figure 20 = .ok (.if_icmp .lt 6, 3) := by decide +kernel
theorem dX5_figure_23 : decode cX5_figure 23 = .ok (.bipush (-4), 2) := by decide +kernel
theorem dX5_figure_25 : decode cX5_figure 25 = .ok (.ireturn, 1) := by decide +kernel
theorem dX5_figure_26 : decode cX5_figure 26 = .ok (.aload_n 0, 1) := by decide +kernel
theorem dX5_figure_27 : decode cX5_figure 27 = .ok (.getfield 11, 3) := by decide +kernel
theorem dX5_figure_30 : decode cX5_figure 30 = .ok (.aload_n 0, 1) := by decide +kernel
theorem dX5_figure_31 : decode cX5_figure 31 = .ok (.getfield 43, 3) := by decide +kernel
theorem dX5_figure_34 : decode cX5_figure 34 = .ok (.aaload, 1) := by decide +kernel
theorem dX5_figure_35 : decode cX5_figure 35 = .ok (.iload_n 1, 1) := by decide +kernel
theorem dX5_figure_36 : decode cX5_figure 36 = .ok (.putfield 61, 3) := by decide +kernel
theorem dX5_figure_39 : decode cX5_figure 39 = .ok (.aload_n 0, 1) := by decide +kernel
theorem dX5_figure_40 : decode cX5_figure 40 = .ok (.dup, 1) := by decide +kernel
theorem dX5_figure_41 : decode cX5_figure 41 = .ok (.getfield 43, 3) := by decide +kernel
theorem dX5_figure_44 : decode cX5_figure 44 = .ok (.iconst 1, 1) := by decide +kernel
theorem dX5_figure_45 : decode cX5_figure 45 = .ok (.iadd, 1) := by decide +kernel
theorem dX5_figure_46 : decode cX5_figure 46 = .ok (.putfield 43, 3) := by decide +kernel
theorem dX5_figure_49 : decode cX5_figure 49 = .ok (.aload_n 0, 1) := by decide +kernel
theorem dX5_figure_50 : decode cX5_figure 50 = .ok (.getfield 43, 3) := by decide +kernel
theorem dX5_figure_53 : decode cX5_figure 53 = .ok (.iconst 1, 1) := by decide +kernel
theorem dX5_figure_54 : decode cX5_figure 54 = .ok (.isub, 1) := by decide +kernel
theorem dX5_figure_55 : decode cX5_figure 55 = .ok (.ireturn, 1) := by decide +kernel
theorem dX5_fame_0 : decode cX5_fame 0 = .ok (.aload_n 0, 1) := by decide +kernel
theorem dX5_fame_1 : decode cX5_fame 1 = .ok (.iload_n 1, 1) := by decide +kernel
theorem dX5_fame_2 : decode cX5_fame 2 = .ok (.invokevirtual 64, 3) := by decide +kernel
theorem dX5_fame_5 : decode cX5_fame 5 = .ok (.ifCond .eq 21, 3) := by decide +kernel
theorem dX5_fame_8 : decode cX5_fame 8 = .ok (.iload_n 2, 1) := by decide +kernel
theorem dX5_fame_9 : decode cX5_fame 9 = .ok (.invokestatic 68, 3) := by decide +kernel
theorem dX5_fame_12 : decode cX5_fame 12 = .ok (.ifCond .eq 14, 3) := by decide +kernel
theorem dX5_fame_15 : decode cX5_fame 15 = .ok (.iload_n 3, 1) := by decide +kernel
theorem dX5_fame_16 : decode cX5_fame 16 = .ok (.bipush (-100), 2) := by decide +kernel
theorem dX5_fame_18 : decode cX5_fame 18 = .ok (.bipush 100, 2) := by decide +kernel
theorem dX5_fame_20 : decode cX5_fame 20 = .ok (.invokestatic 57, 3) := by decide +kernel
theorem dX5_fame_23 : decode cX5_fame 23 = .ok (.ifCond .ne 7, 3) := by decide +kernel
theorem dX5_fame_26 : decode cX5_fame 26 = .ok (.sipush (-1000), 3) := by decide +kernel
theorem dX5_fame_29 : decode cX5_fame 29 = .ok (.ireturn, 1) := by decide +kernel
theorem dX5_fame_30 : decode cX5_fame 30 = .ok (.aload_n 0, 1) := by decide +kernel
theorem dX5_fame_31 : decode cX5_fame 31 = .ok (.getfield 11, 3) := by decide +kernel
theorem dX5_fame_34 : decode cX5_fame 34 = .ok (.iload_n 1, 1) := by decide +kernel
theorem dX5_fame_35 : decode cX5_fame 35 = .ok (.aaload, 1) := by decide +kernel
theorem dX5_fame_36 : decode cX5_fame 36 = .ok (.getfield 71, 3) := by decide +kernel
theorem dX5_fame_39 : decode cX5_fame 39 = .ok (.iload_n 2, 1) := by decide +kernel
theorem dX5_fame_40 : decode cX5_fame 40 = .ok (.iaload, 1) := by decide +kernel
theorem dX5_fame_41 : decode cX5_fame 41 = .ok (.istore 4, 2) := by decide +kernel
theorem dX5_fame_43 : decode cX5_fame 43 = .ok (.aload_n 0, 1) := by decide +kernel
theorem dX5_fame_44 : decode cX5_fame 44 = .ok (.getfield 11, 3) := by decide +kernel
theorem dX5_fame_47 : decode cX5_fame 47 = .ok (.iload_n 1, 1) := by decide +kernel
theorem dX5_fame_48 : decode cX5_fame 48 = .ok (.aaload, 1) := by decide +kernel
theorem dX5_fame_49 : decode cX5_fame 49 = .ok (.getfield 71, 3) := by decide +kernel
theorem dX5_fame_52 : decode cX5_fame 52 = .ok (.iload_n 2, 1) := by decide +kernel
theorem dX5_fame_53 : decode cX5_fame 53 = .ok (.iload_n 3, 1) := by decide +kernel
theorem dX5_fame_54 : decode cX5_fame 54 = .ok (.iastore, 1) := by decide +kernel
theorem dX5_fame_55 : decode cX5_fame 55 = .ok (.iload 4, 2) := by decide +kernel
theorem dX5_fame_57 : decode cX5_fame 57 = .ok (.ireturn, 1) := by decide +kernel
theorem dX5_rights_0 : decode cX5_rights 0 = .ok (.aload_n 0, 1) := by decide +kernel
theorem dX5_rights_1 : decode cX5_rights 1 = .ok (.iload_n 1, 1) := by decide +kernel
theorem dX5_rights_2 : decode cX5_rights 2 = .ok (.invokevirtual 64, 3) := by decide +kernel
theorem dX5_rights_5 : decode cX5_rights 5 = .ok (.ifCond .eq 22, 3) := by decide +kernel
theorem dX5_rights_8 : decode cX5_rights 8 = .ok (.iload_n 2, 1) := by decide +kernel
theorem dX5_rights_9 : decode cX5_rights 9 = .ok (.invokestatic 68, 3) := by decide +kernel
theorem dX5_rights_12 : decode cX5_rights 12 = .ok (.ifCond .eq 15, 3) := by decide +kernel
theorem dX5_rights_15 : decode cX5_rights 15 = .ok (.iload_n 3, 1) := by decide +kernel
theorem dX5_rights_16 : decode cX5_rights 16 = .ok (.invokestatic 68, 3) := by decide +kernel
theorem dX5_rights_19 : decode cX5_rights 19 = .ok (.ifCond .eq 8, 3) := by decide +kernel
theorem dX5_rights_22 : decode cX5_rights 22 = .ok (.iload_n 2, 1) := by decide +kernel
theorem dX5_rights_23 : decode cX5_rights 23 = .ok (.iload_n 3, 1) := by decide +kernel
theorem dX5_rights_24 : decode cX5_rights 24 = .ok (.if_icmp .le 6, 3) := by decide +kernel
theorem dX5_rights_27 : decode cX5_rights 27 = .ok (.bipush (-2), 2) := by decide +kernel
theorem dX5_rights_29 : decode cX5_rights 29 = .ok (.ireturn, 1) := by decide +kernel
theorem dX5_rights_30 : decode cX5_rights 30 = .ok (.aload_n 0, 1) := by decide +kernel
theorem dX5_rights_31 : decode cX5_rights 31 = .ok (.getfield 11, 3) := by decide +kernel
theorem dX5_rights_34 : decode cX5_rights 34 = .ok (.iload_n 1, 1) := by decide +kernel
theorem dX5_rights_35 : decode cX5_rights 35 = .ok (.aaload, 1) := by decide +kernel
theorem dX5_rights_36 : decode cX5_rights 36 = .ok (.iload_n 2, 1) := by decide +kernel
theorem dX5_rights_37 : decode cX5_rights 37 = .ok (.putfield 75, 3) := by decide +kernel
theorem dX5_rights_40 : decode cX5_rights 40 = .ok (.aload_n 0, 1) := by decide +kernel
theorem dX5_rights_41 : decode cX5_rights 41 = .ok (.getfield 11, 3) := by decide +kernel
theorem dX5_rights_44 : decode cX5_rights 44 = .ok (.iload_n 1, 1) := by decide +kernel
theorem dX5_rights_45 : decode cX5_rights 45 = .ok (.aaload, 1) := by decide +kernel
theorem dX5_rights_46 : decode cX5_rights 46 = .ok (.iload_n 3, 1) := by decide +kernel
theorem dX5_rights_47 : decode cX5_rights 47 = .ok (.putfield 78, 3) := by decide +kernel
theorem dX5_rights_50 : decode cX5_rights 50 = .ok (.iconst 1, 1) := by decide +kernel
theorem dX5_rights_51 : decode cX5_rights 51 = .ok (.ireturn, 1) := by decide +kernel
theorem dX5_places_0 : decode cX5_places 0 = .ok (.iload_n 1, 1) := by decide +kernel
theorem dX5_places_1 : decode cX5_places 1 = .ok (.iconst 1, 1) := by decide +kernel
theorem dX5_places_2 : decode cX5_places 2 = .ok (.iconst 5, 1) := by decide +kernel
theorem dX5_places_3 : decode cX5_places 3 = .ok (.invokestatic 57, 3) := by decide +kernel
theorem dX5_places_6 : decode cX5_places 6 = .ok (.ifCond .ne 6, 3) := by decide +kernel
theorem dX5_places_9 : decode cX5_places 9 = .ok (.bipush (-2), 2) := by decide +kernel
theorem dX5_places_11 : decode cX5_places 11 = .ok (.ireturn, 1) := by decide +kernel
theorem dX5_places_12 : decode cX5_places 12 = .ok (.aload_n 0, 1) := by decide +kernel
theorem dX5_places_13 : decode cX5_places 13 = .ok (.getfield 47, 3) := by decide +kernel
theorem dX5_places_16 : decode cX5_places 16 = .ok (.istore_n 2, 1) := by decide +kernel
theorem dX5_places_17 : decode cX5_places 17 = .ok (.aload_n 0, 1) := by decide +kernel
theorem dX5_places_18 : decode cX5_places 18 = .ok (.iload_n 1, 1) := by decide +kernel
theorem dX5_places_19 : decode cX5_places 19 = .ok (.putfield 47, 3) := by decide +kernel
theorem dX5_places_22 : decode cX5_places 22 = .ok (.iload_n 2, 1) := by decide +kernel
theorem dX5_places_23 : decode cX5_places 23 = .ok (.ireturn, 1) := by decide +kernel
theorem dX5_standing_0 : decode cX5_standing 0 = .ok (.aload_n 0, 1) := by decide +kernel
theorem dX5_standing_1 : decode cX5_standing 1 = .ok (.iload_n 1, 1) := by decide +kernel
theorem dX5_standing_2 : decode cX5_standing 2 = .ok (.invokevirtual 81, 3) := by decide +kernel
theorem dX5_standing_5 : decode cX5_standing 5 = .ok (.ifCond .ne 6, 3) := by decide +kernel
theorem dX5_standing_8 : decode cX5_standing 8 = .ok (.bipush (-2), 2) := by decide +kernel
theorem dX5_standing_10 : decode cX5_standing 10 = .ok (.ireturn, 1) := by decide +kernel
theorem dX5_standing_11 : decode cX5_standing 11 = .ok (.aload_n 0, 1) := by decide +kernel
theorem dX5_standing_12 : decode cX5_standing 12 = .ok (.getfield 50, 3) := by decide +kernel
theorem dX5_standing_15 : decode cX5_standing 15 = .ok (.istore_n 2, 1) := by decide +kernel
theorem dX5_standing_16 : decode cX5_standing 16 = .ok (.aload_n 0, 1) := by decide +kernel
theorem dX5_standing_17 : decode cX5_standing 17 = .ok (.iload_n 1, 1) := by decide +kernel
theorem dX5_standing_18 : decode cX5_standing 18 = .ok (.putfield 50, 3) := by decide +kernel
theorem dX5_standing_21 : decode cX5_standing 21 = .ok (.iload_n 2, 1) := by decide +kernel
theorem dX5_standing_22 : decode cX5_standing 22 = .ok (.ireturn, 1) := by decide +kernel
theorem dX5_plan_0 : decode cX5_plan 0 = .ok (.iload_n 1, 1) := by decide +kernel
theorem dX5_plan_1 : decode cX5_plan 1 = .ok (.iconst 1, 1) := by decide +kernel
theorem dX5_plan_2 : decode cX5_plan 2 = .ok (.bipush 6, 2) := by decide +kernel
theorem dX5_plan_4 : decode cX5_plan 4 = .ok (.invokestatic 57, 3) := by decide +kernel
theorem dX5_plan_7 : decode cX5_plan 7 = .ok (.ifCond .ne 6, 3) := by decide +kernel
theorem dX5_plan_10 : decode cX5_plan 10 = .ok (.ldc 84, 2) := by decide +kernel
theorem dX5_plan_12 : decode cX5_plan 12 = .ok (.ireturn, 1) := by decide +kernel
theorem dX5_plan_13 : decode cX5_plan 13 = .ok (.aload_n 0, 1) := by decide +kernel
theorem dX5_plan_14 : decode cX5_plan 14 = .ok (.iload_n 1, 1) := by decide +kernel
theorem dX5_plan_15 : decode cX5_plan 15 = .ok (.invokevirtual 85, 3) := by decide +kernel
theorem dX5_plan_18 : decode cX5_plan 18 = .ok (.aload_n 0, 1) := by decide +kernel
theorem dX5_plan_19 : decode cX5_plan 19 = .ok (.getfield 18, 3) := by decide +kernel
theorem dX5_plan_22 : decode cX5_plan 22 = .ok (.getfield 89, 3) := by decide +kernel
theorem dX5_plan_25 : decode cX5_plan 25 = .ok (.ireturn, 1) := by decide +kernel
theorem dX5_shown_0 : decode cX5_shown 0 = .ok (.iload_n 1, 1) := by decide +kernel
theorem dX5_shown_1 : decode cX5_shown 1 = .ok (.iconst 1, 1) := by decide +kernel
theorem dX5_shown_2 : decode cX5_shown 2 = .ok (.bipush 6, 2) := by decide +kernel
theorem dX5_shown_4 : decode cX5_shown 4 = .ok (.invokestatic 57, 3) := by decide +kernel
theorem dX5_shown_7 : decode cX5_shown 7 = .ok (.ifCond .eq 14, 3) := by decide +kernel
theorem dX5_shown_10 : decode cX5_shown 10 = .ok (.iload_n 2, 1) := by decide +kernel
theorem dX5_shown_11 : decode cX5_shown 11 = .ok (.iconst 0, 1) := by decide +kernel
theorem dX5_shown_12 : decode cX5_shown 12 = .ok (.iload_n 1, 1) := by decide +kernel
theorem dX5_shown_13 : decode cX5_shown 13 = .ok (.iconst 1, 1) := by decide +kernel
theorem dX5_shown_14 : decode cX5_shown 14 = .ok (.isub, 1) := by decide +kernel
theorem dX5_shown_15 : decode cX5_shown 15 = .ok (.invokestatic 57, 3) := by decide +kernel
theorem dX5_shown_18 : decode cX5_shown 18 = .ok (.ifCond .ne 6, 3) := by decide +kernel
theorem dX5_shown_21 : decode cX5_shown 21 = .ok (.bipush (-2), 2) := by decide +kernel
theorem dX5_shown_23 : decode cX5_shown 23 = .ok (.ireturn, 1) := by decide +kernel
theorem dX5_shown_24 : decode cX5_shown 24 = .ok (.aload_n 0, 1) := by decide +kernel
theorem dX5_shown_25 : decode cX5_shown 25 = .ok (.iload_n 1, 1) := by decide +kernel
theorem dX5_shown_26 : decode cX5_shown 26 = .ok (.invokevirtual 85, 3) := by decide +kernel
theorem dX5_shown_29 : decode cX5_shown 29 = .ok (.aload_n 0, 1) := by decide +kernel
theorem dX5_shown_30 : decode cX5_shown 30 = .ok (.getfield 18, 3) := by decide +kernel
theorem dX5_shown_33 : decode cX5_shown 33 = .ok (.getfield 92, 3) := by decide +kernel
theorem dX5_shown_36 : decode cX5_shown 36 = .ok (.iload_n 2, 1) := by decide +kernel
theorem dX5_shown_37 : decode cX5_shown 37 = .ok (.iaload, 1) := by decide +kernel
theorem dX5_shown_38 : decode cX5_shown 38 = .ok (.ireturn, 1) := by decide +kernel
theorem dX5_picture_0 : decode cX5_picture 0 = .ok (.aload_n 0, 1) := by decide +kernel
theorem dX5_picture_1 : decode cX5_picture 1 = .ok (.iload_n 1, 1) := by decide +kernel
theorem dX5_picture_2 : decode cX5_picture 2 = .ok (.iload_n 2, 1) := by decide +kernel
theorem dX5_picture_3 : decode cX5_picture 3 = .ok (.invokevirtual 95, 3) := by decide +kernel
theorem dX5_picture_6 : decode cX5_picture 6 = .ok (.ifCond .eq 24, 3) := by decide +kernel
theorem dX5_picture_9 : decode cX5_picture 9 = .ok (.iload_n 3, 1) := by decide +kernel
theorem dX5_picture_10 : decode cX5_picture 10 = .ok (.invokestatic 99, 3) := by decide +kernel
theorem dX5_picture_13 : decode cX5_picture 13 = .ok (.ifCond .eq 17, 3) := by decide +kernel
theorem dX5_picture_16 : decode cX5_picture 16 = .ok (.iload 4, 2) := by decide +kernel
theorem dX5_picture_18 : decode cX5_picture 18 = .ok (.invokestatic 99, 3) := by decide +kernel
theorem dX5_picture_21 : decode cX5_picture 21 = .ok (.ifCond .eq 9, 3) := by decide +kernel
theorem dX5_picture_24 : decode cX5_picture 24 = .ok (.iload_n 3, 1) := by decide +kernel
theorem dX5_picture_25 : decode cX5_picture 25 = .ok (.iload 4, 2) := by decide +kernel
theorem dX5_picture_27 : decode cX5_picture 27 = .ok (.if_icmp .le 6, 3) := by decide +kernel
theorem dX5_picture_30 : decode cX5_picture 30 = .ok (.bipush (-2), 2) := by decide +kernel
theorem dX5_picture_32 : decode cX5_picture 32 = .ok (.ireturn, 1) := by decide +kernel
theorem dX5_picture_33 : decode cX5_picture 33 = .ok (.aload_n 0, 1) := by decide +kernel
theorem dX5_picture_34 : decode cX5_picture 34 = .ok (.getfield 11, 3) := by decide +kernel
theorem dX5_picture_37 : decode cX5_picture 37 = .ok (.iload_n 1, 1) := by decide +kernel
theorem dX5_picture_38 : decode cX5_picture 38 = .ok (.aaload, 1) := by decide +kernel
theorem dX5_picture_39 : decode cX5_picture 39 = .ok (.getfield 102, 3) := by decide +kernel
theorem dX5_picture_42 : decode cX5_picture 42 = .ok (.iload_n 2, 1) := by decide +kernel
theorem dX5_picture_43 : decode cX5_picture 43 = .ok (.iaload, 1) := by decide +kernel
theorem dX5_picture_44 : decode cX5_picture 44 = .ok (.bipush 12, 2) := by decide +kernel
theorem dX5_picture_46 : decode cX5_picture 46 = .ok (.if_icmp .lt 6, 3) := by decide +kernel
theorem dX5_picture_49 : decode cX5_picture 49 = .ok (.bipush (-4), 2) := by decide +kernel
theorem dX5_picture_51 : decode cX5_picture 51 = .ok (.ireturn, 1) := by decide +kernel
theorem dX5_picture_52 : decode cX5_picture 52 = .ok (.aload_n 0, 1) := by decide +kernel
theorem dX5_picture_53 : decode cX5_picture 53 = .ok (.getfield 11, 3) := by decide +kernel
theorem dX5_picture_56 : decode cX5_picture 56 = .ok (.iload_n 1, 1) := by decide +kernel
theorem dX5_picture_57 : decode cX5_picture 57 = .ok (.aaload, 1) := by decide +kernel
theorem dX5_picture_58 : decode cX5_picture 58 = .ok (.iload_n 2, 1) := by decide +kernel
theorem dX5_picture_59 : decode cX5_picture 59 = .ok (.iload_n 3, 1) := by decide +kernel
theorem dX5_picture_60 : decode cX5_picture 60 = .ok (.iload 4, 2) := by decide +kernel
theorem dX5_picture_62 : decode cX5_picture 62 = .ok (.invokevirtual 105, 3) := by decide +kernel
theorem dX5_picture_65 : decode cX5_picture 65 = .ok (.ireturn, 1) := by decide +kernel
theorem dX5_span_0 : decode cX5_span 0 = .ok (.aload_n 0, 1) := by decide +kernel
theorem dX5_span_1 : decode cX5_span 1 = .ok (.iload_n 1, 1) := by decide +kernel
theorem dX5_span_2 : decode cX5_span 2 = .ok (.iload_n 2, 1) := by decide +kernel
theorem dX5_span_3 : decode cX5_span 3 = .ok (.invokevirtual 95, 3) := by decide +kernel
theorem dX5_span_6 : decode cX5_span 6 = .ok (.ifCond .eq 12, 3) := by decide +kernel
theorem dX5_span_9 : decode cX5_span 9 = .ok (.iload_n 3, 1) := by decide +kernel
theorem dX5_span_10 : decode cX5_span 10 = .ok (.iconst 0, 1) := by decide +kernel
theorem dX5_span_11 : decode cX5_span 11 = .ok (.iconst 1, 1) := by decide +kernel
theorem dX5_span_12 : decode cX5_span 12 = .ok (.invokestatic 57, 3) := by decide +kernel
theorem dX5_span_15 : decode cX5_span 15 = .ok (.ifCond .ne 6, 3) := by decide +kernel
theorem dX5_span_18 : decode cX5_span 18 = .ok (.bipush (-2), 2) := by decide +kernel
theorem dX5_span_20 : decode cX5_span 20 = .ok (.ireturn, 1) := by decide +kernel
theorem dX5_span_21 : decode cX5_span 21 = .ok (.aload_n 0, 1) := by decide +kernel
theorem dX5_span_22 : decode cX5_span 22 = .ok (.getfield 11, 3) := by decide +kernel
theorem dX5_span_25 : decode cX5_span 25 = .ok (.iload_n 1, 1) := by decide +kernel
theorem dX5_span_26 : decode cX5_span 26 = .ok (.aaload, 1) := by decide +kernel
theorem dX5_span_27 : decode cX5_span 27 = .ok (.iload_n 2, 1) := by decide +kernel
theorem dX5_span_28 : decode cX5_span 28 = .ok (.iload_n 3, 1) := by decide +kernel
theorem dX5_span_29 : decode cX5_span 29 = .ok (.invokestatic 109, 3) := by decide +kernel
theorem dX5_span_32 : decode cX5_span 32 = .ok (.ireturn, 1) := by decide +kernel
theorem dX5_wrong_0 : decode cX5_wrong 0 = .ok (.aload_n 0, 1) := by decide +kernel
theorem dX5_wrong_1 : decode cX5_wrong 1 = .ok (.iload_n 1, 1) := by decide +kernel
theorem dX5_wrong_2 : decode cX5_wrong 2 = .ok (.iload_n 2, 1) := by decide +kernel
theorem dX5_wrong_3 : decode cX5_wrong 3 = .ok (.invokevirtual 95, 3) := by decide +kernel
theorem dX5_wrong_6 : decode cX5_wrong 6 = .ok (.ifCond .ne 6, 3) := by decide +kernel
theorem dX5_wrong_9 : decode cX5_wrong 9 = .ok (.bipush (-2), 2) := by decide +kernel
theorem dX5_wrong_11 : decode cX5_wrong 11 = .ok (.ireturn, 1) := by decide +kernel
theorem dX5_wrong_12 : decode cX5_wrong 12 = .ok (.aload_n 0, 1) := by decide +kernel
theorem dX5_wrong_13 : decode cX5_wrong 13 = .ok (.getfield 11, 3) := by decide +kernel
theorem dX5_wrong_16 : decode cX5_wrong 16 = .ok (.iload_n 1, 1) := by decide +kernel
theorem dX5_wrong_17 : decode cX5_wrong 17 = .ok (.aaload, 1) := by decide +kernel
theorem dX5_wrong_18 : decode cX5_wrong 18 = .ok (.getfield 113, 3) := by decide +kernel
theorem dX5_wrong_21 : decode cX5_wrong 21 = .ok (.iload_n 2, 1) := by decide +kernel
theorem dX5_wrong_22 : decode cX5_wrong 22 = .ok (.iaload, 1) := by decide +kernel
theorem dX5_wrong_23 : decode cX5_wrong 23 = .ok (.ireturn, 1) := by decide +kernel
theorem dX5_days_0 : decode cX5_days 0 = .ok (.aload_n 0, 1) := by decide +kernel
theorem dX5_days_1 : decode cX5_days 1 = .ok (.iload_n 1, 1) := by decide +kernel
theorem dX5_days_2 : decode cX5_days 2 = .ok (.invokevirtual 64, 3) := by decide +kernel
theorem dX5_days_5 : decode cX5_days 5 = .ok (.ifCond .eq 22, 3) := by decide +kernel
theorem dX5_days_8 : decode cX5_days 8 = .ok (.iload_n 2, 1) := by decide +kernel
theorem dX5_days_9 : decode cX5_days 9 = .ok (.iconst 0, 1) := by decide +kernel
theorem dX5_days_10 : decode cX5_days 10 = .ok (.iconst 3, 1) := by decide +kernel
theorem dX5_days_11 : decode cX5_days 11 = .ok (.invokestatic 57, 3) := by decide +kernel
theorem dX5_days_14 : decode cX5_days 14 = .ok (.ifCond .eq 13, 3) := by decide +kernel
theorem dX5_days_17 : decode cX5_days 17 = .ok (.iload_n 3, 1) := by decide +kernel
theorem dX5_days_18 : decode cX5_days 18 = .ok (.iconst 0, 1) := by decide +kernel
theorem dX5_days_19 : decode cX5_days 19 = .ok (.bipush 50, 2) := by decide +kernel
theorem dX5_days_21 : decode cX5_days 21 = .ok (.invokestatic 57, 3) := by decide +kernel
theorem dX5_days_24 : decode cX5_days 24 = .ok (.ifCond .ne 6, 3) := by decide +kernel
theorem dX5_days_27 : decode cX5_days 27 = .ok (.bipush (-2), 2) := by decide +kernel
theorem dX5_days_29 : decode cX5_days 29 = .ok (.ireturn, 1) := by decide +kernel
theorem dX5_days_30 : decode cX5_days 30 = .ok (.aload_n 0, 1) := by decide +kernel
theorem dX5_days_31 : decode cX5_days 31 = .ok (.getfield 11, 3) := by decide +kernel
theorem dX5_days_34 : decode cX5_days 34 = .ok (.iload_n 1, 1) := by decide +kernel
theorem dX5_days_35 : decode cX5_days 35 = .ok (.aaload, 1) := by decide +kernel
theorem dX5_days_36 : decode cX5_days 36 = .ok (.getfield 116, 3) := by decide +kernel
theorem dX5_days_39 : decode cX5_days 39 = .ok (.iload_n 2, 1) := by decide +kernel
theorem dX5_days_40 : decode cX5_days 40 = .ok (.iaload, 1) := by decide +kernel
theorem dX5_days_41 : decode cX5_days 41 = .ok (.istore 4, 2) := by decide +kernel
theorem dX5_days_43 : decode cX5_days 43 = .ok (.aload_n 0, 1) := by decide +kernel
theorem dX5_days_44 : decode cX5_days 44 = .ok (.getfield 11, 3) := by decide +kernel
theorem dX5_days_47 : decode cX5_days 47 = .ok (.iload_n 1, 1) := by decide +kernel
theorem dX5_days_48 : decode cX5_days 48 = .ok (.aaload, 1) := by decide +kernel
theorem dX5_days_49 : decode cX5_days 49 = .ok (.getfield 116, 3) := by decide +kernel
theorem dX5_days_52 : decode cX5_days 52 = .ok (.iload_n 2, 1) := by decide +kernel
theorem dX5_days_53 : decode cX5_days 53 = .ok (.iload_n 3, 1) := by decide +kernel
theorem dX5_days_54 : decode cX5_days 54 = .ok (.iastore, 1) := by decide +kernel
theorem dX5_days_55 : decode cX5_days 55 = .ok (.aload_n 0, 1) := by decide +kernel
theorem dX5_days_56 : decode cX5_days 56 = .ok (.getfield 25, 3) := by decide +kernel
theorem dX5_days_59 : decode cX5_days 59 = .ok (.invokevirtual 119, 3) := by decide +kernel
theorem dX5_days_62 : decode cX5_days 62 = .ok (.iload 4, 2) := by decide +kernel
theorem dX5_days_64 : decode cX5_days 64 = .ok (.ireturn, 1) := by decide +kernel
theorem dX5_made_0 : decode cX5_made 0 = .ok (.aload_n 0, 1) := by decide +kernel
theorem dX5_made_1 : decode cX5_made 1 = .ok (.iload_n 1, 1) := by decide +kernel
theorem dX5_made_2 : decode cX5_made 2 = .ok (.invokevirtual 81, 3) := by decide +kernel
theorem dX5_made_5 : decode cX5_made 5 = .ok (.ifCond .ne 6, 3) := by decide +kernel
theorem dX5_made_8 : decode cX5_made 8 = .ok (.bipush (-2), 2) := by decide +kernel
theorem dX5_made_10 : decode cX5_made 10 = .ok (.ireturn, 1) := by decide +kernel
theorem dX5_made_11 : decode cX5_made 11 = .ok (.aload_n 0, 1) := by decide +kernel
theorem dX5_made_12 : decode cX5_made 12 = .ok (.getfield 25, 3) := by decide +kernel
theorem dX5_made_15 : decode cX5_made 15 = .ok (.aload_n 0, 1) := by decide +kernel
theorem dX5_made_16 : decode cX5_made 16 = .ok (.getfield 11, 3) := by decide +kernel
theorem dX5_made_19 : decode cX5_made 19 = .ok (.iload_n 1, 1) := by decide +kernel
theorem dX5_made_20 : decode cX5_made 20 = .ok (.invokevirtual 122, 3) := by decide +kernel
theorem dX5_made_23 : decode cX5_made 23 = .ok (.aload_n 0, 1) := by decide +kernel
theorem dX5_made_24 : decode cX5_made 24 = .ok (.getfield 25, 3) := by decide +kernel
theorem dX5_made_27 : decode cX5_made 27 = .ok (.getfield 126, 3) := by decide +kernel
theorem dX5_made_30 : decode cX5_made 30 = .ok (.ireturn, 1) := by decide +kernel
theorem dX5_order_0 : decode cX5_order 0 = .ok (.aload_n 0, 1) := by decide +kernel
theorem dX5_order_1 : decode cX5_order 1 = .ok (.iload_n 1, 1) := by decide +kernel
theorem dX5_order_2 : decode cX5_order 2 = .ok (.invokevirtual 81, 3) := by decide +kernel
theorem dX5_order_5 : decode cX5_order 5 = .ok (.ifCond .ne 6, 3) := by decide +kernel
theorem dX5_order_8 : decode cX5_order 8 = .ok (.bipush (-2), 2) := by decide +kernel
theorem dX5_order_10 : decode cX5_order 10 = .ok (.ireturn, 1) := by decide +kernel
theorem dX5_order_11 : decode cX5_order 11 = .ok (.aload_n 0, 1) := by decide +kernel
theorem dX5_order_12 : decode cX5_order 12 = .ok (.getfield 25, 3) := by decide +kernel
theorem dX5_order_15 : decode cX5_order 15 = .ok (.aload_n 0, 1) := by decide +kernel
theorem dX5_order_16 : decode cX5_order 16 = .ok (.getfield 11, 3) := by decide +kernel
theorem dX5_order_19 : decode cX5_order 19 = .ok (.iload_n 1, 1) := by decide +kernel
theorem dX5_order_20 : decode cX5_order 20 = .ok (.invokevirtual 122, 3) := by decide +kernel
theorem dX5_order_23 : decode cX5_order 23 = .ok (.iload_n 2, 1) := by decide +kernel
theorem dX5_order_24 : decode cX5_order 24 = .ok (.iconst 0, 1) := by decide +kernel
theorem dX5_order_25 : decode cX5_order 25 = .ok (.aload_n 0, 1) := by decide +kernel
theorem dX5_order_26 : decode cX5_order 26 = .ok (.getfield 25, 3) := by decide +kernel
theorem dX5_order_29 : decode cX5_order 29 = .ok (.getfield 129, 3) := by decide +kernel
theorem dX5_order_32 : decode cX5_order 32 = .ok (.iconst 1, 1) := by decide +kernel
theorem dX5_order_33 : decode cX5_order 33 = .ok (.isub, 1) := by decide +kernel
theorem dX5_order_34 : decode cX5_order 34 = .ok (.invokestatic 57, 3) := by decide +kernel
theorem dX5_order_37 : decode cX5_order 37 = .ok (.ifCond .eq 15, 3) := by decide +kernel
theorem dX5_order_40 : decode cX5_order 40 = .ok (.aload_n 0, 1) := by decide +kernel
theorem dX5_order_41 : decode cX5_order 41 = .ok (.getfield 25, 3) := by decide +kernel
theorem dX5_order_44 : decode cX5_order 44 = .ok (.getfield 132, 3) := by decide +kernel
theorem dX5_order_47 : decode cX5_order 47 = .ok (.iload_n 2, 1) := by decide +kernel
theorem dX5_order_48 : decode cX5_order 48 = .ok (.iaload, 1) := by decide +kernel
theorem dX5_order_49 : decode cX5_order 49 = .ok (.goto 4, 3) := by decide +kernel
theorem dX5_order_52 : decode cX5_order 52 = .ok (.iconst (-1), 1) := by decide +kernel
theorem dX5_order_53 : decode cX5_order 53 = .ok (.ireturn, 1) := by decide +kernel
theorem dX5_room_0 : decode cX5_room 0 = .ok (.iload_n 1, 1) := by decide +kernel
theorem dX5_room_1 : decode cX5_room 1 = .ok (.iconst 0, 1) := by decide +kernel
theorem dX5_room_2 : decode cX5_room 2 = .ok (.iconst 2, 1) := by decide +kernel
theorem dX5_room_3 : decode cX5_room 3 = .ok (.invokestatic 57, 3) := by decide +kernel
theorem dX5_room_6 : decode cX5_room 6 = .ok (.ifCond .eq 23, 3) := by decide +kernel
theorem dX5_room_9 : decode cX5_room 9 = .ok (.iload_n 2, 1) := by decide +kernel
theorem dX5_room_10 : decode cX5_room 10 = .ok (.iconst 0, 1) := by decide +kernel
theorem dX5_room_11 : decode cX5_room 11 = .ok (.bipush 100, 2) := by decide +kernel
theorem dX5_room_13 : decode cX5_room 13 = .ok (.invokestatic 57, 3) := by decide +kernel
theorem dX5_room_16 : decode cX5_room 16 = .ok (.ifCond .eq 13, 3) := by decide +kernel
theorem dX5_room_19 : decode cX5_room 19 = .ok (.iload_n 3, 1) := by decide +kernel
theorem dX5_room_20 : decode cX5_room 20 = .ok (.iconst 1, 1) := by decide +kernel
theorem dX5_room_21 : decode cX5_room 21 = .ok (.bipush 30, 2) := by decide +kernel
theorem dX5_room_23 : decode cX5_room 23 = .ok (.invokestatic 57, 3) := by decide +kernel
theorem dX5_room_26 : decode cX5_room 26 = .ok (.ifCond .ne 6, 3) := by decide +kernel
theorem dX5_room_29 : decode cX5_room 29 = .ok (.bipush (-2), 2) := by decide +kernel
theorem dX5_room_31 : decode cX5_room 31 = .ok (.ireturn, 1) := by decide +kernel
theorem dX5_room_32 : decode cX5_room 32 = .ok (.aload_n 0, 1) := by decide +kernel
theorem dX5_room_33 : decode cX5_room 33 = .ok (.getfield 32, 3) := by decide +kernel
theorem dX5_room_36 : decode cX5_room 36 = .ok (.getfield 135, 3) := by decide +kernel
theorem dX5_room_39 : decode cX5_room 39 = .ok (.iload_n 1, 1) := by decide +kernel
theorem dX5_room_40 : decode cX5_room 40 = .ok (.iload_n 2, 1) := by decide +kernel
theorem dX5_room_41 : decode cX5_room 41 = .ok (.iastore, 1) := by decide +kernel
theorem dX5_room_42 : decode cX5_room 42 = .ok (.aload_n 0, 1) := by decide +kernel
theorem dX5_room_43 : decode cX5_room 43 = .ok (.getfield 32, 3) := by decide +kernel
theorem dX5_room_46 : decode cX5_room 46 = .ok (.getfield 138, 3) := by decide +kernel
theorem dX5_room_49 : decode cX5_room 49 = .ok (.iload_n 1, 1) := by decide +kernel
theorem dX5_room_50 : decode cX5_room 50 = .ok (.iload_n 3, 1) := by decide +kernel
theorem dX5_room_51 : decode cX5_room 51 = .ok (.iastore, 1) := by decide +kernel
theorem dX5_room_52 : decode cX5_room 52 = .ok (.iconst 1, 1) := by decide +kernel
theorem dX5_room_53 : decode cX5_room 53 = .ok (.ireturn, 1) := by decide +kernel
theorem dX5_come_0 : decode cX5_come 0 = .ok (.iload_n 1, 1) := by decide +kernel
theorem dX5_come_1 : decode cX5_come 1 = .ok (.iconst 0, 1) := by decide +kernel
theorem dX5_come_2 : decode cX5_come 2 = .ok (.sipush 600, 3) := by decide +kernel
theorem dX5_come_5 : decode cX5_come 5 = .ok (.invokestatic 57, 3) := by decide +kernel
theorem dX5_come_8 : decode cX5_come 8 = .ok (.ifCond .eq 13, 3) := by decide +kernel
theorem dX5_come_11 : decode cX5_come 11 = .ok (.iload_n 2, 1) := by decide +kernel
theorem dX5_come_12 : decode cX5_come 12 = .ok (.iconst 1, 1) := by decide +kernel
theorem dX5_come_13 : decode cX5_come 13 = .ok (.bipush 20, 2) := by decide +kernel
theorem dX5_come_15 : decode cX5_come 15 = .ok (.invokestatic 57, 3) := by decide +kernel
theorem dX5_come_18 : decode cX5_come 18 = .ok (.ifCond .ne 6, 3) := by decide +kernel
theorem dX5_come_21 : decode cX5_come 21 = .ok (.bipush (-2), 2) := by decide +kernel
theorem dX5_come_23 : decode cX5_come 23 = .ok (.ireturn, 1) := by decide +kernel
theorem dX5_come_24 : decode cX5_come 24 = .ok (.iload_n 1, 1) := by decide +kernel
theorem dX5_come_25 : decode cX5_come 25 = .ok (.aload_n 0, 1) := by decide +kernel
theorem dX5_come_26 : decode cX5_come 26 = .ok (.getfield 32, 3) := by decide +kernel
theorem dX5_come_29 : decode cX5_come 29 = .ok (.invokevirtual 141, 3) := by decide +kernel
theorem dX5_come_32 : decode cX5_come 32 = .ok (.if_icmp .ge 6, 3) := by decide +kernel
theorem dX5_come_35 : decode cX5_come 35 = .ok (.bipush (-3), 2) := by decide +kernel
theorem dX5_come_37 : decode cX5_come 37 = .ok (.ireturn, 1) := by decide +kernel
theorem dX5_come_38 : decode cX5_come 38 = .ok (.aload_n 0, 1) := by decide +kernel
theorem dX5_come_39 : decode cX5_come 39 = .ok (.getfield 32, 3) := by decide +kernel
theorem dX5_come_42 : decode cX5_come 42 = .ok (.getfield 145, 3) := by decide +kernel
theorem dX5_come_45 : decode cX5_come 45 = .ok (.iload_n 2, 1) := by decide +kernel
theorem dX5_come_46 : decode cX5_come 46 = .ok (.iadd, 1) := by decide +kernel
theorem dX5_come_47 : decode cX5_come 47 = .ok (.bipush 40, 2) := by decide +kernel
theorem dX5_come_49 : decode cX5_come 49 = .ok (.if_icmp .le 6, 3) := by decide +kernel
theorem dX5_come_52 : decode cX5_come 52 = .ok (.bipush (-4), 2) := by decide +kernel
theorem dX5_come_54 : decode cX5_come 54 = .ok (.ireturn, 1) := by decide +kernel
theorem dX5_come_55 : decode cX5_come 55 = .ok (.aload_n 0, 1) := by decide +kernel
theorem dX5_come_56 : decode cX5_come 56 = .ok (.getfield 32, 3) := by decide +kernel
theorem dX5_come_59 : decode cX5_come 59 = .ok (.iload_n 1, 1) := by decide +kernel
theorem dX5_come_60 : decode cX5_come 60 = .ok (.iload_n 2, 1) := by decide +kernel
theorem dX5_come_61 : decode cX5_come 61 = .ok (.invokevirtual 148, 3) := by decide +kernel
theorem dX5_come_64 : decode cX5_come 64 = .ok (.ireturn, 1) := by decide +kernel
theorem dX5_empty_0 : decode cX5_empty 0 = .ok (.aload_n 0, 1) := by decide +kernel
theorem dX5_empty_1 : decode cX5_empty 1 = .ok (.getfield 32, 3) := by decide +kernel
theorem dX5_empty_4 : decode cX5_empty 4 = .ok (.getfield 145, 3) := by decide +kernel
theorem dX5_empty_7 : decode cX5_empty 7 = .ok (.istore_n 1, 1) := by decide +kernel
theorem dX5_empty_8 : decode cX5_empty 8 = .ok (.aload_n 0, 1) := by decide +kernel
theorem dX5_empty_9 : decode cX5_empty 9 = .ok (.getfield 32, 3) := by decide +kernel
theorem dX5_empty_12 : decode cX5_empty 12 = .ok (.iconst 0, 1) := by decide +kernel
theorem dX5_empty_13 : decode cX5_empty 13 = .ok (.putfield 145, 3) := by decide +kernel
theorem dX5_empty_16 : decode cX5_empty 16 = .ok (.iload_n 1, 1) := by decide +kernel
theorem dX5_empty_17 : decode cX5_empty 17 = .ok (.ireturn, 1) := by decide +kernel
theorem dX5_out_0 : decode cX5_out 0 = .ok (.iload_n 1, 1) := by decide +kernel
theorem dX5_out_1 : decode cX5_out 1 = .ok (.iconst 0, 1) := by decide +kernel
theorem dX5_out_2 : decode cX5_out 2 = .ok (.aload_n 0, 1) := by decide +kernel
theorem dX5_out_3 : decode cX5_out 3 = .ok (.getfield 32, 3) := by decide +kernel
theorem dX5_out_6 : decode cX5_out 6 = .ok (.getfield 145, 3) := by decide +kernel
theorem dX5_out_9 : decode cX5_out 9 = .ok (.iconst 1, 1) := by decide +kernel
theorem dX5_out_10 : decode cX5_out 10 = .ok (.isub, 1) := by decide +kernel
theorem dX5_out_11 : decode cX5_out 11 = .ok (.invokestatic 57, 3) := by decide +kernel
theorem dX5_out_14 : decode cX5_out 14 = .ok (.ifCond .ne 6, 3) := by decide +kernel
theorem dX5_out_17 : decode cX5_out 17 = .ok (.bipush (-2), 2) := by decide +kernel
theorem dX5_out_19 : decode cX5_out 19 = .ok (.ireturn, 1) := by decide +kernel
theorem dX5_out_20 : decode cX5_out 20 = .ok (.aload_n 0, 1) := by decide +kernel
theorem dX5_out_21 : decode cX5_out 21 = .ok (.getfield 32, 3) := by decide +kernel
theorem dX5_out_24 : decode cX5_out 24 = .ok (.invokevirtual 152, 3) := by decide +kernel
theorem dX5_out_27 : decode cX5_out 27 = .ok (.aload_n 0, 1) := by decide +kernel
theorem dX5_out_28 : decode cX5_out 28 = .ok (.getfield 32, 3) := by decide +kernel
theorem dX5_out_31 : decode cX5_out 31 = .ok (.getfield 155, 3) := by decide +kernel
theorem dX5_out_34 : decode cX5_out 34 = .ok (.iconst 3, 1) := by decide +kernel
theorem dX5_out_35 : decode cX5_out 35 = .ok (.aaload, 1) := by decide +kernel
theorem dX5_out_36 : decode cX5_out 36 = .ok (.iload_n 1, 1) := by decide +kernel
theorem dX5_out_37 : decode cX5_out 37 = .ok (.iaload, 1) := by decide +kernel
theorem dX5_out_38 : decode cX5_out 38 = .ok (.istore_n 2, 1) := by decide +kernel
theorem dX5_out_39 : decode cX5_out 39 = .ok (.iload_n 2, 1) := by decide +kernel
theorem dX5_out_40 : decode cX5_out 40 = .ok (.sipush 5000, 3) := by decide +kernel
theorem dX5_out_43 : decode cX5_out 43 = .ok (.if_icmp .gt 7, 3) := by decide +kernel
theorem dX5_out_46 : decode cX5_out 46 = .ok (.iload_n 2, 1) := by decide +kernel
theorem dX5_out_47 : decode cX5_out 47 = .ok (.goto 4, 3) := by decide +kernel
theorem dX5_out_50 : decode cX5_out 50 = .ok (.iconst (-1), 1) := by decide +kernel
theorem dX5_out_51 : decode cX5_out 51 = .ok (.ireturn, 1) := by decide +kernel
theorem dX5_most_0 : decode cX5_most 0 = .ok (.iload_n 1, 1) := by decide +kernel
theorem dX5_most_1 : decode cX5_most 1 = .ok (.iconst 0, 1) := by decide +kernel
theorem dX5_most_2 : decode cX5_most 2 = .ok (.iconst 3, 1) := by decide +kernel
theorem dX5_most_3 : decode cX5_most 3 = .ok (.invokestatic 57, 3) := by decide +kernel
theorem dX5_most_6 : decode cX5_most 6 = .ok (.ifCond .ne 6, 3) := by decide +kernel
theorem dX5_most_9 : decode cX5_most 9 = .ok (.bipush (-2), 2) := by decide +kernel
theorem dX5_most_11 : decode cX5_most 11 = .ok (.ireturn, 1) := by decide +kernel
theorem dX5_most_12 : decode cX5_most 12 = .ok (.aload_n 0, 1) := by decide +kernel
theorem dX5_most_13 : decode cX5_most 13 = .ok (.getfield 32, 3) := by decide +kernel
theorem dX5_most_16 : decode cX5_most 16 = .ok (.invokevirtual 152, 3) := by decide +kernel
theorem dX5_most_19 : decode cX5_most 19 = .ok (.iload_n 1, 1) := by decide +kernel
theorem dX5_most_20 : decode cX5_most 20 = .ok (.iconst 3, 1) := by decide +kernel
theorem dX5_most_21 : decode cX5_most 21 = .ok (.if_icmp .ne 29, 3) := by decide +kernel
theorem dX5_most_24 : decode cX5_most 24 = .ok (.aload_n 0, 1) := by decide +kernel
theorem dX5_most_25 : decode cX5_most 25 = .ok (.getfield 32, 3) := by decide +kernel
theorem dX5_most_28 : decode cX5_most 28 = .ok (.aload_n 0, 1) := by decide +kernel
theorem dX5_most_29 : decode cX5_most 29 = .ok (.getfield 32, 3) := by decide +kernel
theorem dX5_most_32 : decode cX5_most 32 = .ok (.getfield 159, 3) := by decide +kernel
theorem dX5_most_35 : decode cX5_most 35 = .ok (.aload_n 0, 1) := by decide +kernel
theorem dX5_most_36 : decode cX5_most 36 = .ok (.getfield 32, 3) := by decide +kernel
theorem dX5_most_39 : decode cX5_most 39 = .ok (.getfield 155, 3) := by decide +kernel
theorem dX5_most_42 : decode cX5_most 42 = .ok (.iconst 0, 1) := by decide +kernel
theorem dX5_most_43 : decode cX5_most 43 = .ok (.aaload, 1) := by decide +kernel
theorem dX5_most_44 : decode cX5_most 44 = .ok (.invokevirtual 162, 3) := by decide +kernel
theorem dX5_most_47 : decode cX5_most 47 = .ok (.goto 30, 3) := by decide +kernel
theorem dX5_most_50 : decode cX5_most 50 = .ok (.aload_n 0, 1) := by decide +kernel
theorem dX5_most_51 : decode cX5_most 51 = .ok (.getfield 32, 3) := by decide +kernel
theorem dX5_most_54 : decode cX5_most 54 = .ok (.aload_n 0, 1) := by decide +kernel
theorem dX5_most_55 : decode cX5_most 55 = .ok (.getfield 32, 3) := by decide +kernel
theorem dX5_most_58 : decode cX5_most 58 = .ok (.getfield 155, 3) := by decide +kernel
theorem dX5_most_61 : decode cX5_most 61 = .ok (.iload_n 1, 1) := by decide +kernel
theorem dX5_most_62 : decode cX5_most 62 = .ok (.aaload, 1) := by decide +kernel
theorem dX5_most_63 : decode cX5_most 63 = .ok (.aload_n 0, 1) := by decide +kernel
theorem dX5_most_64 : decode cX5_most 64 = .ok (.getfield 32, 3) := by decide +kernel
theorem dX5_most_67 : decode cX5_most 67 = .ok (.getfield 155, 3) := by decide +kernel
theorem dX5_most_70 : decode cX5_most 70 = .ok (.iload_n 1, 1) := by decide +kernel
theorem dX5_most_71 : decode cX5_most 71 = .ok (.iconst 1, 1) := by decide +kernel
theorem dX5_most_72 : decode cX5_most 72 = .ok (.iadd, 1) := by decide +kernel
theorem dX5_most_73 : decode cX5_most 73 = .ok (.aaload, 1) := by decide +kernel
theorem dX5_most_74 : decode cX5_most 74 = .ok (.invokevirtual 162, 3) := by decide +kernel
theorem dX5_most_77 : decode cX5_most 77 = .ok (.ireturn, 1) := by decide +kernel
theorem dX5_heat_0 : decode cX5_heat 0 = .ok (.aload_n 0, 1) := by decide +kernel
theorem dX5_heat_1 : decode cX5_heat 1 = .ok (.iload_n 1, 1) := by decide +kernel
theorem dX5_heat_2 : decode cX5_heat 2 = .ok (.invokevirtual 64, 3) := by decide +kernel
theorem dX5_heat_5 : decode cX5_heat 5 = .ok (.ifCond .eq 23, 3) := by decide +kernel
theorem dX5_heat_8 : decode cX5_heat 8 = .ok (.iload_n 2, 1) := by decide +kernel
theorem dX5_heat_9 : decode cX5_heat 9 = .ok (.iconst 0, 1) := by decide +kernel
theorem dX5_heat_10 : decode cX5_heat 10 = .ok (.bipush 60, 2) := by decide +kernel
theorem dX5_heat_12 : decode cX5_heat 12 = .ok (.invokestatic 57, 3) := by decide +kernel
theorem dX5_heat_15 : decode cX5_heat 15 = .ok (.ifCond .eq 13, 3) := by decide +kernel
theorem dX5_heat_18 : decode cX5_heat 18 = .ok (.iload_n 3, 1) := by decide +kernel
theorem dX5_heat_19 : decode cX5_heat 19 = .ok (.iconst 1, 1) := by decide +kernel
theorem dX5_heat_20 : decode cX5_heat 20 = .ok (.bipush 50, 2) := by decide +kernel
theorem dX5_heat_22 : decode cX5_heat 22 = .ok (.invokestatic 57, 3) := by decide +kernel
theorem dX5_heat_25 : decode cX5_heat 25 = .ok (.ifCond .ne 6, 3) := by decide +kernel
theorem dX5_heat_28 : decode cX5_heat 28 = .ok (.bipush (-2), 2) := by decide +kernel
theorem dX5_heat_30 : decode cX5_heat 30 = .ok (.ireturn, 1) := by decide +kernel
theorem dX5_heat_31 : decode cX5_heat 31 = .ok (.aload_n 0, 1) := by decide +kernel
theorem dX5_heat_32 : decode cX5_heat 32 = .ok (.getfield 11, 3) := by decide +kernel
theorem dX5_heat_35 : decode cX5_heat 35 = .ok (.iload_n 1, 1) := by decide +kernel
theorem dX5_heat_36 : decode cX5_heat 36 = .ok (.aaload, 1) := by decide +kernel
theorem dX5_heat_37 : decode cX5_heat 37 = .ok (.iload_n 2, 1) := by decide +kernel
theorem dX5_heat_38 : decode cX5_heat 38 = .ok (.iload_n 3, 1) := by decide +kernel
theorem dX5_heat_39 : decode cX5_heat 39 = .ok (.invokevirtual 166, 3) := by decide +kernel
theorem dX5_heat_42 : decode cX5_heat 42 = .ok (.ireturn, 1) := by decide +kernel
theorem dX5_touch_0 : decode cX5_touch 0 = .ok (.aload_n 0, 1) := by decide +kernel
theorem dX5_touch_1 : decode cX5_touch 1 = .ok (.iload_n 1, 1) := by decide +kernel
theorem dX5_touch_2 : decode cX5_touch 2 = .ok (.invokevirtual 64, 3) := by decide +kernel
theorem dX5_touch_5 : decode cX5_touch 5 = .ok (.ifCond .eq 13, 3) := by decide +kernel
theorem dX5_touch_8 : decode cX5_touch 8 = .ok (.iload_n 2, 1) := by decide +kernel
theorem dX5_touch_9 : decode cX5_touch 9 = .ok (.iconst 0, 1) := by decide +kernel
theorem dX5_touch_10 : decode cX5_touch 10 = .ok (.bipush 50, 2) := by decide +kernel
theorem dX5_touch_12 : decode cX5_touch 12 = .ok (.invokestatic 57, 3) := by decide +kernel
theorem dX5_touch_15 : decode cX5_touch 15 = .ok (.ifCond .ne 6, 3) := by decide +kernel
theorem dX5_touch_18 : decode cX5_touch 18 = .ok (.bipush (-2), 2) := by decide +kernel
theorem dX5_touch_20 : decode cX5_touch 20 = .ok (.ireturn, 1) := by decide +kernel
theorem dX5_touch_21 : decode cX5_touch 21 = .ok (.aload_n 0, 1) := by decide +kernel
theorem dX5_touch_22 : decode cX5_touch 22 = .ok (.getfield 11, 3) := by decide +kernel
theorem dX5_touch_25 : decode cX5_touch 25 = .ok (.iload_n 1, 1) := by decide +kernel
theorem dX5_touch_26 : decode cX5_touch 26 = .ok (.aaload, 1) := by decide +kernel
theorem dX5_touch_27 : decode cX5_touch 27 = .ok (.sipush 1000, 3) := by decide +kernel
theorem dX5_touch_30 : decode cX5_touch 30 = .ok (.aload_n 0, 1) := by decide +kernel
theorem dX5_touch_31 : decode cX5_touch 31 = .ok (.getfield 11, 3) := by decide +kernel
theorem dX5_touch_34 : decode cX5_touch 34 = .ok (.iload_n 1, 1) := by decide +kernel
theorem dX5_touch_35 : decode cX5_touch 35 = .ok (.aaload, 1) := by decide +kernel
theorem dX5_touch_36 : decode cX5_touch 36 = .ok (.getfield 169, 3) := by decide +kernel
theorem dX5_touch_39 : decode cX5_touch 39 = .ok (.iload_n 2, 1) := by decide +kernel
theorem dX5_touch_40 : decode cX5_touch 40 = .ok (.iadd, 1) := by decide +kernel
theorem dX5_touch_41 : decode cX5_touch 41 = .ok (.invokestatic 172, 3) := by decide +kernel
theorem dX5_touch_44 : decode cX5_touch 44 = .ok (.putfield 169, 3) := by decide +kernel
theorem dX5_touch_47 : decode cX5_touch 47 = .ok (.aload_n 0, 1) := by decide +kernel
theorem dX5_touch_48 : decode cX5_touch 48 = .ok (.getfield 11, 3) := by decide +kernel
theorem dX5_touch_51 : decode cX5_touch 51 = .ok (.iload_n 1, 1) := by decide +kernel
theorem dX5_touch_52 : decode cX5_touch 52 = .ok (.aaload, 1) := by decide +kernel
theorem dX5_touch_53 : decode cX5_touch 53 = .ok (.getfield 169, 3) := by decide +kernel
theorem dX5_touch_56 : decode cX5_touch 56 = .ok (.ireturn, 1) := by decide +kernel
theorem dX5_repair_0 : decode cX5_repair 0 = .ok (.aload_n 0, 1) := by decide +kernel
theorem dX5_repair_1 : decode cX5_repair 1 = .ok (.iload_n 1, 1) := by decide +kernel
theorem dX5_repair_2 : decode cX5_repair 2 = .ok (.invokevirtual 64, 3) := by decide +kernel
theorem dX5_repair_5 : decode cX5_repair 5 = .ok (.ifCond .ne 6, 3) := by decide +kernel
theorem dX5_repair_8 : decode cX5_repair 8 = .ok (.bipush (-2), 2) := by decide +kernel
theorem dX5_repair_10 : decode cX5_repair 10 = .ok (.ireturn, 1) := by decide +kernel
theorem dX5_repair_11 : decode cX5_repair 11 = .ok (.aload_n 0, 1) := by decide +kernel
theorem dX5_repair_12 : decode cX5_repair 12 = .ok (.getfield 11, 3) := by decide +kernel
theorem dX5_repair_15 : decode cX5_repair 15 = .ok (.iload_n 1, 1) := by decide +kernel
theorem dX5_repair_16 : decode cX5_repair 16 = .ok (.aaload, 1) := by decide +kernel
theorem dX5_repair_17 : decode cX5_repair 17 = .ok (.invokevirtual 177, 3) := by decide +kernel

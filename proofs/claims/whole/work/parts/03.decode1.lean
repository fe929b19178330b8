theorem dX2_countTouched_84 : decode cX2_countTouched 84 = .ok (.iload_n 3, 1) := by decide +kernel
theorem dX2_countTouched_85 : decode cX2_countTouched 85 = .ok (.iload 5, 2) := by decide +kernel
theorem dX2_countTouched_87 : decode cX2_countTouched 87 = .ok (.ifCond .ne 8, 3) := by decide +kernel
theorem dX2_countTouched_90 : decode cX2_countTouched 90 = .ok (.iload 6, 2) := by decide +kernel
theorem dX2_countTouched_92 : decode cX2_countTouched 92 = .ok (.ifCond .eq 7, 3) := by decide +kernel
theorem dX2_countTouched_95 : decode cX2_countTouched 95 = .ok (.iconst 1, 1) := by decide +kernel
theorem dX2_countTouched_96 : decode cX2_countTouched 96 = .ok (.goto 4, 3) := by decide +kernel
theorem dX2_countTouched_99 : decode cX2_countTouched 99 = .ok (.iconst 0, 1) := by decide +kernel
theorem dX2_countTouched_100 : decode cX2_countTouched 100 = .ok (.invokestatic 74, 3) := by decide +kernel
theorem dX2_countTouched_103 : decode cX2_countTouched 103 = .ok (.iadd, 1) := by decide +kernel
theorem dX2_countTouched_104 : decode cX2_countTouched 104 = .ok (.istore_n 3, 1) := by decide +kernel
theorem dX2_countTouched_105 : decode cX2_countTouched 105 = .ok (.iinc 4 1, 3) := by decide +kernel
theorem dX2_countTouched_108 : decode cX2_countTouched 108 = .ok (.goto (-103), 3) := by decide +kernel
theorem dX2_countTouched_111 : decode cX2_countTouched 111 = .ok (.iload_n 3, 1) := by decide +kernel
theorem dX2_countTouched_112 : decode cX2_countTouched 112 = .ok (.ireturn, 1) := by decide +kernel
theorem dX3_init_0 : decode cX3_init 0 = .ok (.aload_n 0, 1) := by decide +kernel
theorem dX3_init_1 : decode cX3_init 1 = .ok (.invokespecial 3, 3) := by decide +kernel
theorem dX3_init_4 : decode cX3_init 4 = .ok (.aload_n 0, 1) := by decide +kernel
theorem dX3_init_5 : decode cX3_init 5 = .ok (.bipush 12, 2) := by decide +kernel
theorem dX3_init_7 : decode cX3_init 7 = .ok (.anewarray 9, 3) := by decide +kernel
theorem dX3_init_10 : decode cX3_init 10 = .ok (.putfield 11, 3) := by decide +kernel
theorem dX3_init_13 : decode cX3_init 13 = .ok (.return_, 1) := by decide +kernel
theorem dX3_has_0 : decode cX3_has 0 = .ok (.iload_n 1, 1) := by decide +kernel
theorem dX3_has_1 : decode cX3_has 1 = .ok (.ifCond .lt 15, 3) := by decide +kernel
theorem dX3_has_4 : decode cX3_has 4 = .ok (.iload_n 1, 1) := by decide +kernel
theorem dX3_has_5 : decode cX3_has 5 = .ok (.aload_n 0, 1) := by decide +kernel
theorem dX3_has_6 : decode cX3_has 6 = .ok (.getfield 17, 3) := by decide +kernel
theorem dX3_has_9 : decode cX3_has 9 = .ok (.if_icmp .ge 7, 3) := by decide +kernel
theorem dX3_has_12 : decode cX3_has 12 = .ok (.iconst 1, 1) := by decide +kernel
theorem dX3_has_13 : decode cX3_has 13 = .ok (.goto 4, 3) := by decide +kernel
theorem dX3_has_16 : decode cX3_has 16 = .ok (.iconst 0, 1) := by decide +kernel
theorem dX3_has_17 : decode cX3_has 17 = .ok (.ireturn, 1) := by decide +kernel
theorem dX3_add_0 : decode cX3_add 0 = .ok (.aload_n 0, 1) := by decide +kernel
theorem dX3_add_1 : decode cX3_add 1 = .ok (.getfield 11, 3) := by decide +kernel
theorem dX3_add_4 : decode cX3_add 4 = .ok (.aload_n 0, 1) := by decide +kernel
theorem dX3_add_5 : decode cX3_add 5 = .ok (.getfield 17, 3) := by decide +kernel
theorem dX3_add_8 : decode cX3_add 8 = .ok (.aload_n 1, 1) := by decide +kernel
theorem dX3_add_9 : decode cX3_add 9 = .ok (.aastore, 1) := by decide +kernel
theorem dX3_add_10 : decode cX3_add 10 = .ok (.aload_n 0, 1) := by decide +kernel
theorem dX3_add_11 : decode cX3_add 11 = .ok (.dup, 1) := by decide +kernel
theorem dX3_add_12 : decode cX3_add 12 = .ok (.getfield 17, 3) := by decide +kernel
theorem dX3_add_15 : decode cX3_add 15 = .ok (.iconst 1, 1) := by decide +kernel
theorem dX3_add_16 : decode cX3_add 16 = .ok (.iadd, 1) := by decide +kernel
theorem dX3_add_17 : decode cX3_add 17 = .ok (.putfield 17, 3) := by decide +kernel
theorem dX3_add_20 : decode cX3_add 20 = .ok (.aload_n 0, 1) := by decide +kernel
theorem dX3_add_21 : decode cX3_add 21 = .ok (.getfield 17, 3) := by decide +kernel
theorem dX3_add_24 : decode cX3_add 24 = .ok (.iconst 1, 1) := by decide +kernel
theorem dX3_add_25 : decode cX3_add 25 = .ok (.isub, 1) := by decide +kernel
theorem dX3_add_26 : decode cX3_add 26 = .ok (.ireturn, 1) := by decide +kernel
theorem dX4_init_0 : decode cX4_init 0 = .ok (.aload_n 0, 1) := by decide +kernel
theorem dX4_init_1 : decode cX4_init 1 = .ok (.invokespecial 3, 3) := by decide +kernel
theorem dX4_init_4 : decode cX4_init 4 = .ok (.aload_n 0, 1) := by decide +kernel
theorem dX4_init_5 : decode cX4_init 5 = .ok (.new 9, 3) := by decide +kernel
theorem dX4_init_8 : decode cX4_init 8 = .ok (.dup, 1) := by decide +kernel
theorem dX4_init_9 : decode cX4_init 9 = .ok (.invokespecial 11, 3) := by decide +kernel
theorem dX4_init_12 : decode cX4_init 12 = .ok (.putfield 12, 3) := by decide +kernel
theorem dX4_init_15 : decode cX4_init 15 = .ok (.aload_n 0, 1) := by decide +kernel
theorem dX4_init_16 : decode cX4_init 16 = .ok (.iconst 3, 1) := by decide +kernel
theorem dX4_init_17 : decode cX4_init 17 = .ok (.newarray .long, 2) := by decide +kernel
theorem dX4_init_19 : decode cX4_init 19 = .ok (.putfield 18, 3) := by decide +kernel
theorem dX4_init_22 : decode cX4_init 22 = .ok (.aload_n 0, 1) := by decide +kernel
theorem dX4_init_23 : decode cX4_init 23 = .ok (.getfield 12, 3) := by decide +kernel
theorem dX4_init_26 : decode cX4_init 26 = .ok (.aload_n 1, 1) := by decide +kernel
theorem dX4_init_27 : decode cX4_init 27 = .ok (.getfield 22, 3) := by decide +kernel
theorem dX4_init_30 : decode cX4_init 30 = .ok (.invokevirtual 27, 3) := by decide +kernel
theorem dX4_init_33 : decode cX4_init 33 = .ok (.iconst 0, 1) := by decide +kernel
theorem dX4_init_34 : decode cX4_init 34 = .ok (.istore_n 2, 1) := by decide +kernel
theorem dX4_init_35 : decode cX4_init 35 = .ok (.iload_n 2, 1) := by decide +kernel
theorem dX4_init_36 : decode cX4_init 36 = .ok (.iconst 3, 1) := by decide +kernel
theorem dX4_init_37 : decode cX4_init 37 = .ok (.if_icmp .ge 20, 3) := by decide +kernel
theorem dX4_init_40 : decode cX4_init 40 = .ok (.aload_n 0, 1) := by decide +kernel
theorem dX4_init_41 : decode cX4_init 41 = .ok (.getfield 18, 3) := by decide +kernel
theorem dX4_init_44 : decode cX4_init 44 = .ok (.iload_n 2, 1) := by decide +kernel
theorem dX4_init_45 : decode cX4_init 45 = .ok (.aload_n 1, 1) := by decide +kernel
theorem dX4_init_46 : decode cX4_init 46 = .ok (.iload_n 2, 1) := by decide +kernel
theorem dX4_init_47 : decode cX4_init 47 = .ok (.invokevirtual 31, 3) := by decide +kernel
theorem dX4_init_50 : decode cX4_init 50 = .ok (.lastore, 1) := by decide +kernel
theorem dX4_init_51 : decode cX4_init 51 = .ok (.iinc 2 1, 3) := by decide +kernel
theorem dX4_init_54 : decode cX4_init 54 = .ok (.goto (-19), 3) := by decide +kernel
theorem dX4_init_57 : decode cX4_init 57 = .ok (.return_, 1) := by decide +kernel
theorem dX5_init_0 : decode cX5_init 0 = .ok (.aload_n 0, 1) := by decide +kernel
theorem dX5_init_1 : decode cX5_init 1 = .ok (.invokespecial 3, 3) := by decide +kernel
theorem dX5_init_4 : decode cX5_init 4 = .ok (.aload_n 0, 1) := by decide +kernel
theorem dX5_init_5 : decode cX5_init 5 = .ok (.iconst 4, 1) := by decide +kernel
theorem dX5_init_6 : decode cX5_init 6 = .ok (.bipush 40, 2) := by decide +kernel
theorem dX5_init_8 : decode cX5_init 8 = .ok (.multianewarray 9 2, 4) := by decide +kernel
theorem dX5_init_12 : decode cX5_init 12 = .ok (.putfield 11, 3) := by decide +kernel
theorem dX5_init_15 : decode cX5_init 15 = .ok (.return_, 1) := by decide +kernel
theorem dX5_has_0 : decode cX5_has 0 = .ok (.iload_n 1, 1) := by decide +kernel
theorem dX5_has_1 : decode cX5_has 1 = .ok (.ifCond .lt 15, 3) := by decide +kernel
theorem dX5_has_4 : decode cX5_has 4 = .ok (.iload_n 1, 1) := by decide +kernel
theorem dX5_has_5 : decode cX5_has 5 = .ok (.aload_n 0, 1) := by decide +kernel
theorem dX5_has_6 : decode cX5_has 6 = .ok (.getfield 16, 3) := by decide +kernel
theorem dX5_has_9 : decode cX5_has 9 = .ok (.if_icmp .ge 7, 3) := by decide +kernel
theorem dX5_has_12 : decode cX5_has 12 = .ok (.iconst 1, 1) := by decide +kernel
theorem dX5_has_13 : decode cX5_has 13 = .ok (.goto 4, 3) := by decide +kernel
theorem dX5_has_16 : decode cX5_has 16 = .ok (.iconst 0, 1) := by decide +kernel
theorem dX5_has_17 : decode cX5_has 17 = .ok (.ireturn, 1) := by decide +kernel
theorem dX5_read_0 : decode cX5_read 0 = .ok (.aload_n 0, 1) := by decide +kernel
theorem dX5_read_1 : decode cX5_read 1 = .ok (.iload_n 1, 1) := by decide +kernel
theorem dX5_read_2 : decode cX5_read 2 = .ok (.invokevirtual 20, 3) := by decide +kernel
theorem dX5_read_5 : decode cX5_read 5 = .ok (.ifCond .eq 23, 3) := by decide +kernel
theorem dX5_read_8 : decode cX5_read 8 = .ok (.iload_n 2, 1) := by decide +kernel
theorem dX5_read_9 : decode cX5_read 9 = .ok (.iconst 0, 1) := by decide +kernel
theorem dX5_read_10 : decode cX5_read 10 = .ok (.iconst 3, 1) := by decide +kernel
theorem dX5_read_11 : decode cX5_read 11 = .ok (.invokestatic 24, 3) := by decide +kernel
theorem dX5_read_14 : decode cX5_read 14 = .ok (.ifCond .eq 14, 3) := by decide +kernel
theorem dX5_read_17 : decode cX5_read 17 = .ok (.aload_n 0, 1) := by decide +kernel
theorem dX5_read_18 : decode cX5_read 18 = .ok (.getfield 11, 3) := by decide +kernel
theorem dX5_read_21 : decode cX5_read 21 = .ok (.iload_n 2, 1) := by decide +kernel
theorem dX5_read_22 : decode cX5_read 22 = .ok (.aaload, 1) := by decide +kernel
theorem dX5_read_23 : decode cX5_read 23 = .ok (.iload_n 1, 1) := by decide +kernel
theorem dX5_read_24 : decode cX5_read 24 = .ok (.iaload, 1) := by decide +kernel
theorem dX5_read_25 : decode cX5_read 25 = .ok (.goto 5, 3) := by decide +kernel
theorem dX5_read_28 : decode cX5_read 28 = .ok (.ldc 28, 2) := by decide +kernel
theorem dX5_read_30 : decode cX5_read 30 = .ok (.ireturn, 1) := by decide +kernel
theorem dX5_addObject_0 : decode cX5_addObject 0 = .ok (.aload_n 0, 1) := by decide +kernel
theorem dX5_addObject_1 : decode cX5_addObject 1 = .ok (.getfield 11, 3) := by decide +kernel
theorem dX5_addObject_4 : decode cX5_addObject 4 = .ok (.iconst 2, 1) := by decide +kernel
theorem dX5_addObject_5 : decode cX5_addObject 5 = .ok (.aaload, 1) := by decide +kernel
theorem dX5_addObject_6 : decode cX5_addObject 6 = .ok (.aload_n 0, 1) := by decide +kernel
theorem dX5_addObject_7 : decode cX5_addObject 7 = .ok (.getfield 16, 3) := by decide +kernel
theorem dX5_addObject_10 : decode cX5_addObject 10 = .ok (.iconst (-1), 1) := by decide +kernel
theorem dX5_addObject_11 : decode cX5_addObject 11 = .ok (.iastore, 1) := by decide +kernel
theorem dX5_addObject_12 : decode cX5_addObject 12 = .ok (.aload_n 0, 1) := by decide +kernel
theorem dX5_addObject_13 : decode cX5_addObject 13 = .ok (.dup, 1) := by decide +kernel
theorem dX5_addObject_14 : decode cX5_addObject 14 = .ok (.getfield 16, 3) := by decide +kernel
theorem dX5_addObject_17 : decode cX5_addObject 17 = .ok (.iconst 1, 1) := by decide +kernel
theorem dX5_addObject_18 : decode cX5_addObject 18 = .ok (.iadd, 1) := by decide +kernel
theorem dX5_addObject_19 : decode cX5_addObject 19 = .ok (.putfield 16, 3) := by decide +kernel
theorem dX5_addObject_22 : decode cX5_addObject 22 = .ok (.return_, 1) := by decide +kernel
theorem dX5_becomeLike_0 : decode cX5_becomeLike 0 = .ok (.aload_n 0, 1) := by decide +kernel
theorem dX5_becomeLike_1 : decode cX5_becomeLike 1 = .ok (.aload_n 1, 1) := by decide +kernel
theorem dX5_becomeLike_2 : decode cX5_becomeLike 2 = .ok (.getfield 16, 3) := by decide +kernel
theorem dX5_becomeLike_5 : decode cX5_becomeLike 5 = .ok (.putfield 16, 3) := by decide +kernel
theorem dX5_becomeLike_8 : decode cX5_becomeLike 8 = .ok (.iconst 0, 1) := by decide +kernel
theorem dX5_becomeLike_9 : decode cX5_becomeLike 9 = .ok (.istore_n 2, 1) := by decide +kernel
theorem dX5_becomeLike_10 : decode cX5_becomeLike 10 = .ok (.iload_n 2, 1) := by decide +kernel
theorem dX5_becomeLike_11 : decode cX5_becomeLike 11 = .ok (.iconst 4, 1) := by decide +kernel
theorem dX5_becomeLike_12 : decode cX5_becomeLike 12 = .ok (.if_icmp .ge 30, 3) := by decide +kernel
theorem dX5_becomeLike_15 : decode cX5_becomeLike 15 = .ok (.aload_n 1, 1) := by decide +kernel
theorem dX5_becomeLike_16 : decode cX5_becomeLike 16 = .ok (.getfield 11, 3) := by decide +kernel
theorem dX5_becomeLike_19 : decode cX5_becomeLike 19 = .ok (.iload_n 2, 1) := by decide +kernel
theorem dX5_becomeLike_20 : decode cX5_becomeLike 20 = .ok (.aaload, 1) := by decide +kernel
theorem dX5_becomeLike_21 : decode cX5_becomeLike 21 = .ok (.iconst 0, 1) := by decide +kernel
theorem dX5_becomeLike_22 : decode cX5_becomeLike 22 = .ok (.aload_n 0, 1) := by decide +kernel
theorem dX5_becomeLike_23 : decode cX5_becomeLike 23 = .ok (.getfield 11, 3) := by decide +kernel
theorem dX5_becomeLike_26 : decode cX5_becomeLike 26 = .ok (.iload_n 2, 1) := by decide +kernel
theorem dX5_becomeLike_27 : decode cX5_becomeLike 27 = .ok (.aaload, 1) := by decide +kernel
theorem dX5_becomeLike_28 : decode cX5_becomeLike 28 = .ok (.iconst 0, 1) := by decide +kernel
theorem dX5_becomeLike_29 : decode cX5_becomeLike 29 = .ok (.aload_n 0, 1) := by decide +kernel
theorem dX5_becomeLike_30 : decode cX5_becomeLike 30 = .ok (.getfield 16, 3) := by decide +kernel
theorem dX5_becomeLike_33 : decode cX5_becomeLike 33 = .ok (.invokestatic 29, 3) := by decide +kernel
theorem dX5_becomeLike_36 : decode cX5_becomeLike 36 = .ok (.iinc 2 1, 3) := by decide +kernel
theorem dX5_becomeLike_39 : decode cX5_becomeLike 39 = .ok (.goto (-29), 3) := by decide +kernel
theorem dX5_becomeLike_42 : decode cX5_becomeLike 42 = .ok (.return_, 1) := by decide +kernel
theorem dX5_takes_0 : decode cX5_takes 0 = .ok (.aload_n 0, 1) := by decide +kernel
theorem dX5_takes_1 : decode cX5_takes 1 = .ok (.iload_n 1, 1) := by decide +kernel
theorem dX5_takes_2 : decode cX5_takes 2 = .ok (.invokevirtual 20, 3) := by decide +kernel
theorem dX5_takes_5 : decode cX5_takes 5 = .ok (.ifCond .ne 5, 3) := by decide +kernel
theorem dX5_takes_8 : decode cX5_takes 8 = .ok (.iconst 0, 1) := by decide +kernel
theorem dX5_takes_9 : decode cX5_takes 9 = .ok (.ireturn, 1) := by decide +kernel
theorem dX5_takes_10 : decode cX5_takes 10 = .ok (.iload_n 2, 1) := by decide +kernel
theorem dX5_takes_11 : decode cX5_takes 11 = .ok (.tableswitch 72 0 2 #[25, 36, 44], 25) := by decide +kernel
theorem dX5_takes_36 : decode cX5_takes 36 = .ok (.iload_n 3, 1) := by decide +kernel
theorem dX5_takes_37 : decode cX5_takes 37 = .ok (.sipush (-1000), 3) := by decide +kernel
theorem dX5_takes_40 : decode cX5_takes 40 = .ok (.sipush 1000, 3) := by decide +kernel
theorem dX5_takes_43 : decode cX5_takes 43 = .ok (.invokestatic 24, 3) := by decide +kernel
theorem dX5_takes_46 : decode cX5_takes 46 = .ok (.ireturn, 1) := by decide +kernel
theorem dX5_takes_47 : decode cX5_takes 47 = .ok (.iload_n 3, 1) := by decide +kernel
theorem dX5_takes_48 : decode cX5_takes 48 = .ok (.iconst 0, 1) := by decide +kernel
theorem dX5_takes_49 : decode cX5_takes 49 = .ok (.bipush 20, 2) := by decide +kernel
theorem dX5_takes_51 : decode cX5_takes 51 = .ok (.invokestatic 24, 3) := by decide +kernel
theorem dX5_takes_54 : decode cX5_takes 54 = .ok (.ireturn, 1) := by decide +kernel
theorem dX5_takes_55 : decode cX5_takes 55 = .ok (.iload_n 3, 1) := by decide +kernel
theorem dX5_takes_56 : decode cX5_takes 56 = .ok (.iconst (-1), 1) := by decide +kernel
theorem dX5_takes_57 : decode cX5_takes 57 = .ok (.if_icmp .eq 20, 3) := by decide +kernel
theorem dX5_takes_60 : decode cX5_takes 60 = .ok (.aload_n 0, 1) := by decide +kernel
theorem dX5_takes_61 : decode cX5_takes 61 = .ok (.iload_n 3, 1) := by decide +kernel
theorem dX5_takes_62 : decode cX5_takes 62 = .ok (.invokevirtual 20, 3) := by decide +kernel
theorem dX5_takes_65 : decode cX5_takes 65 = .ok (.ifCond .eq 16, 3) := by decide +kernel
theorem dX5_takes_68 : decode cX5_takes 68 = .ok (.aload_n 0, 1) := by decide +kernel
theorem dX5_takes_69 : decode cX5_takes 69 = .ok (.iload_n 3, 1) := by decide +kernel
theorem dX5_takes_70 : decode cX5_takes 70 = .ok (.iload_n 1, 1) := by decide +kernel
theorem dX5_takes_71 : decode cX5_takes 71 = .ok (.invokevirtual 35, 3) := by decide +kernel
theorem dX5_takes_74 : decode cX5_takes 74 = .ok (.ifCond .ne 7, 3) := by decide +kernel
theorem dX5_takes_77 : decode cX5_takes 77 = .ok (.iconst 1, 1) := by decide +kernel
theorem dX5_takes_78 : decode cX5_takes 78 = .ok (.goto 4, 3) := by decide +kernel
theorem dX5_takes_81 : decode cX5_takes 81 = .ok (.iconst 0, 1) := by decide +kernel
theorem dX5_takes_82 : decode cX5_takes 82 = .ok (.ireturn, 1) := by decide +kernel
theorem dX5_takes_83 : decode cX5_takes 83 = .ok (.iconst 0, 1) := by decide +kernel
theorem dX5_takes_84 : decode cX5_takes 84 = .ok (.ireturn, 1) := by decide +kernel
theorem dX5_leads_0 : decode cX5_leads 0 = .ok (.iload_n 1, 1) := by decide +kernel
theorem dX5_leads_1 : decode cX5_leads 1 = .ok (.istore_n 3, 1) := by decide +kernel
theorem dX5_leads_2 : decode cX5_leads 2 = .ok (.iconst 0, 1) := by decide +kernel
theorem dX5_leads_3 : decode cX5_leads 3 = .ok (.istore 4, 2) := by decide +kernel
theorem dX5_leads_5 : decode cX5_leads 5 = .ok (.iload 4, 2) := by decide +kernel
theorem dX5_leads_7 : decode cX5_leads 7 = .ok (.aload_n 0, 1) := by decide +kernel
theorem dX5_leads_8 : decode cX5_leads 8 = .ok (.getfield 16, 3) := by decide +kernel
theorem dX5_leads_11 : decode cX5_leads 11 = .ok (.if_icmp .ge 33, 3) := by decide +kernel
theorem dX5_leads_14 : decode cX5_leads 14 = .ok (.aload_n 0, 1) := by decide +kernel
theorem dX5_leads_15 : decode cX5_leads 15 = .ok (.iload_n 3, 1) := by decide +kernel
theorem dX5_leads_16 : decode cX5_leads 16 = .ok (.invokevirtual 20, 3) := by decide +kernel
theorem dX5_leads_19 : decode cX5_leads 19 = .ok (.ifCond .eq 25, 3) := by decide +kernel
theorem dX5_leads_22 : decode cX5_leads 22 = .ok (.iload_n 3, 1) := by decide +kernel
theorem dX5_leads_23 : decode cX5_leads 23 = .ok (.iload_n 2, 1) := by decide +kernel
theorem dX5_leads_24 : decode cX5_leads 24 = .ok (.if_icmp .ne 5, 3) := by decide +kernel
theorem dX5_leads_27 : decode cX5_leads 27 = .ok (.iconst 1, 1) := by decide +kernel
theorem dX5_leads_28 : decode cX5_leads 28 = .ok (.ireturn, 1) := by decide +kernel
theorem dX5_leads_29 : decode cX5_leads 29 = .ok (.aload_n 0, 1) := by decide +kernel
theorem dX5_leads_30 : decode cX5_leads 30 = .ok (.getfield 11, 3) := by decide +kernel
theorem dX5_leads_33 : decode cX5_leads 33 = .ok (.iconst 2, 1) := by decide +kernel
theorem dX5_leads_34 : decode cX5_leads 34 = .ok (.aaload, 1) := by decide +kernel
theorem dX5_leads_35 : decode cX5_leads 35 = .ok (.iload_n 3, 1) := by decide +kernel
theorem dX5_leads_36 : decode cX5_leads 36 = .ok (.iaload, 1) := by decide +kernel
theorem dX5_leads_37 : decode cX5_leads 37 = .ok (.istore_n 3, 1) := by decide +kernel
theorem dX5_leads_38 : decode cX5_leads 38 = .ok (.iinc 4 1, 3) := by decide +kernel
theorem dX5_leads_41 : decode cX5_leads 41 = .ok (.goto (-36), 3) := by decide +kernel
theorem dX5_leads_44 : decode cX5_leads 44 = .ok (.iconst 0, 1) := by decide +kernel
theorem dX5_leads_45 : decode cX5_leads 45 = .ok (.ireturn, 1) := by decide +kernel
theorem dX5_put_0 : decode cX5_put 0 = .ok (.aload_n 0, 1) := by decide +kernel
theorem dX5_put_1 : decode cX5_put 1 = .ok (.getfield 11, 3) := by decide +kernel
theorem dX5_put_4 : decode cX5_put 4 = .ok (.iload_n 2, 1) := by decide +kernel
theorem dX5_put_5 : decode cX5_put 5 = .ok (.aaload, 1) := by decide +kernel
theorem dX5_put_6 : decode cX5_put 6 = .ok (.iload_n 1, 1) := by decide +kernel
theorem dX5_put_7 : decode cX5_put 7 = .ok (.iload_n 3, 1) := by decide +kernel
theorem dX5_put_8 : decode cX5_put 8 = .ok (.iastore, 1) := by decide +kernel
theorem dX5_put_9 : decode cX5_put 9 = .ok (.aload_n 0, 1) := by decide +kernel
theorem dX5_put_10 : decode cX5_put 10 = .ok (.getfield 11, 3) := by decide +kernel
theorem dX5_put_13 : decode cX5_put 13 = .ok (.iconst 2, 1) := by decide +kernel
theorem dX5_put_14 : decode cX5_put 14 = .ok (.aaload, 1) := by decide +kernel
theorem dX5_put_15 : decode cX5_put 15 = .ok (.iload_n 1, 1) := by decide +kernel
theorem dX5_put_16 : decode cX5_put 16 = .ok (.iaload, 1) := by decide +kernel
theorem dX5_put_17 : decode cX5_put 17 = .ok (.istore 4, 2) := by decide +kernel
theorem dX5_put_19 : decode cX5_put 19 = .ok (.aload_n 0, 1) := by decide +kernel
theorem dX5_put_20 : decode cX5_put 20 = .ok (.getfield 11, 3) := by decide +kernel
theorem dX5_put_23 : decode cX5_put 23 = .ok (.iconst 0, 1) := by decide +kernel
theorem dX5_put_24 : decode cX5_put 24 = .ok (.aaload, 1) := by decide +kernel
theorem dX5_put_25 : decode cX5_put 25 = .ok (.iload_n 1, 1) := by decide +kernel
theorem dX5_put_26 : decode cX5_put 26 = .ok (.iaload, 1) := by decide +kernel
theorem dX5_put_27 : decode cX5_put 27 = .ok (.aload_n 0, 1) := by decide +kernel
theorem dX5_put_28 : decode cX5_put 28 = .ok (.iload 4, 2) := by decide +kernel
theorem dX5_put_30 : decode cX5_put 30 = .ok (.invokevirtual 20, 3) := by decide +kernel
theorem dX5_put_33 : decode cX5_put 33 = .ok (.ifCond .eq 15, 3) := by decide +kernel
theorem dX5_put_36 : decode cX5_put 36 = .ok (.aload_n 0, 1) := by decide +kernel
theorem dX5_put_37 : decode cX5_put 37 = .ok (.getfield 11, 3) := by decide +kernel
theorem dX5_put_40 : decode cX5_put 40 = .ok (.iconst 3, 1) := by decide +kernel
theorem dX5_put_41 : decode cX5_put 41 = .ok (.aaload, 1) := by decide +kernel
theorem dX5_put_42 : decode cX5_put 42 = .ok (.iload 4, 2) := by decide +kernel
theorem dX5_put_44 : decode cX5_put 44 = .ok (.iaload, 1) := by decide +kernel
theorem dX5_put_45 : decode cX5_put 45 = .ok (.goto 4, 3) := by decide +kernel
theorem dX5_put_48 : decode cX5_put 48 = .ok (.iconst 0, 1) := by decide +kernel
theorem dX5_put_49 : decode cX5_put 49 = .ok (.iadd, 1) := by decide +kernel
theorem dX5_put_50 : decode cX5_put 50 = .ok (.istore 5, 2) := by decide +kernel
theorem dX5_put_52 : decode cX5_put 52 = .ok (.iload 5, 2) := by decide +kernel
theorem dX5_put_54 : decode cX5_put 54 = .ok (.aload_n 0, 1) := by decide +kernel
theorem dX5_put_55 : decode cX5_put 55 = .ok (.getfield 11, 3) := by decide +kernel
theorem dX5_put_58 : decode cX5_put 58 = .ok (.iconst 3, 1) := by decide +kernel
theorem dX5_put_59 : decode cX5_put 59 = .ok (.aaload, 1) := by decide +kernel
theorem dX5_put_60 : decode cX5_put 60 = .ok (.iload_n 1, 1) := by decide +kernel
theorem dX5_put_61 : decode cX5_put 61 = .ok (.iaload, 1) := by decide +kernel
theorem dX5_put_62 : decode cX5_put 62 = .ok (.isub, 1) := by decide +kernel
theorem dX5_put_63 : decode cX5_put 63 = .ok (.istore 6, 2) := by decide +kernel
theorem dX5_put_65 : decode cX5_put 65 = .ok (.iconst 0, 1) := by decide +kernel
theorem dX5_put_66 : decode cX5_put 66 = .ok (.istore 7, 2) := by decide +kernel
theorem dX5_put_68 : decode cX5_put 68 = .ok (.iload 7, 2) := by decide +kernel
theorem dX5_put_70 : decode cX5_put 70 = .ok (.aload_n 0, 1) := by decide +kernel
theorem dX5_put_71 : decode cX5_put 71 = .ok (.getfield 16, 3) := by decide +kernel
theorem dX5_put_74 : decode cX5_put 74 = .ok (.if_icmp .ge 38, 3) := by decide +kernel
theorem dX5_put_77 : decode cX5_put 77 = .ok (.iload 6, 2) := by decide +kernel
theorem dX5_put_79 : decode cX5_put 79 = .ok (.ifCond .eq 33, 3) := by decide +kernel
theorem dX5_put_82 : decode cX5_put 82 = .ok (.aload_n 0, 1) := by decide +kernel
theorem dX5_put_83 : decode cX5_put 83 = .ok (.iload 7, 2) := by decide +kernel
theorem dX5_put_85 : decode cX5_put 85 = .ok (.iload_n 1, 1) := by decide +kernel
theorem dX5_put_86 : decode cX5_put 86 = .ok (.invokevirtual 35, 3) := by decide +kernel
theorem dX5_put_89 : decode cX5_put 89 = .ok (.ifCond .eq 17, 3) := by decide +kernel
theorem dX5_put_92 : decode cX5_put 92 = .ok (.aload_n 0, 1) := by decide +kernel
theorem dX5_put_93 : decode cX5_put 93 = .ok (.getfield 11, 3) := by decide +kernel
theorem dX5_put_96 : decode cX5_put 96 = .ok (.iconst 3, 1) := by decide +kernel
theorem dX5_put_97 : decode cX5_put 97 = .ok (.aaload, 1) := by decide +kernel
theorem dX5_put_98 : decode cX5_put 98 = .ok (.iload 7, 2) := by decide +kernel
theorem dX5_put_100 : decode cX5_put 100 = .ok (.dup2, 1) := by decide +kernel
theorem dX5_put_101 : decode cX5_put 101 = .ok (.iaload, 1) := by decide +kernel
theorem dX5_put_102 : decode cX5_put 102 = .ok (.iload 6, 2) := by decide +kernel
theorem dX5_put_104 : decode cX5_put 104 = .ok (.iadd, 1) := by decide +kernel
theorem dX5_put_105 : decode cX5_put 105 = .ok (.iastore, 1) := by decide +kernel
theorem dX5_put_106 : decode cX5_put 106 = .ok (.iinc 7 1, 3) := by decide +kernel
theorem dX5_put_109 : decode cX5_put 109 = .ok (.goto (-41), 3) := by decide +kernel
theorem dX5_put_112 : decode cX5_put 112 = .ok (.return_, 1) := by decide +kernel
theorem dX5_countOther_0 : decode cX5_countOther 0 = .ok (.iconst 0, 1) := by decide +kernel
theorem dX5_countOther_1 : decode cX5_countOther 1 = .ok (.istore_n 2, 1) := by decide +kernel
theorem dX5_countOther_2 : decode cX5_countOther 2 = .ok (.iconst 0, 1) := by decide +kernel
theorem dX5_countOther_3 : decode cX5_countOther 3 = .ok (.istore_n 3, 1) := by decide +kernel
theorem dX5_countOther_4 : decode cX5_countOther 4 = .ok (.iload_n 3, 1) := by decide +kernel
theorem dX5_countOther_5 : decode cX5_countOther 5 = .ok (.iconst 4, 1) := by decide +kernel
theorem dX5_countOther_6 : decode cX5_countOther 6 = .ok (.if_icmp .ge 59, 3) := by decide +kernel
theorem dX5_countOther_9 : decode cX5_countOther 9 = .ok (.iconst 0, 1) := by decide +kernel
theorem dX5_countOther_10 : decode cX5_countOther 10 = .ok (.istore 4, 2) := by decide +kernel
theorem dX5_countOther_12 : decode cX5_countOther 12 = .ok (.iload 4, 2) := by decide +kernel
theorem dX5_countOther_14 : decode cX5_countOther 14 = .ok (.aload_n 0, 1) := by decide +kernel
theorem dX5_countOther_15 : decode cX5_countOther 15 = .ok (.getfield 16, 3) := by decide +kernel
theorem dX5_countOther_18 : decode cX5_countOther 18 = .ok (.if_icmp .ge 41, 3) := by decide +kernel
theorem dX5_countOther_21 : decode cX5_countOther 21 = .ok (.iload_n 2, 1) := by decide +kernel
theorem dX5_countOther_22 : decode cX5_countOther 22 = .ok (.aload_n 0, 1) := by decide +kernel
theorem dX5_countOther_23 : decode cX5_countOther 23 = .ok (.getfield 11, 3) := by decide +kernel
theorem dX5_countOther_26 : decode cX5_countOther 26 = .ok (.iload_n 3, 1) := by decide +kernel
theorem dX5_countOther_27 : decode cX5_countOther 27 = .ok (.aaload, 1) := by decide +kernel
theorem dX5_countOther_28 : decode cX5_countOther 28 = .ok (.iload 4, 2) := by decide +kernel
theorem dX5_countOther_30 : decode cX5_countOther 30 = .ok (.iaload, 1) := by decide +kernel
theorem dX5_countOther_31 : decode cX5_countOther 31 = .ok (.aload_n 1, 1) := by decide +kernel
theorem dX5_countOther_32 : decode cX5_countOther 32 = .ok (.getfield 11, 3) := by decide +kernel
theorem dX5_countOther_35 : decode cX5_countOther 35 = .ok (.iload_n 3, 1) := by decide +kernel
theorem dX5_countOther_36 : decode cX5_countOther 36 = .ok (.aaload, 1) := by decide +kernel
theorem dX5_countOther_37 : decode cX5_countOther 37 = .ok (.iload 4, 2) := by decide +kernel
theorem dX5_countOther_39 : decode cX5_countOther 39 = .ok (.iaload, 1) := by decide +kernel
theorem dX5_countOther_40 : decode cX5_countOther 40 = .ok (.if_icmp .eq 7, 3) := by decide +kernel
theorem dX5_countOther_43 : decode cX5_countOther 43 = .ok (.iconst 1, 1) := by decide +kernel
theorem dX5_countOther_44 : decode cX5_countOther 44 = .ok (.goto 4, 3) := by decide +kernel
theorem dX5_countOther_47 : decode cX5_countOther 47 = .ok (.iconst 0, 1) := by decide +kernel
theorem dX5_countOther_48 : decode cX5_countOther 48 = .ok (.invokestatic 39, 3) := by decide +kernel
theorem dX5_countOther_51 : decode cX5_countOther 51 = .ok (.iadd, 1) := by decide +kernel
theorem dX5_countOther_52 : decode cX5_countOther 52 = .ok (.istore_n 2, 1) := by decide +kernel
theorem dX5_countOther_53 : decode cX5_countOther 53 = .ok (.iinc 4 1, 3) := by decide +kernel
theorem dX5_countOther_56 : decode cX5_countOther 56 = .ok (.goto (-44), 3) := by decide +kernel
theorem dX5_countOther_59 : decode cX5_countOther 59 = .ok (.iinc 3 1, 3) := by decide +kernel
theorem dX5_countOther_62 : decode cX5_countOther 62 = .ok (.goto (-58), 3) := by decide +kernel
theorem dX5_countOther_65 : decode cX5_countOther 65 = .ok (.iload_n 2, 1) := by decide +kernel
theorem dX5_countOther_66 : decode cX5_countOther 66 = .ok (.ireturn, 1) := by decide +kernel
theorem dX6_init_0 : decode cX6_init 0 = .ok (.aload_n 0, 1) := by decide +kernel
theorem dX6_init_1 : decode cX6_init 1 = .ok (.invokespecial 1, 3) := by decide +kernel
theorem dX6_init_4 : decode cX6_init 4 = .ok (.new 7, 3) := by decide +kernel
theorem dX6_init_7 : decode cX6_init 7 = .ok (.dup, 1) := by decide +kernel
theorem dX6_init_8 : decode cX6_init 8 = .ok (.invokespecial 9, 3) := by decide +kernel
theorem dX6_init_11 : decode cX6_init 11 = .ok (.astore_n 1, 1) := by decide +kernel
theorem dX6_init_12 : decode cX6_init 12 = .ok (.aload_n 0, 1) := by decide +kernel
theorem dX6_init_13 : decode cX6_init 13 = .ok (.aload_n 1, 1) := by decide +kernel
theorem dX6_init_14 : decode cX6_init 14 = .ok (.putfield 10, 3) := by decide +kernel
theorem dX6_init_17 : decode cX6_init 17 = .ok (.aload_n 0, 1) := by decide +kernel
theorem dX6_init_18 : decode cX6_init 18 = .ok (.iconst 4, 1) := by decide +kernel
theorem dX6_init_19 : decode cX6_init 19 = .ok (.anewarray 16, 3) := by decide +kernel
theorem dX6_init_22 : decode cX6_init 22 = .ok (.putfield 18, 3) := by decide +kernel
theorem dX6_init_25 : decode cX6_init 25 = .ok (.aload_n 0, 1) := by decide +kernel
theorem dX6_init_26 : decode cX6_init 26 = .ok (.getfield 18, 3) := by decide +kernel
theorem dX6_init_29 : decode cX6_init 29 = .ok (.iconst 0, 1) := by decide +kernel
theorem dX6_init_30 : decode cX6_init 30 = .ok (.new 16, 3) := by decide +kernel
theorem dX6_init_33 : decode cX6_init 33 = .ok (.dup, 1) := by decide +kernel
theorem dX6_init_34 : decode cX6_init 34 = .ok (.aload_n 1, 1) := by decide +kernel
theorem dX6_init_35 : decode cX6_init 35 = .ok (.invokespecial 22, 3) := by decide +kernel
theorem dX6_init_38 : decode cX6_init 38 = .ok (.aastore, 1) := by decide +kernel
theorem dX6_init_39 : decode cX6_init 39 = .ok (.aload_n 0, 1) := by decide +kernel
theorem dX6_init_40 : decode cX6_init 40 = .ok (.iconst 1, 1) := by decide +kernel
theorem dX6_init_41 : decode cX6_init 41 = .ok (.putfield 25, 3) := by decide +kernel
theorem dX6_init_44 : decode cX6_init 44 = .ok (.aload_n 0, 1) := by decide +kernel
theorem dX6_init_45 : decode cX6_init 45 = .ok (.bipush 20, 2) := by decide +kernel
theorem dX6_init_47 : decode cX6_init 47 = .ok (.anewarray 29, 3) := by decide +kernel
theorem dX6_init_50 : decode cX6_init 50 = .ok (.putfield 31, 3) := by decide +kernel
theorem dX6_init_53 : decode cX6_init 53 = .ok (.return_, 1) := by decide +kernel
theorem dX6_object_0 : decode cX6_object 0 = .ok (.aload_n 0, 1) := by decide +kernel
theorem dX6_object_1 : decode cX6_object 1 = .ok (.invokevirtual 35, 3) := by decide +kernel
theorem dX6_object_4 : decode cX6_object 4 = .ok (.ifCond .eq 6, 3) := by decide +kernel
theorem dX6_object_7 : decode cX6_object 7 = .ok (.bipush (-3), 2) := by decide +kernel
theorem dX6_object_9 : decode cX6_object 9 = .ok (.ireturn, 1) := by decide +kernel
theorem dX6_object_10 : decode cX6_object 10 = .ok (.aload_n 0, 1) := by decide +kernel
theorem dX6_object_11 : decode cX6_object 11 = .ok (.getfield 18, 3) := by decide +kernel
theorem dX6_object_14 : decode cX6_object 14 = .ok (.iconst 0, 1) := by decide +kernel
theorem dX6_object_15 : decode cX6_object 15 = .ok (.aaload, 1) := by decide +kernel
theorem dX6_object_16 : decode cX6_object 16 = .ok (.getfield 39, 3) := by decide +kernel
theorem dX6_object_19 : decode cX6_object 19 = .ok (.getfield 43, 3) := by decide +kernel
theorem dX6_object_22 : decode cX6_object 22 = .ok (.bipush 40, 2) := by decide +kernel
theorem dX6_object_24 : decode cX6_object 24 = .ok (.if_icmp .lt 8, 3) := by decide +kernel
theorem dX6_object_27 : decode cX6_object 27 = .ok (.bipush (-4), 2) := by decide +kernel
theorem dX6_object_29 : decode cX6_object 29 = .ok (.goto 12, 3) := by decide +kernel
theorem dX6_object_32 : decode cX6_object 32 = .ok (.aload_n 0, 1) := by decide +kernel
theorem dX6_object_33 : decode cX6_object 33 = .ok (.getfield 18, 3) := by decide +kernel
theorem dX6_object_36 : decode cX6_object 36 = .ok (.iconst 0, 1) := by decide +kernel
theorem dX6_object_37 : decode cX6_object 37 = .ok (.aaload, 1) := by decide +kernel
theorem dX6_object_38 : decode cX6_object 38 = .ok (.invokevirtual 48, 3) := by decide +kernel
theorem dX6_object_41 : decode cX6_object 41 = .ok (.ireturn, 1) := by decide +kernel
theorem dX6_rule_0 : decode cX6_rule 0 = .ok (.iload_n 1, 1) := by decide +kernel
theorem dX6_rule_1 : decode cX6_rule 1 = .ok (.iload_n 2, 1) := by decide +kernel
theorem dX6_rule_2 : decode cX6_rule 2 = .ok (.iload_n 3, 1) := by decide +kernel
theorem dX6_rule_3 : decode cX6_rule 3 = .ok (.iload 4, 2) := by decide +kernel
theorem dX6_rule_5 : decode cX6_rule 5 = .ok (.iload 5, 2) := by decide +kernel
theorem dX6_rule_7 : decode cX6_rule 7 = .ok (.invokestatic 52, 3) := by decide +kernel
theorem dX6_rule_10 : decode cX6_rule 10 = .ok (.ifCond .ne 5, 3) := by decide +kernel
theorem dX6_rule_13 : decode cX6_rule 13 = .ok (.iconst (-1), 1) := by decide +kernel
theorem dX6_rule_14 : decode cX6_rule 14 = .ok (.ireturn, 1) := by decide +kernel
theorem dX6_rule_15 : decode cX6_rule 15 = .ok (.aload_n 0, 1) := by decide +kernel
theorem dX6_rule_16 : decode cX6_rule 16 = .ok (.invokevirtual 35, 3) := by decide +kernel
theorem dX6_rule_19 : decode cX6_rule 19 = .ok (.ifCond .eq 6, 3) := by decide +kernel
theorem dX6_rule_22 : decode cX6_rule 22 = .ok (.bipush (-3), 2) := by decide +kernel
theorem dX6_rule_24 : decode cX6_rule 24 = .ok (.ireturn, 1) := by decide +kernel
theorem dX6_rule_25 : decode cX6_rule 25 = .ok (.aload_n 0, 1) := by decide +kernel
theorem dX6_rule_26 : decode cX6_rule 26 = .ok (.getfield 10, 3) := by decide +kernel
theorem dX6_rule_29 : decode cX6_rule 29 = .ok (.getfield 56, 3) := by decide +kernel
theorem dX6_rule_32 : decode cX6_rule 32 = .ok (.bipush 12, 2) := by decide +kernel
theorem dX6_rule_34 : decode cX6_rule 34 = .ok (.if_icmp .lt 6, 3) := by decide +kernel
theorem dX6_rule_37 : decode cX6_rule 37 = .ok (.bipush (-4), 2) := by decide +kernel
theorem dX6_rule_39 : decode cX6_rule 39 = .ok (.ireturn, 1) := by decide +kernel
theorem dX6_rule_40 : decode cX6_rule 40 = .ok (.aload_n 0, 1) := by decide +kernel
theorem dX6_rule_41 : decode cX6_rule 41 = .ok (.getfield 10, 3) := by decide +kernel
theorem dX6_rule_44 : decode cX6_rule 44 = .ok (.new 59, 3) := by decide +kernel
theorem dX6_rule_47 : decode cX6_rule 47 = .ok (.dup, 1) := by decide +kernel
theorem dX6_rule_48 : decode cX6_rule 48 = .ok (.iload_n 1, 1) := by decide +kernel
theorem dX6_rule_49 : decode cX6_rule 49 = .ok (.iload_n 2, 1) := by decide +kernel
theorem dX6_rule_50 : decode cX6_rule 50 = .ok (.iload_n 3, 1) := by decide +kernel
theorem dX6_rule_51 : decode cX6_rule 51 = .ok (.iload 4, 2) := by decide +kernel
theorem dX6_rule_53 : decode cX6_rule 53 = .ok (.iload 5, 2) := by decide +kernel
theorem dX6_rule_55 : decode cX6_rule 55 = .ok (.invokespecial 61, 3) := by decide +kernel
theorem dX6_rule_58 : decode cX6_rule 58 = .ok (.invokevirtual 64, 3) := by decide +kernel
theorem dX6_rule_61 : decode cX6_rule 61 = .ok (.istore 6, 2) := by decide +kernel
theorem dX6_rule_63 : decode cX6_rule 63 = .ok (.aload_n 0, 1) := by decide +kernel
theorem dX6_rule_64 : decode cX6_rule 64 = .ok (.getfield 18, 3) := by decide +kernel
theorem dX6_rule_67 : decode cX6_rule 67 = .ok (.iconst 0, 1) := by decide +kernel
theorem dX6_rule_68 : decode cX6_rule 68 = .ok (.aaload, 1) := by decide +kernel
theorem dX6_rule_69 : decode cX6_rule 69 = .ok (.getfield 68, 3) := by decide +kernel
theorem dX6_rule_72 : decode cX6_rule 72 = .ok (.iload 6, 2) := by decide +kernel
theorem dX6_rule_74 : decode cX6_rule 74 = .ok (.aload_n 0, 1) := by decide +kernel
theorem dX6_rule_75 : decode cX6_rule 75 = .ok (.getfield 18, 3) := by decide +kernel
theorem dX6_rule_78 : decode cX6_rule 78 = .ok (.iconst 0, 1) := by decide +kernel
theorem dX6_rule_79 : decode cX6_rule 79 = .ok (.aaload, 1) := by decide +kernel
theorem dX6_rule_80 : decode cX6_rule 80 = .ok (.iload 6, 2) := by decide +kernel
theorem dX6_rule_82 : decode cX6_rule 82 = .ok (.invokevirtual 72, 3) := by decide +kernel
theorem dX6_rule_85 : decode cX6_rule 85 = .ok (.lastore, 1) := by decide +kernel
theorem dX6_rule_86 : decode cX6_rule 86 = .ok (.iload 6, 2) := by decide +kernel
theorem dX6_rule_88 : decode cX6_rule 88 = .ok (.ireturn, 1) := by decide +kernel
theorem dX6_forget_0 : decode cX6_forget 0 = .ok (.aload_n 0, 1) := by decide +kernel
theorem dX6_forget_1 : decode cX6_forget 1 = .ok (.iload_n 1, 1) := by decide +kernel
theorem dX6_forget_2 : decode cX6_forget 2 = .ok (.invokevirtual 76, 3) := by decide +kernel
theorem dX6_forget_5 : decode cX6_forget 5 = .ok (.astore 4, 2) := by decide +kernel
theorem dX6_forget_7 : decode cX6_forget 7 = .ok (.aload 4, 2) := by decide +kernel
theorem dX6_forget_9 : decode cX6_forget 9 = .ok (.ifnull 14, 3) := by decide +kernel
theorem dX6_forget_12 : decode cX6_forget 12 = .ok (.aload_n 0, 1) := by decide +kernel
theorem dX6_forget_13 : decode cX6_forget 13 = .ok (.getfield 10, 3) := by decide +kernel
theorem dX6_forget_16 : decode cX6_forget 16 = .ok (.iload_n 2, 1) := by decide +kernel
theorem dX6_forget_17 : decode cX6_forget 17 = .ok (.invokevirtual 80, 3) := by decide +kernel
theorem dX6_forget_20 : decode cX6_forget 20 = .ok (.ifCond .ne 5, 3) := by decide +kernel
theorem dX6_forget_23 : decode cX6_forget 23 = .ok (.iconst (-1), 1) := by decide +kernel
theorem dX6_forget_24 : decode cX6_forget 24 = .ok (.ireturn, 1) := by decide +kernel
theorem dX6_forget_25 : decode cX6_forget 25 = .ok (.aload 4, 2) := by decide +kernel
theorem dX6_forget_27 : decode cX6_forget 27 = .ok (.getfield 84, 3) := by decide +kernel
theorem dX6_forget_30 : decode cX6_forget 30 = .ok (.iload_n 2, 1) := by decide +kernel
theorem dX6_forget_31 : decode cX6_forget 31 = .ok (.baload, 1) := by decide +kernel
theorem dX6_forget_32 : decode cX6_forget 32 = .ok (.istore 5, 2) := by decide +kernel
theorem dX6_forget_34 : decode cX6_forget 34 = .ok (.aload 4, 2) := by decide +kernel
theorem dX6_forget_36 : decode cX6_forget 36 = .ok (.getfield 84, 3) := by decide +kernel
theorem dX6_forget_39 : decode cX6_forget 39 = .ok (.iload_n 2, 1) := by decide +kernel
theorem dX6_forget_40 : decode cX6_forget 40 = .ok (.iload_n 3, 1) := by decide +kernel
theorem dX6_forget_41 : decode cX6_forget 41 = .ok (.bastore, 1) := by decide +kernel
theorem dX6_forget_42 : decode cX6_forget 42 = .ok (.iload 5, 2) := by decide +kernel
theorem dX6_forget_44 : decode cX6_forget 44 = .ok (.invokestatic 88, 3) := by decide +kernel
theorem dX6_forget_47 : decode cX6_forget 47 = .ok (.ireturn, 1) := by decide +kernel
theorem dX6_fork_0 : decode cX6_fork 0 = .ok (.aload_n 0, 1) := by decide +kernel
theorem dX6_fork_1 : decode cX6_fork 1 = .ok (.iload_n 1, 1) := by decide +kernel
theorem dX6_fork_2 : decode cX6_fork 2 = .ok (.invokevirtual 76, 3) := by decide +kernel
theorem dX6_fork_5 : decode cX6_fork 5 = .ok (.astore_n 2, 1) := by decide +kernel
theorem dX6_fork_6 : decode cX6_fork 6 = .ok (.aload_n 2, 1) := by decide +kernel
theorem dX6_fork_7 : decode cX6_fork 7 = .ok (.ifnonnull 5, 3) := by decide +kernel
theorem dX6_fork_10 : decode cX6_fork 10 = .ok (.iconst (-1), 1) := by decide +kernel
theorem dX6_fork_11 : decode cX6_fork 11 = .ok (.ireturn, 1) := by decide +kernel
theorem dX6_fork_12 : decode cX6_fork 12 = .ok (.aload_n 0, 1) := by decide +kernel
theorem dX6_fork_13 : decode cX6_fork 13 = .ok (.getfield 25, 3) := by decide +kernel
theorem dX6_fork_16 : decode cX6_fork 16 = .ok (.iconst 4, 1) := by decide +kernel
theorem dX6_fork_17 : decode cX6_fork 17 = .ok (.if_icmp .lt 6, 3) := by decide +kernel
theorem dX6_fork_20 : decode cX6_fork 20 = .ok (.bipush (-4), 2) := by decide +kernel
theorem dX6_fork_22 : decode cX6_fork 22 = .ok (.ireturn, 1) := by decide +kernel
theorem dX6_fork_23 : decode cX6_fork 23 = .ok (.new 16, 3) := by decide +kernel
theorem dX6_fork_26 : decode cX6_fork 26 = .ok (.dup, 1) := by decide +kernel
theorem dX6_fork_27 : decode cX6_fork 27 = .ok (.aload_n 0, 1) := by decide +kernel
theorem dX6_fork_28 : decode cX6_fork 28 = .ok (.getfield 10, 3) := by decide +kernel
theorem dX6_fork_31 : decode cX6_fork 31 = .ok (.invokespecial 22, 3) := by decide +kernel
theorem dX6_fork_34 : decode cX6_fork 34 = .ok (.astore_n 3, 1) := by decide +kernel
theorem dX6_fork_35 : decode cX6_fork 35 = .ok (.aload_n 3, 1) := by decide +kernel
theorem dX6_fork_36 : decode cX6_fork 36 = .ok (.aload_n 2, 1) := by decide +kernel
theorem dX6_fork_37 : decode cX6_fork 37 = .ok (.invokevirtual 92, 3) := by decide +kernel
theorem dX6_fork_40 : decode cX6_fork 40 = .ok (.aload_n 0, 1) := by decide +kernel
theorem dX6_fork_41 : decode cX6_fork 41 = .ok (.getfield 18, 3) := by decide +kernel
theorem dX6_fork_44 : decode cX6_fork 44 = .ok (.aload_n 0, 1) := by decide +kernel
theorem dX6_fork_45 : decode cX6_fork 45 = .ok (.getfield 25, 3) := by decide +kernel
theorem dX6_fork_48 : decode cX6_fork 48 = .ok (.aload_n 3, 1) := by decide +kernel
theorem dX6_fork_49 : decode cX6_fork 49 = .ok (.aastore, 1) := by decide +kernel
theorem dX6_fork_50 : decode cX6_fork 50 = .ok (.aload_n 0, 1) := by decide +kernel
theorem dX6_fork_51 : decode cX6_fork 51 = .ok (.dup, 1) := by decide +kernel
theorem dX6_fork_52 : decode cX6_fork 52 = .ok (.getfield 25, 3) := by decide +kernel
theorem dX6_fork_55 : decode cX6_fork 55 = .ok (.iconst 1, 1) := by decide +kernel
theorem dX6_fork_56 : decode cX6_fork 56 = .ok (.iadd, 1) := by decide +kernel
theorem dX6_fork_57 : decode cX6_fork 57 = .ok (.putfield 25, 3) := by decide +kernel
theorem dX6_fork_60 : decode cX6_fork 60 = .ok (.aload_n 0, 1) := by decide +kernel
theorem dX6_fork_61 : decode cX6_fork 61 = .ok (.getfield 25, 3) := by decide +kernel
theorem dX6_fork_64 : decode cX6_fork 64 = .ok (.iconst 1, 1) := by decide +kernel
theorem dX6_fork_65 : decode cX6_fork 65 = .ok (.isub, 1) := by decide +kernel
theorem dX6_fork_66 : decode cX6_fork 66 = .ok (.ireturn, 1) := by decide +kernel
theorem dX6_change_0 : decode cX6_change 0 = .ok (.aload_n 0, 1) := by decide +kernel
theorem dX6_change_1 : decode cX6_change 1 = .ok (.iload_n 1, 1) := by decide +kernel
theorem dX6_change_2 : decode cX6_change 2 = .ok (.invokevirtual 76, 3) := by decide +kernel
theorem dX6_change_5 : decode cX6_change 5 = .ok (.astore 5, 2) := by decide +kernel
theorem dX6_change_7 : decode cX6_change 7 = .ok (.aload 5, 2) := by decide +kernel
theorem dX6_change_9 : decode cX6_change 9 = .ok (.ifnonnull 7, 3) := by decide +kernel
theorem dX6_change_12 : decode cX6_change 12 = .ok (.iconst (-1), 1) := by decide +kernel
theorem dX6_change_13 : decode cX6_change 13 = .ok (.goto 16, 3) := by decide +kernel
theorem dX6_change_16 : decode cX6_change 16 = .ok (.aload 5, 2) := by decide +kernel
theorem dX6_change_18 : decode cX6_change 18 = .ok (.iload_n 2, 1) := by decide +kernel
theorem dX6_change_19 : decode cX6_change 19 = .ok (.iload_n 3, 1) := by decide +kernel
theorem dX6_change_20 : decode cX6_change 20 = .ok (.iload 4, 2) := by decide +kernel
theorem dX6_change_22 : decode cX6_change 22 = .ok (.aload_n 0, 1) := by decide +kernel
theorem dX6_change_23 : decode cX6_change 23 = .ok (.getfield 96, 3) := by decide +kernel
theorem dX6_change_26 : decode cX6_change 26 = .ok (.invokevirtual 99, 3) := by decide +kernel
theorem dX6_change_29 : decode cX6_change 29 = .ok (.ireturn, 1) := by decide +kernel
theorem dX6_attempt_0 : decode cX6_attempt 0 = .ok (.aload_n 0, 1) := by decide +kernel
theorem dX6_attempt_1 : decode cX6_attempt 1 = .ok (.iload_n 1, 1) := by decide +kernel
theorem dX6_attempt_2 : decode cX6_attempt 2 = .ok (.invokevirtual 76, 3) := by decide +kernel
theorem dX6_attempt_5 : decode cX6_attempt 5 = .ok (.astore 6, 2) := by decide +kernel
theorem dX6_attempt_7 : decode cX6_attempt 7 = .ok (.aload 6, 2) := by decide +kernel
theorem dX6_attempt_9 : decode cX6_attempt 9 = .ok (.ifnull 11, 3) := by decide +kernel
theorem dX6_attempt_12 : decode cX6_attempt 12 = .ok (.iload 5, 2) := by decide +kernel
theorem dX6_attempt_14 : decode cX6_attempt 14 = .ok (.invokestatic 103, 3) := by decide +kernel
theorem dX6_attempt_17 : decode cX6_attempt 17 = .ok (.ifCond .ne 9, 3) := by decide +kernel
theorem dX6_attempt_20 : decode cX6_attempt 20 = .ok (.ldc2_w 106, 3) := by decide +kernel
theorem dX6_attempt_23 : decode cX6_attempt 23 = .ok (.goto 14, 3) := by decide +kernel
theorem dX6_attempt_26 : decode cX6_attempt 26 = .ok (.aload 6, 2) := by decide +kernel
theorem dX6_attempt_28 : decode cX6_attempt 28 = .ok (.iload_n 2, 1) := by decide +kernel
theorem dX6_attempt_29 : decode cX6_attempt 29 = .ok (.iload_n 3, 1) := by decide +kernel
theorem dX6_attempt_30 : decode cX6_attempt 30 = .ok (.iload 4, 2) := by decide +kernel
theorem dX6_attempt_32 : decode cX6_attempt 32 = .ok (.iload 5, 2) := by decide +kernel
theorem dX6_attempt_34 : decode cX6_attempt 34 = .ok (.invokevirtual 108, 3) := by decide +kernel
theorem dX6_attempt_37 : decode cX6_attempt 37 = .ok (.lreturn, 1) := by decide +kernel
theorem dX6_undo_0 : decode cX6_undo 0 = .ok (.aload_n 0, 1) := by decide +kernel
theorem dX6_undo_1 : decode cX6_undo 1 = .ok (.iload_n 1, 1) := by decide +kernel
theorem dX6_undo_2 : decode cX6_undo 2 = .ok (.invokevirtual 76, 3) := by decide +kernel
theorem dX6_undo_5 : decode cX6_undo 5 = .ok (.astore_n 2, 1) := by decide +kernel
theorem dX6_undo_6 : decode cX6_undo 6 = .ok (.aload_n 2, 1) := by decide +kernel
theorem dX6_undo_7 : decode cX6_undo 7 = .ok (.ifnonnull 5, 3) := by decide +kernel
theorem dX6_undo_10 : decode cX6_undo 10 = .ok (.iconst (-1), 1) := by decide +kernel
theorem dX6_undo_11 : decode cX6_undo 11 = .ok (.ireturn, 1) := by decide +kernel
theorem dX6_undo_12 : decode cX6_undo 12 = .ok (.aload_n 2, 1) := by decide +kernel
theorem dX6_undo_13 : decode cX6_undo 13 = .ok (.invokevirtual 112, 3) := by decide +kernel
theorem dX6_undo_16 : decode cX6_undo 16 = .ok (.ifCond .ne 6, 3) := by decide +kernel
theorem dX6_undo_19 : decode cX6_undo 19 = .ok (.bipush (-3), 2) := by decide +kernel
theorem dX6_undo_21 : decode cX6_undo 21 = .ok (.ireturn, 1) := by decide +kernel
theorem dX6_undo_22 : decode cX6_undo 22 = .ok (.aload_n 2, 1) := by decide +kernel
theorem dX6_undo_23 : decode cX6_undo 23 = .ok (.invokevirtual 115, 3) := by decide +kernel
theorem dX6_undo_26 : decode cX6_undo 26 = .ok (.aload_n 2, 1) := by decide +kernel
theorem dX6_undo_27 : decode cX6_undo 27 = .ok (.getfield 118, 3) := by decide +kernel
theorem dX6_undo_30 : decode cX6_undo 30 = .ok (.getfield 122, 3) := by decide +kernel
theorem dX6_undo_33 : decode cX6_undo 33 = .ok (.ireturn, 1) := by decide +kernel
theorem dX6_begin_0 : decode cX6_begin 0 = .ok (.aload_n 0, 1) := by decide +kernel
theorem dX6_begin_1 : decode cX6_begin 1 = .ok (.iload_n 1, 1) := by decide +kernel
theorem dX6_begin_2 : decode cX6_begin 2 = .ok (.invokevirtual 76, 3) := by decide +kernel
theorem dX6_begin_5 : decode cX6_begin 5 = .ok (.astore_n 2, 1) := by decide +kernel
theorem dX6_begin_6 : decode cX6_begin 6 = .ok (.aload_n 2, 1) := by decide +kernel
theorem dX6_begin_7 : decode cX6_begin 7 = .ok (.ifnonnull 5, 3) := by decide +kernel
theorem dX6_begin_10 : decode cX6_begin 10 = .ok (.iconst (-1), 1) := by decide +kernel
theorem dX6_begin_11 : decode cX6_begin 11 = .ok (.ireturn, 1) := by decide +kernel
theorem dX6_begin_12 : decode cX6_begin 12 = .ok (.aload_n 2, 1) := by decide +kernel
theorem dX6_begin_13 : decode cX6_begin 13 = .ok (.getfield 127, 3) := by decide +kernel
theorem dX6_begin_16 : decode cX6_begin 16 = .ok (.ifCond .eq 6, 3) := by decide +kernel
theorem dX6_begin_19 : decode cX6_begin 19 = .ok (.bipush (-3), 2) := by decide +kernel
theorem dX6_begin_21 : decode cX6_begin 21 = .ok (.ireturn, 1) := by decide +kernel
theorem dX6_begin_22 : decode cX6_begin 22 = .ok (.aload_n 2, 1) := by decide +kernel
theorem dX6_begin_23 : decode cX6_begin 23 = .ok (.iconst 1, 1) := by decide +kernel
theorem dX6_begin_24 : decode cX6_begin 24 = .ok (.putfield 127, 3) := by decide +kernel
theorem dX6_begin_27 : decode cX6_begin 27 = .ok (.aload_n 2, 1) := by decide +kernel
theorem dX6_begin_28 : decode cX6_begin 28 = .ok (.iconst 0, 1) := by decide +kernel
theorem dX6_begin_29 : decode cX6_begin 29 = .ok (.putfield 131, 3) := by decide +kernel
theorem dX6_begin_32 : decode cX6_begin 32 = .ok (.aload_n 2, 1) := by decide +kernel
theorem dX6_begin_33 : decode cX6_begin 33 = .ok (.getfield 118, 3) := by decide +kernel
theorem dX6_begin_36 : decode cX6_begin 36 = .ok (.getfield 122, 3) := by decide +kernel
theorem dX6_begin_39 : decode cX6_begin 39 = .ok (.ireturn, 1) := by decide +kernel
theorem dX6_end_0 : decode cX6_end 0 = .ok (.aload_n 0, 1) := by decide +kernel
theorem dX6_end_1 : decode cX6_end 1 = .ok (.iload_n 1, 1) := by decide +kernel
theorem dX6_end_2 : decode cX6_end 2 = .ok (.invokevirtual 76, 3) := by decide +kernel
theorem dX6_end_5 : decode cX6_end 5 = .ok (.astore_n 3, 1) := by decide +kernel
theorem dX6_end_6 : decode cX6_end 6 = .ok (.aload_n 3, 1) := by decide +kernel
theorem dX6_end_7 : decode cX6_end 7 = .ok (.ifnonnull 5, 3) := by decide +kernel
theorem dX6_end_10 : decode cX6_end 10 = .ok (.iconst (-1), 1) := by decide +kernel
theorem dX6_end_11 : decode cX6_end 11 = .ok (.ireturn, 1) := by decide +kernel
theorem dX6_end_12 : decode cX6_end 12 = .ok (.aload_n 3, 1) := by decide +kernel
theorem dX6_end_13 : decode cX6_end 13 = .ok (.getfield 127, 3) := by decide +kernel
theorem dX6_end_16 : decode cX6_end 16 = .ok (.ifCond .eq 11, 3) := by decide +kernel
theorem dX6_end_19 : decode cX6_end 19 = .ok (.aload_n 3, 1) := by decide +kernel
theorem dX6_end_20 : decode cX6_end 20 = .ok (.iload_n 2, 1) := by decide +kernel
theorem dX6_end_21 : decode cX6_end 21 = .ok (.invokevirtual 134, 3) := by decide +kernel
theorem dX6_end_24 : decode cX6_end 24 = .ok (.goto 5, 3) := by decide +kernel
theorem dX6_end_27 : decode cX6_end 27 = .ok (.bipush (-3), 2) := by decide +kernel
theorem dX6_end_29 : decode cX6_end 29 = .ok (.ireturn, 1) := by decide +kernel
theorem dX6_member_0 : decode cX6_member 0 = .ok (.aload_n 0, 1) := by decide +kernel
theorem dX6_member_1 : decode cX6_member 1 = .ok (.iload_n 1, 1) := by decide +kernel
theorem dX6_member_2 : decode cX6_member 2 = .ok (.invokevirtual 76, 3) := by decide +kernel
theorem dX6_member_5 : decode cX6_member 5 = .ok (.astore 4, 2) := by decide +kernel
theorem dX6_member_7 : decode cX6_member 7 = .ok (.aload 4, 2) := by decide +kernel
theorem dX6_member_9 : decode cX6_member 9 = .ok (.ifnonnull 8, 3) := by decide +kernel
theorem dX6_member_12 : decode cX6_member 12 = .ok (.ldc 137, 2) := by decide +kernel
theorem dX6_member_14 : decode cX6_member 14 = .ok (.goto 13, 3) := by decide +kernel
theorem dX6_member_17 : decode cX6_member 17 = .ok (.aload 4, 2) := by decide +kernel
theorem dX6_member_19 : decode cX6_member 19 = .ok (.getfield 39, 3) := by decide +kernel
theorem dX6_member_22 : decode cX6_member 22 = .ok (.iload_n 2, 1) := by decide +kernel
theorem dX6_member_23 : decode cX6_member 23 = .ok (.iload_n 3, 1) := by decide +kernel
theorem dX6_member_24 : decode cX6_member 24 = .ok (.invokevirtual 138, 3) := by decide +kernel
theorem dX6_member_27 : decode cX6_member 27 = .ok (.ireturn, 1) := by decide +kernel
theorem dX6_score_0 : decode cX6_score 0 = .ok (.aload_n 0, 1) := by decide +kernel
theorem dX6_score_1 : decode cX6_score 1 = .ok (.iload_n 1, 1) := by decide +kernel
theorem dX6_score_2 : decode cX6_score 2 = .ok (.invokevirtual 76, 3) := by decide +kernel
theorem dX6_score_5 : decode cX6_score 5 = .ok (.astore_n 3, 1) := by decide +kernel
theorem dX6_score_6 : decode cX6_score 6 = .ok (.aload_n 3, 1) := by decide +kernel
theorem dX6_score_7 : decode cX6_score 7 = .ok (.ifnull 10, 3) := by decide +kernel
theorem dX6_score_10 : decode cX6_score 10 = .ok (.iload_n 2, 1) := by decide +kernel
theorem dX6_score_11 : decode cX6_score 11 = .ok (.invokestatic 103, 3) := by decide +kernel
theorem dX6_score_14 : decode cX6_score 14 = .ok (.ifCond .ne 9, 3) := by decide +kernel
theorem dX6_score_17 : decode cX6_score 17 = .ok (.ldc2_w 106, 3) := by decide +kernel
theorem dX6_score_20 : decode cX6_score 20 = .ok (.goto 8, 3) := by decide +kernel
theorem dX6_score_23 : decode cX6_score 23 = .ok (.aload_n 3, 1) := by decide +kernel
theorem dX6_score_24 : decode cX6_score 24 = .ok (.iload_n 2, 1) := by decide +kernel
theorem dX6_score_25 : decode cX6_score 25 = .ok (.invokevirtual 142, 3) := by decide +kernel
theorem dX6_score_28 : decode cX6_score 28 = .ok (.lreturn, 1) := by decide +kernel
theorem dX6_worth_0 : decode cX6_worth 0 = .ok (.aload_n 0, 1) := by decide +kernel
theorem dX6_worth_1 : decode cX6_worth 1 = .ok (.iload_n 1, 1) := by decide +kernel
theorem dX6_worth_2 : decode cX6_worth 2 = .ok (.invokevirtual 76, 3) := by decide +kernel
theorem dX6_worth_5 : decode cX6_worth 5 = .ok (.astore 4, 2) := by decide +kernel
theorem dX6_worth_7 : decode cX6_worth 7 = .ok (.aload 4, 2) := by decide +kernel
theorem dX6_worth_9 : decode cX6_worth 9 = .ok (.ifnull 23, 3) := by decide +kernel
theorem dX6_worth_12 : decode cX6_worth 12 = .ok (.aload_n 0, 1) := by decide +kernel
theorem dX6_worth_13 : decode cX6_worth 13 = .ok (.getfield 10, 3) := by decide +kernel
theorem dX6_worth_16 : decode cX6_worth 16 = .ok (.iload_n 2, 1) := by decide +kernel
theorem dX6_worth_17 : decode cX6_worth 17 = .ok (.invokevirtual 80, 3) := by decide +kernel
theorem dX6_worth_20 : decode cX6_worth 20 = .ok (.ifCond .eq 12, 3) := by decide +kernel
theorem dX6_worth_23 : decode cX6_worth 23 = .ok (.iload_n 3, 1) := by decide +kernel
theorem dX6_worth_24 : decode cX6_worth 24 = .ok (.iconst 0, 1) := by decide +kernel
theorem dX6_worth_25 : decode cX6_worth 25 = .ok (.iconst 1, 1) := by decide +kernel
theorem dX6_worth_26 : decode cX6_worth 26 = .ok (.invokestatic 145, 3) := by decide +kernel
theorem dX6_worth_29 : decode cX6_worth 29 = .ok (.ifCond .ne 7, 3) := by decide +kernel
theorem dX6_worth_32 : decode cX6_worth 32 = .ok (.ldc2_w 106, 3) := by decide +kernel
theorem dX6_worth_35 : decode cX6_worth 35 = .ok (.lreturn, 1) := by decide +kernel
theorem dX6_worth_36 : decode cX6_worth 36 = .ok (.iload_n 3, 1) := by decide +kernel
theorem dX6_worth_37 : decode cX6_worth 37 = .ok (.ifCond .ne 13, 3) := by decide +kernel
theorem dX6_worth_40 : decode cX6_worth 40 = .ok (.aload 4, 2) := by decide +kernel
theorem dX6_worth_42 : decode cX6_worth 42 = .ok (.getfield 68, 3) := by decide +kernel
theorem dX6_worth_45 : decode cX6_worth 45 = .ok (.iload_n 2, 1) := by decide +kernel
theorem dX6_worth_46 : decode cX6_worth 46 = .ok (.laload, 1) := by decide +kernel
theorem dX6_worth_47 : decode cX6_worth 47 = .ok (.goto 9, 3) := by decide +kernel
theorem dX6_worth_50 : decode cX6_worth 50 = .ok (.aload 4, 2) := by decide +kernel
theorem dX6_worth_52 : decode cX6_worth 52 = .ok (.iload_n 2, 1) := by decide +kernel
theorem dX6_worth_53 : decode cX6_worth 53 = .ok (.invokevirtual 72, 3) := by decide +kernel
theorem dX6_worth_56 : decode cX6_worth 56 = .ok (.lreturn, 1) := by decide +kernel
theorem dX6_check_0 : decode cX6_check 0 = .ok (.aload_n 0, 1) := by decide +kernel
theorem dX6_check_1 : decode cX6_check 1 = .ok (.iload_n 1, 1) := by decide +kernel
theorem dX6_check_2 : decode cX6_check 2 = .ok (.invokevirtual 76, 3) := by decide +kernel
theorem dX6_check_5 : decode cX6_check 5 = .ok (.astore_n 2, 1) := by decide +kernel
theorem dX6_check_6 : decode cX6_check 6 = .ok (.aload_n 2, 1) := by decide +kernel
theorem dX6_check_7 : decode cX6_check 7 = .ok (.ifnonnull 7, 3) := by decide +kernel
theorem dX6_check_10 : decode cX6_check 10 = .ok (.iconst (-1), 1) := by decide +kernel
theorem dX6_check_11 : decode cX6_check 11 = .ok (.goto 7, 3) := by decide +kernel
theorem dX6_check_14 : decode cX6_check 14 = .ok (.aload_n 2, 1) := by decide +kernel
theorem dX6_check_15 : decode cX6_check 15 = .ok (.invokevirtual 149, 3) := by decide +kernel
theorem dX6_check_18 : decode cX6_check 18 = .ok (.ireturn, 1) := by decide +kernel
theorem dX6_every_0 : decode cX6_every 0 = .ok (.iload_n 1, 1) := by decide +kernel
theorem dX6_every_1 : decode cX6_every 1 = .ok (.iconst 0, 1) := by decide +kernel
theorem dX6_every_2 : decode cX6_every 2 = .ok (.bipush 100, 2) := by decide +kernel
theorem dX6_every_4 : decode cX6_every 4 = .ok (.invokestatic 145, 3) := by decide +kernel
theorem dX6_every_7 : decode cX6_every 7 = .ok (.ifCond .ne 5, 3) := by decide +kernel
theorem dX6_every_10 : decode cX6_every 10 = .ok (.iconst (-1), 1) := by decide +kernel
theorem dX6_every_11 : decode cX6_every 11 = .ok (.ireturn, 1) := by decide +kernel
theorem dX6_every_12 : decode cX6_every 12 = .ok (.aload_n 0, 1) := by decide +kernel
theorem dX6_every_13 : decode cX6_every 13 = .ok (.getfield 96, 3) := by decide +kernel
theorem dX6_every_16 : decode cX6_every 16 = .ok (.istore_n 2, 1) := by decide +kernel
theorem dX6_every_17 : decode cX6_every 17 = .ok (.aload_n 0, 1) := by decide +kernel
theorem dX6_every_18 : decode cX6_every 18 = .ok (.iload_n 1, 1) := by decide +kernel
theorem dX6_every_19 : decode cX6_every 19 = .ok (.putfield 96, 3) := by decide +kernel
theorem dX6_every_22 : decode cX6_every 22 = .ok (.iload_n 2, 1) := by decide +kernel
theorem dX6_every_23 : decode cX6_every 23 = .ok (.ireturn, 1) := by decide +kernel
theorem dX6_mend_0 : decode cX6_mend 0 = .ok (.aload_n 0, 1) := by decide +kernel
theorem dX6_mend_1 : decode cX6_mend 1 = .ok (.iload_n 1, 1) := by decide +kernel
theorem dX6_mend_2 : decode cX6_mend 2 = .ok (.invokevirtual 76, 3) := by decide +kernel
theorem dX6_mend_5 : decode cX6_mend 5 = .ok (.astore_n 3, 1) := by decide +kernel
theorem dX6_mend_6 : decode cX6_mend 6 = .ok (.aload_n 3, 1) := by decide +kernel
theorem dX6_mend_7 : decode cX6_mend 7 = .ok (.ifnull 14, 3) := by decide +kernel
theorem dX6_mend_10 : decode cX6_mend 10 = .ok (.aload_n 0, 1) := by decide +kernel
theorem dX6_mend_11 : decode cX6_mend 11 = .ok (.getfield 10, 3) := by decide +kernel
theorem dX6_mend_14 : decode cX6_mend 14 = .ok (.iload_n 2, 1) := by decide +kernel
theorem dX6_mend_15 : decode cX6_mend 15 = .ok (.invokevirtual 80, 3) := by decide +kernel
theorem dX6_mend_18 : decode cX6_mend 18 = .ok (.ifCond .ne 5, 3) := by decide +kernel
theorem dX6_mend_21 : decode cX6_mend 21 = .ok (.iconst (-1), 1) := by decide +kernel
theorem dX6_mend_22 : decode cX6_mend 22 = .ok (.ireturn, 1) := by decide +kernel
theorem dX6_mend_23 : decode cX6_mend 23 = .ok (.aload_n 3, 1) := by decide +kernel
theorem dX6_mend_24 : decode cX6_mend 24 = .ok (.iload_n 2, 1) := by decide +kernel
theorem dX6_mend_25 : decode cX6_mend 25 = .ok (.invokevirtual 152, 3) := by decide +kernel
theorem dX6_mend_28 : decode cX6_mend 28 = .ok (.istore 4, 2) := by decide +kernel
theorem dX6_mend_30 : decode cX6_mend 30 = .ok (.aload_n 3, 1) := by decide +kernel
theorem dX6_mend_31 : decode cX6_mend 31 = .ok (.getfield 68, 3) := by decide +kernel
theorem dX6_mend_34 : decode cX6_mend 34 = .ok (.iload_n 2, 1) := by decide +kernel
theorem dX6_mend_35 : decode cX6_mend 35 = .ok (.aload_n 3, 1) := by decide +kernel
theorem dX6_mend_36 : decode cX6_mend 36 = .ok (.iload_n 2, 1) := by decide +kernel
theorem dX6_mend_37 : decode cX6_mend 37 = .ok (.invokevirtual 72, 3) := by decide +kernel
theorem dX6_mend_40 : decode cX6_mend 40 = .ok (.lastore, 1) := by decide +kernel
theorem dX6_mend_41 : decode cX6_mend 41 = .ok (.iload 4, 2) := by decide +kernel
theorem dX6_mend_43 : decode cX6_mend 43 = .ok (.invokestatic 88, 3) := by decide +kernel
theorem dX6_mend_46 : decode cX6_mend 46 = .ok (.ireturn, 1) := by decide +kernel
theorem dX6_keep_0 : decode cX6_keep 0 = .ok (.aload_n 0, 1) := by decide +kernel
theorem dX6_keep_1 : decode cX6_keep 1 = .ok (.iload_n 1, 1) := by decide +kernel
theorem dX6_keep_2 : decode cX6_keep 2 = .ok (.invokevirtual 76, 3) := by decide +kernel
theorem dX6_keep_5 : decode cX6_keep 5 = .ok (.astore_n 2, 1) := by decide +kernel
theorem dX6_keep_6 : decode cX6_keep 6 = .ok (.aload_n 2, 1) := by decide +kernel
theorem dX6_keep_7 : decode cX6_keep 7 = .ok (.ifnonnull 5, 3) := by decide +kernel
theorem dX6_keep_10 : decode cX6_keep 10 = .ok (.iconst (-1), 1) := by decide +kernel
theorem dX6_keep_11 : decode cX6_keep 11 = .ok (.ireturn, 1) := by decide +kernel
theorem dX6_keep_12 : decode cX6_keep 12 = .ok (.aload_n 0, 1) := by decide +kernel
theorem dX6_keep_13 : decode cX6_keep 13 = .ok (.getfield 155, 3) := by decide +kernel
theorem dX6_keep_16 : decode cX6_keep 16 = .ok (.bipush 20, 2) := by decide +kernel
theorem dX6_keep_18 : decode cX6_keep 18 = .ok (.if_icmp .lt 6, 3) := by decide +kernel
theorem dX6_keep_21 : decode cX6_keep 21 = .ok (.bipush (-4), 2) := by decide +kernel
theorem dX6_keep_23 : decode cX6_keep 23 = .ok (.ireturn, 1) := by decide +kernel
theorem dX6_keep_24 : decode cX6_keep 24 = .ok (.aload_n 0, 1) := by decide +kernel
theorem dX6_keep_25 : decode cX6_keep 25 = .ok (.getfield 31, 3) := by decide +kernel
theorem dX6_keep_28 : decode cX6_keep 28 = .ok (.aload_n 0, 1) := by decide +kernel
theorem dX6_keep_29 : decode cX6_keep 29 = .ok (.getfield 155, 3) := by decide +kernel
theorem dX6_keep_32 : decode cX6_keep 32 = .ok (.new 29, 3) := by decide +kernel
theorem dX6_keep_35 : decode cX6_keep 35 = .ok (.dup, 1) := by decide +kernel
theorem dX6_keep_36 : decode cX6_keep 36 = .ok (.aload_n 2, 1) := by decide +kernel
theorem dX6_keep_37 : decode cX6_keep 37 = .ok (.invokespecial 158, 3) := by decide +kernel
theorem dX6_keep_40 : decode cX6_keep 40 = .ok (.aastore, 1) := by decide +kernel
theorem dX6_keep_41 : decode cX6_keep 41 = .ok (.aload_n 0, 1) := by decide +kernel
theorem dX6_keep_42 : decode cX6_keep 42 = .ok (.dup, 1) := by decide +kernel
theorem dX6_keep_43 : decode cX6_keep 43 = .ok (.getfield 155, 3) := by decide +kernel
theorem dX6_keep_46 : decode cX6_keep 46 = .ok (.iconst 1, 1) := by decide +kernel
theorem dX6_keep_47 : decode cX6_keep 47 = .ok (.iadd, 1) := by decide +kernel
theorem dX6_keep_48 : decode cX6_keep 48 = .ok (.putfield 155, 3) := by decide +kernel
theorem dX6_keep_51 : decode cX6_keep 51 = .ok (.aload_n 0, 1) := by decide +kernel
theorem dX6_keep_52 : decode cX6_keep 52 = .ok (.getfield 155, 3) := by decide +kernel
theorem dX6_keep_55 : decode cX6_keep 55 = .ok (.iconst 1, 1) := by decide +kernel
theorem dX6_keep_56 : decode cX6_keep 56 = .ok (.isub, 1) := by decide +kernel
theorem dX6_keep_57 : decode cX6_keep 57 = .ok (.ireturn, 1) := by decide +kernel
theorem dX6_kept_0 : decode cX6_kept 0 = .ok (.aload_n 0, 1) := by decide +kernel
theorem dX6_kept_1 : decode cX6_kept 1 = .ok (.iload_n 1, 1) := by decide +kernel
theorem dX6_kept_2 : decode cX6_kept 2 = .ok (.invokevirtual 160, 3) := by decide +kernel
theorem dX6_kept_5 : decode cX6_kept 5 = .ok (.astore_n 3, 1) := by decide +kernel
theorem dX6_kept_6 : decode cX6_kept 6 = .ok (.aload_n 3, 1) := by decide +kernel
theorem dX6_kept_7 : decode cX6_kept 7 = .ok (.ifnull 10, 3) := by decide +kernel
theorem dX6_kept_10 : decode cX6_kept 10 = .ok (.iload_n 2, 1) := by decide +kernel
theorem dX6_kept_11 : decode cX6_kept 11 = .ok (.invokestatic 103, 3) := by decide +kernel
theorem dX6_kept_14 : decode cX6_kept 14 = .ok (.ifCond .ne 9, 3) := by decide +kernel
theorem dX6_kept_17 : decode cX6_kept 17 = .ok (.ldc2_w 106, 3) := by decide +kernel
theorem dX6_kept_20 : decode cX6_kept 20 = .ok (.goto 9, 3) := by decide +kernel
theorem dX6_kept_23 : decode cX6_kept 23 = .ok (.aload_n 3, 1) := by decide +kernel
theorem dX6_kept_24 : decode cX6_kept 24 = .ok (.getfield 164, 3) := by decide +kernel
theorem dX6_kept_27 : decode cX6_kept 27 = .ok (.iload_n 2, 1) := by decide +kernel
theorem dX6_kept_28 : decode cX6_kept 28 = .ok (.laload, 1) := by decide +kernel
theorem dX6_kept_29 : decode cX6_kept 29 = .ok (.lreturn, 1) := by decide +kernel
theorem dX6_then_0 : decode cX6_then 0 = .ok (.aload_n 0, 1) := by decide +kernel
theorem dX6_then_1 : decode cX6_then 1 = .ok (.iload_n 1, 1) := by decide +kernel
theorem dX6_then_2 : decode cX6_then 2 = .ok (.invokevirtual 160, 3) := by decide +kernel
theorem dX6_then_5 : decode cX6_then 5 = .ok (.astore 4, 2) := by decide +kernel
theorem dX6_then_7 : decode cX6_then 7 = .ok (.aload 4, 2) := by decide +kernel
theorem dX6_then_9 : decode cX6_then 9 = .ok (.ifnonnull 8, 3) := by decide +kernel
theorem dX6_then_12 : decode cX6_then 12 = .ok (.ldc 137, 2) := by decide +kernel
theorem dX6_then_14 : decode cX6_then 14 = .ok (.goto 13, 3) := by decide +kernel
theorem dX6_then_17 : decode cX6_then 17 = .ok (.aload 4, 2) := by decide +kernel
theorem dX6_then_19 : decode cX6_then 19 = .ok (.getfield 167, 3) := by decide +kernel
theorem dX6_then_22 : decode cX6_then 22 = .ok (.iload_n 2, 1) := by decide +kernel
theorem dX6_then_23 : decode cX6_then 23 = .ok (.iload_n 3, 1) := by decide +kernel
theorem dX6_then_24 : decode cX6_then 24 = .ok (.invokevirtual 138, 3) := by decide +kernel
theorem dX6_then_27 : decode cX6_then 27 = .ok (.ireturn, 1) := by decide +kernel
theorem dX6_told_0 : decode cX6_told 0 = .ok (.aload_n 0, 1) := by decide +kernel
theorem dX6_told_1 : decode cX6_told 1 = .ok (.iload_n 1, 1) := by decide +kernel
theorem dX6_told_2 : decode cX6_told 2 = .ok (.invokevirtual 76, 3) := by decide +kernel
theorem dX6_told_5 : decode cX6_told 5 = .ok (.astore_n 3, 1) := by decide +kernel
theorem dX6_told_6 : decode cX6_told 6 = .ok (.aload_n 3, 1) := by decide +kernel
theorem dX6_told_7 : decode cX6_told 7 = .ok (.ifnonnull 7, 3) := by decide +kernel
theorem dX6_told_10 : decode cX6_told 10 = .ok (.iconst (-1), 1) := by decide +kernel
theorem dX6_told_11 : decode cX6_told 11 = .ok (.goto 8, 3) := by decide +kernel
theorem dX6_told_14 : decode cX6_told 14 = .ok (.aload_n 3, 1) := by decide +kernel
theorem dX6_told_15 : decode cX6_told 15 = .ok (.iload_n 2, 1) := by decide +kernel
theorem dX6_told_16 : decode cX6_told 16 = .ok (.invokevirtual 170, 3) := by decide +kernel
theorem dX6_told_19 : decode cX6_told 19 = .ok (.ireturn, 1) := by decide +kernel
theorem dX6_all_0 : decode cX6_all 0 = .ok (.iload_n 1, 1) := by decide +kernel
theorem dX6_all_1 : decode cX6_all 1 = .ok (.tableswitch 71 0 4 #[35, 48, 56, 61, 66], 35) := by decide +kernel
theorem dX6_all_36 : decode cX6_all 36 = .ok (.aload_n 0, 1) := by decide +kernel
theorem dX6_all_37 : decode cX6_all 37 = .ok (.getfield 18, 3) := by decide +kernel
theorem dX6_all_40 : decode cX6_all 40 = .ok (.iconst 0, 1) := by decide +kernel
theorem dX6_all_41 : decode cX6_all 41 = .ok (.aaload, 1) := by decide +kernel
theorem dX6_all_42 : decode cX6_all 42 = .ok (.getfield 39, 3) := by decide +kernel
theorem dX6_all_45 : decode cX6_all 45 = .ok (.getfield 43, 3) := by decide +kernel
theorem dX6_all_48 : decode cX6_all 48 = .ok (.ireturn, 1) := by decide +kernel
theorem dX6_all_49 : decode cX6_all 49 = .ok (.aload_n 0, 1) := by decide +kernel
theorem dX6_all_50 : decode cX6_all 50 = .ok (.getfield 10, 3) := by decide +kernel
theorem dX6_all_53 : decode cX6_all 53 = .ok (.getfield 56, 3) := by decide +kernel
theorem dX6_all_56 : decode cX6_all 56 = .ok (.ireturn, 1) := by decide +kernel
theorem dX6_all_57 : decode cX6_all 57 = .ok (.aload_n 0, 1) := by decide +kernel
theorem dX6_all_58 : decode cX6_all 58 = .ok (.getfield 25, 3) := by decide +kernel
theorem dX6_all_61 : decode cX6_all 61 = .ok (.ireturn, 1) := by decide +kernel
theorem dX6_all_62 : decode cX6_all 62 = .ok (.aload_n 0, 1) := by decide +kernel
theorem dX6_all_63 : decode cX6_all 63 = .ok (.getfield 96, 3) := by decide +kernel
theorem dX6_all_66 : decode cX6_all 66 = .ok (.ireturn, 1) := by decide +kernel
theorem dX6_all_67 : decode cX6_all 67 = .ok (.aload_n 0, 1) := by decide +kernel
theorem dX6_all_68 : decode cX6_all 68 = .ok (.getfield 155, 3) := by decide +kernel
theorem dX6_all_71 : decode cX6_all 71 = .ok (.ireturn, 1) := by decide +kernel
theorem dX6_all_72 : decode cX6_all 72 = .ok (.iconst (-1), 1) := by decide +kernel
theorem dX6_all_73 : decode cX6_all 73 = .ok (.ireturn, 1) := by decide +kernel
theorem dX6_isSettled_0 : decode cX6_isSettled 0 = .ok (.aload_n 0, 1) := by decide +kernel
theorem dX6_isSettled_1 : decode cX6_isSettled 1 = .ok (.getfield 25, 3) := by decide +kernel
theorem dX6_isSettled_4 : decode cX6_isSettled 4 = .ok (.iconst 1, 1) := by decide +kernel
theorem dX6_isSettled_5 : decode cX6_isSettled 5 = .ok (.if_icmp .gt 15, 3) := by decide +kernel
theorem dX6_isSettled_8 : decode cX6_isSettled 8 = .ok (.aload_n 0, 1) := by decide +kernel
theorem dX6_isSettled_9 : decode cX6_isSettled 9 = .ok (.getfield 18, 3) := by decide +kernel
theorem dX6_isSettled_12 : decode cX6_isSettled 12 = .ok (.iconst 0, 1) := by decide +kernel
theorem dX6_isSettled_13 : decode cX6_isSettled 13 = .ok (.aaload, 1) := by decide +kernel
theorem dX6_isSettled_14 : decode cX6_isSettled 14 = .ok (.getfield 174, 3) := by decide +kernel
theorem dX6_isSettled_17 : decode cX6_isSettled 17 = .ok (.ifCond .le 7, 3) := by decide +kernel
theorem dX6_isSettled_20 : decode cX6_isSettled 20 = .ok (.iconst 1, 1) := by decide +kernel
theorem dX6_isSettled_21 : decode cX6_isSettled 21 = .ok (.goto 4, 3) := by decide +kernel
theorem dX6_isSettled_24 : decode cX6_isSettled 24 = .ok (.iconst 0, 1) := by decide +kernel
theorem dX6_isSettled_25 : decode cX6_isSettled 25 = .ok (.ireturn, 1) := by decide +kernel
theorem dX6_planAt_0 : decode cX6_planAt 0 = .ok (.iload_n 1, 1) := by decide +kernel
theorem dX6_planAt_1 : decode cX6_planAt 1 = .ok (.ifCond .lt 20, 3) := by decide +kernel
theorem dX6_planAt_4 : decode cX6_planAt 4 = .ok (.iload_n 1, 1) := by decide +kernel
theorem dX6_planAt_5 : decode cX6_planAt 5 = .ok (.aload_n 0, 1) := by decide +kernel
theorem dX6_planAt_6 : decode cX6_planAt 6 = .ok (.getfield 25, 3) := by decide +kernel
theorem dX6_planAt_9 : decode cX6_planAt 9 = .ok (.if_icmp .ge 12, 3) := by decide +kernel
theorem dX6_planAt_12 : decode cX6_planAt 12 = .ok (.aload_n 0, 1) := by decide +kernel
theorem dX6_planAt_13 : decode cX6_planAt 13 = .ok (.getfield 18, 3) := by decide +kernel
theorem dX6_planAt_16 : decode cX6_planAt 16 = .ok (.iload_n 1, 1) := by decide +kernel
theorem dX6_planAt_17 : decode cX6_planAt 17 = .ok (.aaload, 1) := by decide +kernel
theorem dX6_planAt_18 : decode cX6_planAt 18 = .ok (.goto 4, 3) := by decide +kernel
theorem dX6_planAt_21 : decode cX6_planAt 21 = .ok (.aconst_null, 1) := by decide +kernel
theorem dX6_planAt_22 : decode cX6_planAt 22 = .ok (.areturn, 1) := by decide +kernel
theorem dX6_snapshotAt_0 : decode cX6_snapshotAt 0 = .ok (.iload_n 1, 1) := by decide +kernel
theorem dX6_snapshotAt_1 : decode cX6_snapshotAt 1 = .ok (.ifCond .lt 20, 3) := by decide +kernel
theorem dX6_snapshotAt_4 : decode cX6_snapshotAt 4 = .ok (.iload_n 1, 1) := by decide +kernel
theorem dX6_snapshotAt_5 : decode cX6_snapshotAt 5 = .ok (.aload_n 0, 1) := by decide +kernel
theorem dX6_snapshotAt_6 : decode cX6_snapshotAt 6 = .ok (.getfield 155, 3) := by decide +kernel
theorem dX6_snapshotAt_9 : decode cX6_snapshotAt 9 = .ok (.if_icmp .ge 12, 3) := by decide +kernel
theorem dX6_snapshotAt_12 : decode cX6_snapshotAt 12 = .ok (.aload_n 0, 1) := by decide +kernel
theorem dX6_snapshotAt_13 : decode cX6_snapshotAt 13 = .ok (.getfield 31, 3) := by decide +kernel
theorem dX6_snapshotAt_16 : decode cX6_snapshotAt 16 = .ok (.iload_n 1, 1) := by decide +kernel
theorem dX6_snapshotAt_17 : decode cX6_snapshotAt 17 = .ok (.aaload, 1) := by decide +kernel
theorem dX6_snapshotAt_18 : decode cX6_snapshotAt 18 = .ok (.goto 4, 3) := by decide +kernel
theorem dX6_snapshotAt_21 : decode cX6_snapshotAt 21 = .ok (.aconst_null, 1) := by decide +kernel
theorem dX6_snapshotAt_22 : decode cX6_snapshotAt 22 = .ok (.areturn, 1) := by decide +kernel
theorem dX6_isRule_0 : decode cX6_isRule 0 = .ok (.iload_n 0, 1) := by decide +kernel
theorem dX6_isRule_1 : decode cX6_isRule 1 = .ok (.iconst 0, 1) := by decide +kernel
theorem dX6_isRule_2 : decode cX6_isRule 2 = .ok (.iconst 5, 1) := by decide +kernel
theorem dX6_isRule_3 : decode cX6_isRule 3 = .ok (.invokestatic 145, 3) := by decide +kernel
theorem dX6_isRule_6 : decode cX6_isRule 6 = .ok (.ifCond .eq 46, 3) := by decide +kernel
theorem dX6_isRule_9 : decode cX6_isRule 9 = .ok (.iload_n 1, 1) := by decide +kernel
theorem dX6_isRule_10 : decode cX6_isRule 10 = .ok (.iconst 0, 1) := by decide +kernel
theorem dX6_isRule_11 : decode cX6_isRule 11 = .ok (.iconst 3, 1) := by decide +kernel
theorem dX6_isRule_12 : decode cX6_isRule 12 = .ok (.invokestatic 145, 3) := by decide +kernel
theorem dX6_isRule_15 : decode cX6_isRule 15 = .ok (.ifCond .eq 37, 3) := by decide +kernel
theorem dX6_isRule_18 : decode cX6_isRule 18 = .ok (.iload_n 2, 1) := by decide +kernel
theorem dX6_isRule_19 : decode cX6_isRule 19 = .ok (.ldc 137, 2) := by decide +kernel
theorem dX6_isRule_21 : decode cX6_isRule 21 = .ok (.ldc 177, 2) := by decide +kernel
theorem dX6_isRule_23 : decode cX6_isRule 23 = .ok (.invokestatic 145, 3) := by decide +kernel
theorem dX6_isRule_26 : decode cX6_isRule 26 = .ok (.ifCond .eq 26, 3) := by decide +kernel
theorem dX6_isRule_29 : decode cX6_isRule 29 = .ok (.iload_n 3, 1) := by decide +kernel
theorem dX6_isRule_30 : decode cX6_isRule 30 = .ok (.iconst 1, 1) := by decide +kernel
theorem dX6_isRule_31 : decode cX6_isRule 31 = .ok (.sipush 1000, 3) := by decide +kernel
theorem dX6_isRule_34 : decode cX6_isRule 34 = .ok (.invokestatic 145, 3) := by decide +kernel
theorem dX6_isRule_37 : decode cX6_isRule 37 = .ok (.ifCond .eq 15, 3) := by decide +kernel
theorem dX6_isRule_40 : decode cX6_isRule 40 = .ok (.iload 4, 2) := by decide +kernel
theorem dX6_isRule_42 : decode cX6_isRule 42 = .ok (.invokestatic 103, 3) := by decide +kernel
theorem dX6_isRule_45 : decode cX6_isRule 45 = .ok (.ifCond .eq 7, 3) := by decide +kernel
theorem dX6_isRule_48 : decode cX6_isRule 48 = .ok (.iconst 1, 1) := by decide +kernel
theorem dX6_isRule_49 : decode cX6_isRule 49 = .ok (.goto 4, 3) := by decide +kernel
theorem dX6_isRule_52 : decode cX6_isRule 52 = .ok (.iconst 0, 1) := by decide +kernel
theorem dX6_isRule_53 : decode cX6_isRule 53 = .ok (.ireturn, 1) := by decide +kernel
theorem dX6_isLevel_0 : decode cX6_isLevel 0 = .ok (.iload_n 0, 1) := by decide +kernel
theorem dX6_isLevel_1 : decode cX6_isLevel 1 = .ok (.iconst 0, 1) := by decide +kernel
theorem dX6_isLevel_2 : decode cX6_isLevel 2 = .ok (.iconst 2, 1) := by decide +kernel
theorem dX6_isLevel_3 : decode cX6_isLevel 3 = .ok (.invokestatic 145, 3) := by decide +kernel
theorem dX6_isLevel_6 : decode cX6_isLevel 6 = .ok (.ireturn, 1) := by decide +kernel
theorem dX6_within_0 : decode cX6_within 0 = .ok (.iload_n 0, 1) := by decide +kernel
theorem dX6_within_1 : decode cX6_within 1 = .ok (.iload_n 1, 1) := by decide +kernel
theorem dX6_within_2 : decode cX6_within 2 = .ok (.if_icmp .lt 12, 3) := by decide +kernel
theorem dX6_within_5 : decode cX6_within 5 = .ok (.iload_n 0, 1) := by decide +kernel
theorem dX6_within_6 : decode cX6_within 6 = .ok (.iload_n 2, 1) := by decide +kernel
theorem dX6_within_7 : decode cX6_within 7 = .ok (.if_icmp .gt 7, 3) := by decide +kernel
theorem dX6_within_10 : decode cX6_within 10 = .ok (.iconst 1, 1) := by decide +kernel
theorem dX6_within_11 : decode cX6_within 11 = .ok (.goto 4, 3) := by decide +kernel
theorem dX6_within_14 : decode cX6_within 14 = .ok (.iconst 0, 1) := by decide +kernel
theorem dX6_within_15 : decode cX6_within 15 = .ok (.ireturn, 1) := by decide +kernel
theorem dX6_oneIf_0 : decode cX6_oneIf 0 = .ok (.iload_n 0, 1) := by decide +kernel
theorem dX6_oneIf_1 : decode cX6_oneIf 1 = .ok (.ifCond .eq 7, 3) := by decide +kernel
theorem dX6_oneIf_4 : decode cX6_oneIf 4 = .ok (.iconst 1, 1) := by decide +kernel
theorem dX6_oneIf_5 : decode cX6_oneIf 5 = .ok (.goto 4, 3) := by decide +kernel
theorem dX6_oneIf_8 : decode cX6_oneIf 8 = .ok (.iconst 0, 1) := by decide +kernel
theorem dX6_oneIf_9 : decode cX6_oneIf 9 = .ok (.ireturn, 1) := by decide +kernel
theorem dX7_init_0 : decode cX7_init 0 = .ok (.aload_n 0, 1) := by decide +kernel
theorem dX7_init_1 : decode cX7_init 1 = .ok (.invokespecial 1, 3) := by decide +kernel
theorem dX7_init_4 : decode cX7_init 4 = .ok (.aload_n 0, 1) := by decide +kernel
theorem dX7_init_5 : decode cX7_init 5 = .ok (.bipush 12, 2) := by decide +kernel
theorem dX7_init_7 : decode cX7_init 7 = .ok (.newarray .int, 2) := by decide +kernel
theorem dX7_init_9 : decode cX7_init 9 = .ok (.putfield 7, 3) := by decide +kernel
theorem dX7_init_12 : decode cX7_init 12 = .ok (.aload_n 0, 1) := by decide +kernel
theorem dX7_init_13 : decode cX7_init 13 = .ok (.bipush 12, 2) := by decide +kernel
theorem dX7_init_15 : decode cX7_init 15 = .ok (.newarray .int, 2) := by decide +kernel
theorem dX7_init_17 : decode cX7_init 17 = .ok (.putfield 13, 3) := by decide +kernel
theorem dX7_init_20 : decode cX7_init 20 = .ok (.aload_n 0, 1) := by decide +kernel
theorem dX7_init_21 : decode cX7_init 21 = .ok (.bipush 12, 2) := by decide +kernel
theorem dX7_init_23 : decode cX7_init 23 = .ok (.newarray .int, 2) := by decide +kernel
theorem dX7_init_25 : decode cX7_init 25 = .ok (.putfield 16, 3) := by decide +kernel
theorem dX7_init_28 : decode cX7_init 28 = .ok (.aload_n 0, 1) := by decide +kernel
theorem dX7_init_29 : decode cX7_init 29 = .ok (.bipush 12, 2) := by decide +kernel

theorem dX0_init_0 : decode cX0_init 0 = .ok (.aload_n 0, 1) := by decide +kernel
theorem dX0_init_1 : decode cX0_init 1 = .ok (.invokespecial 3, 3) := by decide +kernel
theorem dX0_init_4 : decode cX0_init 4 = .ok (.aload_n 0, 1) := by decide +kernel
theorem dX0_init_5 : decode cX0_init 5 = .ok (.bipush 60, 2) := by decide +kernel
theorem dX0_init_7 : decode cX0_init 7 = .ok (.newarray .int, 2) := by decide +kernel
theorem dX0_init_9 : decode cX0_init 9 = .ok (.putfield 9, 3) := by decide +kernel
theorem dX0_init_12 : decode cX0_init 12 = .ok (.aload_n 0, 1) := by decide +kernel
theorem dX0_init_13 : decode cX0_init 13 = .ok (.bipush 60, 2) := by decide +kernel
theorem dX0_init_15 : decode cX0_init 15 = .ok (.newarray .int, 2) := by decide +kernel
theorem dX0_init_17 : decode cX0_init 17 = .ok (.putfield 15, 3) := by decide +kernel
theorem dX0_init_20 : decode cX0_init 20 = .ok (.aload_n 0, 1) := by decide +kernel
theorem dX0_init_21 : decode cX0_init 21 = .ok (.bipush 60, 2) := by decide +kernel
theorem dX0_init_23 : decode cX0_init 23 = .ok (.newarray .int, 2) := by decide +kernel
theorem dX0_init_25 : decode cX0_init 25 = .ok (.putfield 18, 3) := by decide +kernel
theorem dX0_init_28 : decode cX0_init 28 = .ok (.aload_n 0, 1) := by decide +kernel
theorem dX0_init_29 : decode cX0_init 29 = .ok (.bipush 60, 2) := by decide +kernel
theorem dX0_init_31 : decode cX0_init 31 = .ok (.bipush 12, 2) := by decide +kernel
theorem dX0_init_33 : decode cX0_init 33 = .ok (.multianewarray 21 2, 4) := by decide +kernel
theorem dX0_init_37 : decode cX0_init 37 = .ok (.putfield 23, 3) := by decide +kernel
theorem dX0_init_40 : decode cX0_init 40 = .ok (.return_, 1) := by decide +kernel
theorem dX0_push_0 : decode cX0_push 0 = .ok (.aload_n 0, 1) := by decide +kernel
theorem dX0_push_1 : decode cX0_push 1 = .ok (.getfield 9, 3) := by decide +kernel
theorem dX0_push_4 : decode cX0_push 4 = .ok (.aload_n 0, 1) := by decide +kernel
theorem dX0_push_5 : decode cX0_push 5 = .ok (.getfield 26, 3) := by decide +kernel
theorem dX0_push_8 : decode cX0_push 8 = .ok (.iload_n 1, 1) := by decide +kernel
theorem dX0_push_9 : decode cX0_push 9 = .ok (.iastore, 1) := by decide +kernel
theorem dX0_push_10 : decode cX0_push 10 = .ok (.aload_n 0, 1) := by decide +kernel
theorem dX0_push_11 : decode cX0_push 11 = .ok (.getfield 15, 3) := by decide +kernel
theorem dX0_push_14 : decode cX0_push 14 = .ok (.aload_n 0, 1) := by decide +kernel
theorem dX0_push_15 : decode cX0_push 15 = .ok (.getfield 26, 3) := by decide +kernel
theorem dX0_push_18 : decode cX0_push 18 = .ok (.iload_n 2, 1) := by decide +kernel
theorem dX0_push_19 : decode cX0_push 19 = .ok (.iastore, 1) := by decide +kernel
theorem dX0_push_20 : decode cX0_push 20 = .ok (.aload_n 0, 1) := by decide +kernel
theorem dX0_push_21 : decode cX0_push 21 = .ok (.getfield 18, 3) := by decide +kernel
theorem dX0_push_24 : decode cX0_push 24 = .ok (.aload_n 0, 1) := by decide +kernel
theorem dX0_push_25 : decode cX0_push 25 = .ok (.getfield 26, 3) := by decide +kernel
theorem dX0_push_28 : decode cX0_push 28 = .ok (.iload_n 3, 1) := by decide +kernel
theorem dX0_push_29 : decode cX0_push 29 = .ok (.iastore, 1) := by decide +kernel
theorem dX0_push_30 : decode cX0_push 30 = .ok (.aload 4, 2) := by decide +kernel
theorem dX0_push_32 : decode cX0_push 32 = .ok (.iconst 0, 1) := by decide +kernel
theorem dX0_push_33 : decode cX0_push 33 = .ok (.aload_n 0, 1) := by decide +kernel
theorem dX0_push_34 : decode cX0_push 34 = .ok (.getfield 23, 3) := by decide +kernel
theorem dX0_push_37 : decode cX0_push 37 = .ok (.aload_n 0, 1) := by decide +kernel
theorem dX0_push_38 : decode cX0_push 38 = .ok (.getfield 26, 3) := by decide +kernel
theorem dX0_push_41 : decode cX0_push 41 = .ok (.aaload, 1) := by decide +kernel
theorem dX0_push_42 : decode cX0_push 42 = .ok (.iconst 0, 1) := by decide +kernel
theorem dX0_push_43 : decode cX0_push 43 = .ok (.bipush 12, 2) := by decide +kernel
theorem dX0_push_45 : decode cX0_push 45 = .ok (.invokestatic 30, 3) := by decide +kernel
theorem dX0_push_48 : decode cX0_push 48 = .ok (.aload_n 0, 1) := by decide +kernel
theorem dX0_push_49 : decode cX0_push 49 = .ok (.aload_n 0, 1) := by decide +kernel
theorem dX0_push_50 : decode cX0_push 50 = .ok (.getfield 26, 3) := by decide +kernel
theorem dX0_push_53 : decode cX0_push 53 = .ok (.iconst 1, 1) := by decide +kernel
theorem dX0_push_54 : decode cX0_push 54 = .ok (.iadd, 1) := by decide +kernel
theorem dX0_push_55 : decode cX0_push 55 = .ok (.bipush 60, 2) := by decide +kernel
theorem dX0_push_57 : decode cX0_push 57 = .ok (.if_icmp .ge 12, 3) := by decide +kernel
theorem dX0_push_60 : decode cX0_push 60 = .ok (.aload_n 0, 1) := by decide +kernel
theorem dX0_push_61 : decode cX0_push 61 = .ok (.getfield 26, 3) := by decide +kernel
theorem dX0_push_64 : decode cX0_push 64 = .ok (.iconst 1, 1) := by decide +kernel
theorem dX0_push_65 : decode cX0_push 65 = .ok (.iadd, 1) := by decide +kernel
theorem dX0_push_66 : decode cX0_push 66 = .ok (.goto 4, 3) := by decide +kernel
theorem dX0_push_69 : decode cX0_push 69 = .ok (.iconst 0, 1) := by decide +kernel
theorem dX0_push_70 : decode cX0_push 70 = .ok (.putfield 26, 3) := by decide +kernel
theorem dX0_push_73 : decode cX0_push 73 = .ok (.aload_n 0, 1) := by decide +kernel
theorem dX0_push_74 : decode cX0_push 74 = .ok (.aload_n 0, 1) := by decide +kernel
theorem dX0_push_75 : decode cX0_push 75 = .ok (.getfield 36, 3) := by decide +kernel
theorem dX0_push_78 : decode cX0_push 78 = .ok (.iconst 1, 1) := by decide +kernel
theorem dX0_push_79 : decode cX0_push 79 = .ok (.iadd, 1) := by decide +kernel
theorem dX0_push_80 : decode cX0_push 80 = .ok (.bipush 60, 2) := by decide +kernel
theorem dX0_push_82 : decode cX0_push 82 = .ok (.invokestatic 39, 3) := by decide +kernel
theorem dX0_push_85 : decode cX0_push 85 = .ok (.putfield 36, 3) := by decide +kernel
theorem dX0_push_88 : decode cX0_push 88 = .ok (.return_, 1) := by decide +kernel
theorem dX0_pop_0 : decode cX0_pop 0 = .ok (.aload_n 0, 1) := by decide +kernel
theorem dX0_pop_1 : decode cX0_pop 1 = .ok (.aload_n 0, 1) := by decide +kernel
theorem dX0_pop_2 : decode cX0_pop 2 = .ok (.getfield 26, 3) := by decide +kernel
theorem dX0_pop_5 : decode cX0_pop 5 = .ok (.ifCond .le 12, 3) := by decide +kernel
theorem dX0_pop_8 : decode cX0_pop 8 = .ok (.aload_n 0, 1) := by decide +kernel
theorem dX0_pop_9 : decode cX0_pop 9 = .ok (.getfield 26, 3) := by decide +kernel
theorem dX0_pop_12 : decode cX0_pop 12 = .ok (.iconst 1, 1) := by decide +kernel
theorem dX0_pop_13 : decode cX0_pop 13 = .ok (.isub, 1) := by decide +kernel
theorem dX0_pop_14 : decode cX0_pop 14 = .ok (.goto 5, 3) := by decide +kernel
theorem dX0_pop_17 : decode cX0_pop 17 = .ok (.bipush 59, 2) := by decide +kernel
theorem dX0_pop_19 : decode cX0_pop 19 = .ok (.putfield 26, 3) := by decide +kernel
theorem dX0_pop_22 : decode cX0_pop 22 = .ok (.aload_n 0, 1) := by decide +kernel
theorem dX0_pop_23 : decode cX0_pop 23 = .ok (.dup, 1) := by decide +kernel
theorem dX0_pop_24 : decode cX0_pop 24 = .ok (.getfield 36, 3) := by decide +kernel
theorem dX0_pop_27 : decode cX0_pop 27 = .ok (.iconst 1, 1) := by decide +kernel
theorem dX0_pop_28 : decode cX0_pop 28 = .ok (.isub, 1) := by decide +kernel
theorem dX0_pop_29 : decode cX0_pop 29 = .ok (.putfield 36, 3) := by decide +kernel
theorem dX0_pop_32 : decode cX0_pop 32 = .ok (.aload_n 0, 1) := by decide +kernel
theorem dX0_pop_33 : decode cX0_pop 33 = .ok (.getfield 26, 3) := by decide +kernel
theorem dX0_pop_36 : decode cX0_pop 36 = .ok (.ireturn, 1) := by decide +kernel
theorem dX1_init_0 : decode cX1_init 0 = .ok (.aload_n 0, 1) := by decide +kernel
theorem dX1_init_1 : decode cX1_init 1 = .ok (.invokespecial 3, 3) := by decide +kernel
theorem dX1_init_4 : decode cX1_init 4 = .ok (.aload_n 0, 1) := by decide +kernel
theorem dX1_init_5 : decode cX1_init 5 = .ok (.new 9, 3) := by decide +kernel
theorem dX1_init_8 : decode cX1_init 8 = .ok (.dup, 1) := by decide +kernel
theorem dX1_init_9 : decode cX1_init 9 = .ok (.invokespecial 11, 3) := by decide +kernel
theorem dX1_init_12 : decode cX1_init 12 = .ok (.putfield 12, 3) := by decide +kernel
theorem dX1_init_15 : decode cX1_init 15 = .ok (.aload_n 0, 1) := by decide +kernel
theorem dX1_init_16 : decode cX1_init 16 = .ok (.new 9, 3) := by decide +kernel
theorem dX1_init_19 : decode cX1_init 19 = .ok (.dup, 1) := by decide +kernel
theorem dX1_init_20 : decode cX1_init 20 = .ok (.invokespecial 11, 3) := by decide +kernel
theorem dX1_init_23 : decode cX1_init 23 = .ok (.putfield 18, 3) := by decide +kernel
theorem dX1_init_26 : decode cX1_init 26 = .ok (.aload_n 0, 1) := by decide +kernel
theorem dX1_init_27 : decode cX1_init 27 = .ok (.bipush 12, 2) := by decide +kernel
theorem dX1_init_29 : decode cX1_init 29 = .ok (.newarray .long, 2) := by decide +kernel
theorem dX1_init_31 : decode cX1_init 31 = .ok (.putfield 21, 3) := by decide +kernel
theorem dX1_init_34 : decode cX1_init 34 = .ok (.aload_n 0, 1) := by decide +kernel
theorem dX1_init_35 : decode cX1_init 35 = .ok (.bipush 12, 2) := by decide +kernel
theorem dX1_init_37 : decode cX1_init 37 = .ok (.newarray .boolean, 2) := by decide +kernel
theorem dX1_init_39 : decode cX1_init 39 = .ok (.putfield 25, 3) := by decide +kernel
theorem dX1_init_42 : decode cX1_init 42 = .ok (.aload_n 0, 1) := by decide +kernel
theorem dX1_init_43 : decode cX1_init 43 = .ok (.new 29, 3) := by decide +kernel
theorem dX1_init_46 : decode cX1_init 46 = .ok (.dup, 1) := by decide +kernel
theorem dX1_init_47 : decode cX1_init 47 = .ok (.invokespecial 31, 3) := by decide +kernel
theorem dX1_init_50 : decode cX1_init 50 = .ok (.putfield 32, 3) := by decide +kernel
theorem dX1_init_53 : decode cX1_init 53 = .ok (.aload_n 0, 1) := by decide +kernel
theorem dX1_init_54 : decode cX1_init 54 = .ok (.iconst (-1), 1) := by decide +kernel
theorem dX1_init_55 : decode cX1_init 55 = .ok (.putfield 36, 3) := by decide +kernel
theorem dX1_init_58 : decode cX1_init 58 = .ok (.aload_n 0, 1) := by decide +kernel
theorem dX1_init_59 : decode cX1_init 59 = .ok (.aload_n 1, 1) := by decide +kernel
theorem dX1_init_60 : decode cX1_init 60 = .ok (.putfield 40, 3) := by decide +kernel
theorem dX1_init_63 : decode cX1_init 63 = .ok (.return_, 1) := by decide +kernel
theorem dX1_becomeLike_0 : decode cX1_becomeLike 0 = .ok (.aload_n 0, 1) := by decide +kernel
theorem dX1_becomeLike_1 : decode cX1_becomeLike 1 = .ok (.getfield 12, 3) := by decide +kernel
theorem dX1_becomeLike_4 : decode cX1_becomeLike 4 = .ok (.aload_n 1, 1) := by decide +kernel
theorem dX1_becomeLike_5 : decode cX1_becomeLike 5 = .ok (.getfield 12, 3) := by decide +kernel
theorem dX1_becomeLike_8 : decode cX1_becomeLike 8 = .ok (.invokevirtual 44, 3) := by decide +kernel
theorem dX1_becomeLike_11 : decode cX1_becomeLike 11 = .ok (.iconst 0, 1) := by decide +kernel
theorem dX1_becomeLike_12 : decode cX1_becomeLike 12 = .ok (.istore_n 2, 1) := by decide +kernel
theorem dX1_becomeLike_13 : decode cX1_becomeLike 13 = .ok (.iload_n 2, 1) := by decide +kernel
theorem dX1_becomeLike_14 : decode cX1_becomeLike 14 = .ok (.aload_n 0, 1) := by decide +kernel
theorem dX1_becomeLike_15 : decode cX1_becomeLike 15 = .ok (.getfield 40, 3) := by decide +kernel
theorem dX1_becomeLike_18 : decode cX1_becomeLike 18 = .ok (.getfield 48, 3) := by decide +kernel
theorem dX1_becomeLike_21 : decode cX1_becomeLike 21 = .ok (.if_icmp .ge 33, 3) := by decide +kernel
theorem dX1_becomeLike_24 : decode cX1_becomeLike 24 = .ok (.aload_n 0, 1) := by decide +kernel
theorem dX1_becomeLike_25 : decode cX1_becomeLike 25 = .ok (.getfield 21, 3) := by decide +kernel
theorem dX1_becomeLike_28 : decode cX1_becomeLike 28 = .ok (.iload_n 2, 1) := by decide +kernel
theorem dX1_becomeLike_29 : decode cX1_becomeLike 29 = .ok (.aload_n 1, 1) := by decide +kernel
theorem dX1_becomeLike_30 : decode cX1_becomeLike 30 = .ok (.getfield 21, 3) := by decide +kernel
theorem dX1_becomeLike_33 : decode cX1_becomeLike 33 = .ok (.iload_n 2, 1) := by decide +kernel
theorem dX1_becomeLike_34 : decode cX1_becomeLike 34 = .ok (.laload, 1) := by decide +kernel
theorem dX1_becomeLike_35 : decode cX1_becomeLike 35 = .ok (.lastore, 1) := by decide +kernel
theorem dX1_becomeLike_36 : decode cX1_becomeLike 36 = .ok (.aload_n 0, 1) := by decide +kernel
theorem dX1_becomeLike_37 : decode cX1_becomeLike 37 = .ok (.getfield 25, 3) := by decide +kernel
theorem dX1_becomeLike_40 : decode cX1_becomeLike 40 = .ok (.iload_n 2, 1) := by decide +kernel
theorem dX1_becomeLike_41 : decode cX1_becomeLike 41 = .ok (.aload_n 1, 1) := by decide +kernel
theorem dX1_becomeLike_42 : decode cX1_becomeLike 42 = .ok (.getfield 25, 3) := by decide +kernel
theorem dX1_becomeLike_45 : decode cX1_becomeLike 45 = .ok (.iload_n 2, 1) := by decide +kernel
theorem dX1_becomeLike_46 : decode cX1_becomeLike 46 = .ok (.baload, 1) := by decide +kernel
theorem dX1_becomeLike_47 : decode cX1_becomeLike 47 = .ok (.bastore, 1) := by decide +kernel
theorem dX1_becomeLike_48 : decode cX1_becomeLike 48 = .ok (.iinc 2 1, 3) := by decide +kernel
theorem dX1_becomeLike_51 : decode cX1_becomeLike 51 = .ok (.goto (-38), 3) := by decide +kernel
theorem dX1_becomeLike_54 : decode cX1_becomeLike 54 = .ok (.return_, 1) := by decide +kernel
theorem dX1_addObject_0 : decode cX1_addObject 0 = .ok (.aload_n 0, 1) := by decide +kernel
theorem dX1_addObject_1 : decode cX1_addObject 1 = .ok (.getfield 18, 3) := by decide +kernel
theorem dX1_addObject_4 : decode cX1_addObject 4 = .ok (.aload_n 0, 1) := by decide +kernel
theorem dX1_addObject_5 : decode cX1_addObject 5 = .ok (.getfield 12, 3) := by decide +kernel
theorem dX1_addObject_8 : decode cX1_addObject 8 = .ok (.invokevirtual 44, 3) := by decide +kernel
theorem dX1_addObject_11 : decode cX1_addObject 11 = .ok (.aload_n 0, 1) := by decide +kernel
theorem dX1_addObject_12 : decode cX1_addObject 12 = .ok (.getfield 18, 3) := by decide +kernel
theorem dX1_addObject_15 : decode cX1_addObject 15 = .ok (.invokevirtual 53, 3) := by decide +kernel
theorem dX1_addObject_18 : decode cX1_addObject 18 = .ok (.iconst 0, 1) := by decide +kernel
theorem dX1_addObject_19 : decode cX1_addObject 19 = .ok (.istore_n 1, 1) := by decide +kernel
theorem dX1_addObject_20 : decode cX1_addObject 20 = .ok (.iload_n 1, 1) := by decide +kernel
theorem dX1_addObject_21 : decode cX1_addObject 21 = .ok (.aload_n 0, 1) := by decide +kernel
theorem dX1_addObject_22 : decode cX1_addObject 22 = .ok (.getfield 40, 3) := by decide +kernel
theorem dX1_addObject_25 : decode cX1_addObject 25 = .ok (.getfield 48, 3) := by decide +kernel
theorem dX1_addObject_28 : decode cX1_addObject 28 = .ok (.if_icmp .ge 23, 3) := by decide +kernel
theorem dX1_addObject_31 : decode cX1_addObject 31 = .ok (.aload_n 0, 1) := by decide +kernel
theorem dX1_addObject_32 : decode cX1_addObject 32 = .ok (.getfield 21, 3) := by decide +kernel
theorem dX1_addObject_35 : decode cX1_addObject 35 = .ok (.iload_n 1, 1) := by decide +kernel
theorem dX1_addObject_36 : decode cX1_addObject 36 = .ok (.dup2, 1) := by decide +kernel
theorem dX1_addObject_37 : decode cX1_addObject 37 = .ok (.laload, 1) := by decide +kernel
theorem dX1_addObject_38 : decode cX1_addObject 38 = .ok (.aload_n 0, 1) := by decide +kernel
theorem dX1_addObject_39 : decode cX1_addObject 39 = .ok (.iload_n 1, 1) := by decide +kernel
theorem dX1_addObject_40 : decode cX1_addObject 40 = .ok (.invokevirtual 56, 3) := by decide +kernel
theorem dX1_addObject_43 : decode cX1_addObject 43 = .ok (.ladd, 1) := by decide +kernel
theorem dX1_addObject_44 : decode cX1_addObject 44 = .ok (.lastore, 1) := by decide +kernel
theorem dX1_addObject_45 : decode cX1_addObject 45 = .ok (.iinc 1 1, 3) := by decide +kernel
theorem dX1_addObject_48 : decode cX1_addObject 48 = .ok (.goto (-28), 3) := by decide +kernel
theorem dX1_addObject_51 : decode cX1_addObject 51 = .ok (.aload_n 0, 1) := by decide +kernel
theorem dX1_addObject_52 : decode cX1_addObject 52 = .ok (.getfield 12, 3) := by decide +kernel
theorem dX1_addObject_55 : decode cX1_addObject 55 = .ok (.aload_n 0, 1) := by decide +kernel
theorem dX1_addObject_56 : decode cX1_addObject 56 = .ok (.getfield 18, 3) := by decide +kernel
theorem dX1_addObject_59 : decode cX1_addObject 59 = .ok (.invokevirtual 44, 3) := by decide +kernel
theorem dX1_addObject_62 : decode cX1_addObject 62 = .ok (.aload_n 0, 1) := by decide +kernel
theorem dX1_addObject_63 : decode cX1_addObject 63 = .ok (.getfield 12, 3) := by decide +kernel
theorem dX1_addObject_66 : decode cX1_addObject 66 = .ok (.getfield 60, 3) := by decide +kernel
theorem dX1_addObject_69 : decode cX1_addObject 69 = .ok (.iconst 1, 1) := by decide +kernel
theorem dX1_addObject_70 : decode cX1_addObject 70 = .ok (.isub, 1) := by decide +kernel
theorem dX1_addObject_71 : decode cX1_addObject 71 = .ok (.ireturn, 1) := by decide +kernel
theorem dX1_fromNothing_0 : decode cX1_fromNothing 0 = .ok (.aload_n 0, 1) := by decide +kernel
theorem dX1_fromNothing_1 : decode cX1_fromNothing 1 = .ok (.getfield 40, 3) := by decide +kernel
theorem dX1_fromNothing_4 : decode cX1_fromNothing 4 = .ok (.getfield 63, 3) := by decide +kernel
theorem dX1_fromNothing_7 : decode cX1_fromNothing 7 = .ok (.iload_n 1, 1) := by decide +kernel
theorem dX1_fromNothing_8 : decode cX1_fromNothing 8 = .ok (.aaload, 1) := by decide +kernel
theorem dX1_fromNothing_9 : decode cX1_fromNothing 9 = .ok (.aload_n 0, 1) := by decide +kernel
theorem dX1_fromNothing_10 : decode cX1_fromNothing 10 = .ok (.getfield 12, 3) := by decide +kernel
theorem dX1_fromNothing_13 : decode cX1_fromNothing 13 = .ok (.invokevirtual 67, 3) := by decide +kernel
theorem dX1_fromNothing_16 : decode cX1_fromNothing 16 = .ok (.lreturn, 1) := by decide +kernel
theorem dX1_isFalse_0 : decode cX1_isFalse 0 = .ok (.aload_n 0, 1) := by decide +kernel
theorem dX1_isFalse_1 : decode cX1_isFalse 1 = .ok (.getfield 21, 3) := by decide +kernel
theorem dX1_isFalse_4 : decode cX1_isFalse 4 = .ok (.iload_n 1, 1) := by decide +kernel
theorem dX1_isFalse_5 : decode cX1_isFalse 5 = .ok (.laload, 1) := by decide +kernel
theorem dX1_isFalse_6 : decode cX1_isFalse 6 = .ok (.aload_n 0, 1) := by decide +kernel
theorem dX1_isFalse_7 : decode cX1_isFalse 7 = .ok (.getfield 40, 3) := by decide +kernel
theorem dX1_isFalse_10 : decode cX1_isFalse 10 = .ok (.getfield 63, 3) := by decide +kernel
theorem dX1_isFalse_13 : decode cX1_isFalse 13 = .ok (.iload_n 1, 1) := by decide +kernel
theorem dX1_isFalse_14 : decode cX1_isFalse 14 = .ok (.aaload, 1) := by decide +kernel
theorem dX1_isFalse_15 : decode cX1_isFalse 15 = .ok (.aload_n 0, 1) := by decide +kernel
theorem dX1_isFalse_16 : decode cX1_isFalse 16 = .ok (.getfield 12, 3) := by decide +kernel
theorem dX1_isFalse_19 : decode cX1_isFalse 19 = .ok (.invokevirtual 67, 3) := by decide +kernel
theorem dX1_isFalse_22 : decode cX1_isFalse 22 = .ok (.lcmp, 1) := by decide +kernel
theorem dX1_isFalse_23 : decode cX1_isFalse 23 = .ok (.ifCond .eq 7, 3) := by decide +kernel
theorem dX1_isFalse_26 : decode cX1_isFalse 26 = .ok (.iconst 1, 1) := by decide +kernel
theorem dX1_isFalse_27 : decode cX1_isFalse 27 = .ok (.goto 4, 3) := by decide +kernel
theorem dX1_isFalse_30 : decode cX1_isFalse 30 = .ok (.iconst 0, 1) := by decide +kernel
theorem dX1_isFalse_31 : decode cX1_isFalse 31 = .ok (.ireturn, 1) := by decide +kernel
theorem dX1_firstFalse_0 : decode cX1_firstFalse 0 = .ok (.iconst 0, 1) := by decide +kernel
theorem dX1_firstFalse_1 : decode cX1_firstFalse 1 = .ok (.istore_n 1, 1) := by decide +kernel
theorem dX1_firstFalse_2 : decode cX1_firstFalse 2 = .ok (.iload_n 1, 1) := by decide +kernel
theorem dX1_firstFalse_3 : decode cX1_firstFalse 3 = .ok (.aload_n 0, 1) := by decide +kernel
theorem dX1_firstFalse_4 : decode cX1_firstFalse 4 = .ok (.getfield 40, 3) := by decide +kernel
theorem dX1_firstFalse_7 : decode cX1_firstFalse 7 = .ok (.getfield 48, 3) := by decide +kernel
theorem dX1_firstFalse_10 : decode cX1_firstFalse 10 = .ok (.if_icmp .ge 19, 3) := by decide +kernel
theorem dX1_firstFalse_13 : decode cX1_firstFalse 13 = .ok (.aload_n 0, 1) := by decide +kernel
theorem dX1_firstFalse_14 : decode cX1_firstFalse 14 = .ok (.iload_n 1, 1) := by decide +kernel
theorem dX1_firstFalse_15 : decode cX1_firstFalse 15 = .ok (.invokevirtual 73, 3) := by decide +kernel
theorem dX1_firstFalse_18 : decode cX1_firstFalse 18 = .ok (.ifCond .eq 5, 3) := by decide +kernel
theorem dX1_firstFalse_21 : decode cX1_firstFalse 21 = .ok (.iload_n 1, 1) := by decide +kernel
theorem dX1_firstFalse_22 : decode cX1_firstFalse 22 = .ok (.ireturn, 1) := by decide +kernel
theorem dX1_firstFalse_23 : decode cX1_firstFalse 23 = .ok (.iinc 1 1, 3) := by decide +kernel
theorem dX1_firstFalse_26 : decode cX1_firstFalse 26 = .ok (.goto (-24), 3) := by decide +kernel
theorem dX1_firstFalse_29 : decode cX1_firstFalse 29 = .ok (.iconst (-1), 1) := by decide +kernel
theorem dX1_firstFalse_30 : decode cX1_firstFalse 30 = .ok (.ireturn, 1) := by decide +kernel
theorem dX1_scoreNow_0 : decode cX1_scoreNow 0 = .ok (.lconst 0, 1) := by decide +kernel
theorem dX1_scoreNow_1 : decode cX1_scoreNow 1 = .ok (.lstore_n 2, 1) := by decide +kernel
theorem dX1_scoreNow_2 : decode cX1_scoreNow 2 = .ok (.iconst 0, 1) := by decide +kernel
theorem dX1_scoreNow_3 : decode cX1_scoreNow 3 = .ok (.istore 4, 2) := by decide +kernel
theorem dX1_scoreNow_5 : decode cX1_scoreNow 5 = .ok (.iload 4, 2) := by decide +kernel
theorem dX1_scoreNow_7 : decode cX1_scoreNow 7 = .ok (.aload_n 0, 1) := by decide +kernel
theorem dX1_scoreNow_8 : decode cX1_scoreNow 8 = .ok (.getfield 40, 3) := by decide +kernel
theorem dX1_scoreNow_11 : decode cX1_scoreNow 11 = .ok (.getfield 48, 3) := by decide +kernel
theorem dX1_scoreNow_14 : decode cX1_scoreNow 14 = .ok (.if_icmp .ge 36, 3) := by decide +kernel
theorem dX1_scoreNow_17 : decode cX1_scoreNow 17 = .ok (.aload_n 0, 1) := by decide +kernel
theorem dX1_scoreNow_18 : decode cX1_scoreNow 18 = .ok (.getfield 40, 3) := by decide +kernel
theorem dX1_scoreNow_21 : decode cX1_scoreNow 21 = .ok (.getfield 63, 3) := by decide +kernel
theorem dX1_scoreNow_24 : decode cX1_scoreNow 24 = .ok (.iload 4, 2) := by decide +kernel
theorem dX1_scoreNow_26 : decode cX1_scoreNow 26 = .ok (.aaload, 1) := by decide +kernel
theorem dX1_scoreNow_27 : decode cX1_scoreNow 27 = .ok (.getfield 77, 3) := by decide +kernel
theorem dX1_scoreNow_30 : decode cX1_scoreNow 30 = .ok (.iload_n 1, 1) := by decide +kernel
theorem dX1_scoreNow_31 : decode cX1_scoreNow 31 = .ok (.if_icmp .ne 13, 3) := by decide +kernel
theorem dX1_scoreNow_34 : decode cX1_scoreNow 34 = .ok (.lload_n 2, 1) := by decide +kernel
theorem dX1_scoreNow_35 : decode cX1_scoreNow 35 = .ok (.aload_n 0, 1) := by decide +kernel
theorem dX1_scoreNow_36 : decode cX1_scoreNow 36 = .ok (.getfield 21, 3) := by decide +kernel
theorem dX1_scoreNow_39 : decode cX1_scoreNow 39 = .ok (.iload 4, 2) := by decide +kernel
theorem dX1_scoreNow_41 : decode cX1_scoreNow 41 = .ok (.laload, 1) := by decide +kernel
theorem dX1_scoreNow_42 : decode cX1_scoreNow 42 = .ok (.ladd, 1) := by decide +kernel
theorem dX1_scoreNow_43 : decode cX1_scoreNow 43 = .ok (.lstore_n 2, 1) := by decide +kernel
theorem dX1_scoreNow_44 : decode cX1_scoreNow 44 = .ok (.iinc 4 1, 3) := by decide +kernel
theorem dX1_scoreNow_47 : decode cX1_scoreNow 47 = .ok (.goto (-42), 3) := by decide +kernel
theorem dX1_scoreNow_50 : decode cX1_scoreNow 50 = .ok (.lload_n 2, 1) := by decide +kernel
theorem dX1_scoreNow_51 : decode cX1_scoreNow 51 = .ok (.lreturn, 1) := by decide +kernel
theorem dX1_scoreBehind_0 : decode cX1_scoreBehind 0 = .ok (.aload_n 0, 1) := by decide +kernel
theorem dX1_scoreBehind_1 : decode cX1_scoreBehind 1 = .ok (.iload 4, 2) := by decide +kernel
theorem dX1_scoreBehind_3 : decode cX1_scoreBehind 3 = .ok (.invokevirtual 80, 3) := by decide +kernel
theorem dX1_scoreBehind_6 : decode cX1_scoreBehind 6 = .ok (.lstore 5, 2) := by decide +kernel
theorem dX1_scoreBehind_8 : decode cX1_scoreBehind 8 = .ok (.aload_n 0, 1) := by decide +kernel
theorem dX1_scoreBehind_9 : decode cX1_scoreBehind 9 = .ok (.getfield 12, 3) := by decide +kernel
theorem dX1_scoreBehind_12 : decode cX1_scoreBehind 12 = .ok (.iload_n 1, 1) := by decide +kernel
theorem dX1_scoreBehind_13 : decode cX1_scoreBehind 13 = .ok (.iload_n 2, 1) := by decide +kernel
theorem dX1_scoreBehind_14 : decode cX1_scoreBehind 14 = .ok (.iload_n 3, 1) := by decide +kernel
theorem dX1_scoreBehind_15 : decode cX1_scoreBehind 15 = .ok (.invokevirtual 83, 3) := by decide +kernel
theorem dX1_scoreBehind_18 : decode cX1_scoreBehind 18 = .ok (.ifCond .ne 6, 3) := by decide +kernel
theorem dX1_scoreBehind_21 : decode cX1_scoreBehind 21 = .ok (.lload 5, 2) := by decide +kernel
theorem dX1_scoreBehind_23 : decode cX1_scoreBehind 23 = .ok (.lreturn, 1) := by decide +kernel
theorem dX1_scoreBehind_24 : decode cX1_scoreBehind 24 = .ok (.aload_n 0, 1) := by decide +kernel
theorem dX1_scoreBehind_25 : decode cX1_scoreBehind 25 = .ok (.iload_n 1, 1) := by decide +kernel
theorem dX1_scoreBehind_26 : decode cX1_scoreBehind 26 = .ok (.iload_n 2, 1) := by decide +kernel
theorem dX1_scoreBehind_27 : decode cX1_scoreBehind 27 = .ok (.iload_n 3, 1) := by decide +kernel
theorem dX1_scoreBehind_28 : decode cX1_scoreBehind 28 = .ok (.invokevirtual 87, 3) := by decide +kernel
theorem dX1_scoreBehind_31 : decode cX1_scoreBehind 31 = .ok (.iconst 0, 1) := by decide +kernel
theorem dX1_scoreBehind_32 : decode cX1_scoreBehind 32 = .ok (.istore 7, 2) := by decide +kernel
theorem dX1_scoreBehind_34 : decode cX1_scoreBehind 34 = .ok (.iload 7, 2) := by decide +kernel
theorem dX1_scoreBehind_36 : decode cX1_scoreBehind 36 = .ok (.aload_n 0, 1) := by decide +kernel
theorem dX1_scoreBehind_37 : decode cX1_scoreBehind 37 = .ok (.getfield 40, 3) := by decide +kernel
theorem dX1_scoreBehind_40 : decode cX1_scoreBehind 40 = .ok (.getfield 48, 3) := by decide +kernel
theorem dX1_scoreBehind_43 : decode cX1_scoreBehind 43 = .ok (.if_icmp .ge 38, 3) := by decide +kernel
theorem dX1_scoreBehind_46 : decode cX1_scoreBehind 46 = .ok (.aload_n 0, 1) := by decide +kernel
theorem dX1_scoreBehind_47 : decode cX1_scoreBehind 47 = .ok (.getfield 40, 3) := by decide +kernel
theorem dX1_scoreBehind_50 : decode cX1_scoreBehind 50 = .ok (.getfield 63, 3) := by decide +kernel
theorem dX1_scoreBehind_53 : decode cX1_scoreBehind 53 = .ok (.iload 7, 2) := by decide +kernel
theorem dX1_scoreBehind_55 : decode cX1_scoreBehind 55 = .ok (.aaload, 1) := by decide +kernel
theorem dX1_scoreBehind_56 : decode cX1_scoreBehind 56 = .ok (.getfield 77, 3) := by decide +kernel
theorem dX1_scoreBehind_59 : decode cX1_scoreBehind 59 = .ok (.iload 4, 2) := by decide +kernel
theorem dX1_scoreBehind_61 : decode cX1_scoreBehind 61 = .ok (.if_icmp .ne 14, 3) := by decide +kernel
theorem dX1_scoreBehind_64 : decode cX1_scoreBehind 64 = .ok (.lload 5, 2) := by decide +kernel
theorem dX1_scoreBehind_66 : decode cX1_scoreBehind 66 = .ok (.aload_n 0, 1) := by decide +kernel
theorem dX1_scoreBehind_67 : decode cX1_scoreBehind 67 = .ok (.iload 7, 2) := by decide +kernel
theorem dX1_scoreBehind_69 : decode cX1_scoreBehind 69 = .ok (.invokevirtual 91, 3) := by decide +kernel
theorem dX1_scoreBehind_72 : decode cX1_scoreBehind 72 = .ok (.ladd, 1) := by decide +kernel
theorem dX1_scoreBehind_73 : decode cX1_scoreBehind 73 = .ok (.lstore 5, 2) := by decide +kernel
theorem dX1_scoreBehind_75 : decode cX1_scoreBehind 75 = .ok (.iinc 7 1, 3) := by decide +kernel
theorem dX1_scoreBehind_78 : decode cX1_scoreBehind 78 = .ok (.goto (-44), 3) := by decide +kernel
theorem dX1_scoreBehind_81 : decode cX1_scoreBehind 81 = .ok (.lload 5, 2) := by decide +kernel
theorem dX1_scoreBehind_83 : decode cX1_scoreBehind 83 = .ok (.lreturn, 1) := by decide +kernel
theorem dX1_makeChange_0 : decode cX1_makeChange 0 = .ok (.aload_n 0, 1) := by decide +kernel
theorem dX1_makeChange_1 : decode cX1_makeChange 1 = .ok (.getfield 12, 3) := by decide +kernel
theorem dX1_makeChange_4 : decode cX1_makeChange 4 = .ok (.iload_n 1, 1) := by decide +kernel
theorem dX1_makeChange_5 : decode cX1_makeChange 5 = .ok (.iload_n 2, 1) := by decide +kernel
theorem dX1_makeChange_6 : decode cX1_makeChange 6 = .ok (.iload_n 3, 1) := by decide +kernel
theorem dX1_makeChange_7 : decode cX1_makeChange 7 = .ok (.invokevirtual 83, 3) := by decide +kernel
theorem dX1_makeChange_10 : decode cX1_makeChange 10 = .ok (.ifCond .ne 5, 3) := by decide +kernel
theorem dX1_makeChange_13 : decode cX1_makeChange 13 = .ok (.iconst (-1), 1) := by decide +kernel
theorem dX1_makeChange_14 : decode cX1_makeChange 14 = .ok (.ireturn, 1) := by decide +kernel
theorem dX1_makeChange_15 : decode cX1_makeChange 15 = .ok (.aload_n 0, 1) := by decide +kernel
theorem dX1_makeChange_16 : decode cX1_makeChange 16 = .ok (.getfield 32, 3) := by decide +kernel
theorem dX1_makeChange_19 : decode cX1_makeChange 19 = .ok (.iload_n 1, 1) := by decide +kernel
theorem dX1_makeChange_20 : decode cX1_makeChange 20 = .ok (.iload_n 2, 1) := by decide +kernel
theorem dX1_makeChange_21 : decode cX1_makeChange 21 = .ok (.aload_n 0, 1) := by decide +kernel
theorem dX1_makeChange_22 : decode cX1_makeChange 22 = .ok (.getfield 12, 3) := by decide +kernel
theorem dX1_makeChange_25 : decode cX1_makeChange 25 = .ok (.getfield 94, 3) := by decide +kernel
theorem dX1_makeChange_28 : decode cX1_makeChange 28 = .ok (.iload_n 2, 1) := by decide +kernel
theorem dX1_makeChange_29 : decode cX1_makeChange 29 = .ok (.aaload, 1) := by decide +kernel
theorem dX1_makeChange_30 : decode cX1_makeChange 30 = .ok (.iload_n 1, 1) := by decide +kernel
theorem dX1_makeChange_31 : decode cX1_makeChange 31 = .ok (.iaload, 1) := by decide +kernel
theorem dX1_makeChange_32 : decode cX1_makeChange 32 = .ok (.aload_n 0, 1) := by decide +kernel
theorem dX1_makeChange_33 : decode cX1_makeChange 33 = .ok (.getfield 21, 3) := by decide +kernel
theorem dX1_makeChange_36 : decode cX1_makeChange 36 = .ok (.invokevirtual 98, 3) := by decide +kernel
theorem dX1_makeChange_39 : decode cX1_makeChange 39 = .ok (.aload_n 0, 1) := by decide +kernel
theorem dX1_makeChange_40 : decode cX1_makeChange 40 = .ok (.getfield 102, 3) := by decide +kernel
theorem dX1_makeChange_43 : decode cX1_makeChange 43 = .ok (.ifCond .eq 18, 3) := by decide +kernel
theorem dX1_makeChange_46 : decode cX1_makeChange 46 = .ok (.aload_n 0, 1) := by decide +kernel
theorem dX1_makeChange_47 : decode cX1_makeChange 47 = .ok (.aload_n 0, 1) := by decide +kernel
theorem dX1_makeChange_48 : decode cX1_makeChange 48 = .ok (.getfield 106, 3) := by decide +kernel
theorem dX1_makeChange_51 : decode cX1_makeChange 51 = .ok (.iconst 1, 1) := by decide +kernel
theorem dX1_makeChange_52 : decode cX1_makeChange 52 = .ok (.iadd, 1) := by decide +kernel
theorem dX1_makeChange_53 : decode cX1_makeChange 53 = .ok (.bipush 60, 2) := by decide +kernel
theorem dX1_makeChange_55 : decode cX1_makeChange 55 = .ok (.invokestatic 109, 3) := by decide +kernel
theorem dX1_makeChange_58 : decode cX1_makeChange 58 = .ok (.putfield 106, 3) := by decide +kernel
theorem dX1_makeChange_61 : decode cX1_makeChange 61 = .ok (.aload_n 0, 1) := by decide +kernel
theorem dX1_makeChange_62 : decode cX1_makeChange 62 = .ok (.iload_n 1, 1) := by decide +kernel
theorem dX1_makeChange_63 : decode cX1_makeChange 63 = .ok (.iload_n 2, 1) := by decide +kernel
theorem dX1_makeChange_64 : decode cX1_makeChange 64 = .ok (.iload_n 3, 1) := by decide +kernel
theorem dX1_makeChange_65 : decode cX1_makeChange 65 = .ok (.invokevirtual 87, 3) := by decide +kernel
theorem dX1_makeChange_68 : decode cX1_makeChange 68 = .ok (.iconst 0, 1) := by decide +kernel
theorem dX1_makeChange_69 : decode cX1_makeChange 69 = .ok (.istore 5, 2) := by decide +kernel
theorem dX1_makeChange_71 : decode cX1_makeChange 71 = .ok (.iload 5, 2) := by decide +kernel
theorem dX1_makeChange_73 : decode cX1_makeChange 73 = .ok (.aload_n 0, 1) := by decide +kernel
theorem dX1_makeChange_74 : decode cX1_makeChange 74 = .ok (.getfield 40, 3) := by decide +kernel
theorem dX1_makeChange_77 : decode cX1_makeChange 77 = .ok (.getfield 48, 3) := by decide +kernel
theorem dX1_makeChange_80 : decode cX1_makeChange 80 = .ok (.if_icmp .ge 25, 3) := by decide +kernel
theorem dX1_makeChange_83 : decode cX1_makeChange 83 = .ok (.aload_n 0, 1) := by decide +kernel
theorem dX1_makeChange_84 : decode cX1_makeChange 84 = .ok (.getfield 21, 3) := by decide +kernel
theorem dX1_makeChange_87 : decode cX1_makeChange 87 = .ok (.iload 5, 2) := by decide +kernel
theorem dX1_makeChange_89 : decode cX1_makeChange 89 = .ok (.dup2, 1) := by decide +kernel
theorem dX1_makeChange_90 : decode cX1_makeChange 90 = .ok (.laload, 1) := by decide +kernel
theorem dX1_makeChange_91 : decode cX1_makeChange 91 = .ok (.aload_n 0, 1) := by decide +kernel
theorem dX1_makeChange_92 : decode cX1_makeChange 92 = .ok (.iload 5, 2) := by decide +kernel
theorem dX1_makeChange_94 : decode cX1_makeChange 94 = .ok (.invokevirtual 91, 3) := by decide +kernel
theorem dX1_makeChange_97 : decode cX1_makeChange 97 = .ok (.ladd, 1) := by decide +kernel
theorem dX1_makeChange_98 : decode cX1_makeChange 98 = .ok (.lastore, 1) := by decide +kernel
theorem dX1_makeChange_99 : decode cX1_makeChange 99 = .ok (.iinc 5 1, 3) := by decide +kernel
theorem dX1_makeChange_102 : decode cX1_makeChange 102 = .ok (.goto (-31), 3) := by decide +kernel
theorem dX1_makeChange_105 : decode cX1_makeChange 105 = .ok (.aload_n 0, 1) := by decide +kernel
theorem dX1_makeChange_106 : decode cX1_makeChange 106 = .ok (.getfield 12, 3) := by decide +kernel
theorem dX1_makeChange_109 : decode cX1_makeChange 109 = .ok (.aload_n 0, 1) := by decide +kernel
theorem dX1_makeChange_110 : decode cX1_makeChange 110 = .ok (.getfield 18, 3) := by decide +kernel
theorem dX1_makeChange_113 : decode cX1_makeChange 113 = .ok (.invokevirtual 115, 3) := by decide +kernel
theorem dX1_makeChange_116 : decode cX1_makeChange 116 = .ok (.istore 5, 2) := by decide +kernel
theorem dX1_makeChange_118 : decode cX1_makeChange 118 = .ok (.aload_n 0, 1) := by decide +kernel
theorem dX1_makeChange_119 : decode cX1_makeChange 119 = .ok (.invokevirtual 119, 3) := by decide +kernel
theorem dX1_makeChange_122 : decode cX1_makeChange 122 = .ok (.aload_n 0, 1) := by decide +kernel
theorem dX1_makeChange_123 : decode cX1_makeChange 123 = .ok (.dup, 1) := by decide +kernel
theorem dX1_makeChange_124 : decode cX1_makeChange 124 = .ok (.getfield 122, 3) := by decide +kernel
theorem dX1_makeChange_127 : decode cX1_makeChange 127 = .ok (.iconst 1, 1) := by decide +kernel
theorem dX1_makeChange_128 : decode cX1_makeChange 128 = .ok (.iadd, 1) := by decide +kernel
theorem dX1_makeChange_129 : decode cX1_makeChange 129 = .ok (.putfield 122, 3) := by decide +kernel
theorem dX1_makeChange_132 : decode cX1_makeChange 132 = .ok (.iload 4, 2) := by decide +kernel
theorem dX1_makeChange_134 : decode cX1_makeChange 134 = .ok (.ifCond .le 21, 3) := by decide +kernel
theorem dX1_makeChange_137 : decode cX1_makeChange 137 = .ok (.aload_n 0, 1) := by decide +kernel
theorem dX1_makeChange_138 : decode cX1_makeChange 138 = .ok (.getfield 122, 3) := by decide +kernel
theorem dX1_makeChange_141 : decode cX1_makeChange 141 = .ok (.iload 4, 2) := by decide +kernel
theorem dX1_makeChange_143 : decode cX1_makeChange 143 = .ok (.irem, 1) := by decide +kernel
theorem dX1_makeChange_144 : decode cX1_makeChange 144 = .ok (.ifCond .ne 11, 3) := by decide +kernel
theorem dX1_makeChange_147 : decode cX1_makeChange 147 = .ok (.aload_n 0, 1) := by decide +kernel
theorem dX1_makeChange_148 : decode cX1_makeChange 148 = .ok (.aload_n 0, 1) := by decide +kernel
theorem dX1_makeChange_149 : decode cX1_makeChange 149 = .ok (.invokevirtual 125, 3) := by decide +kernel
theorem dX1_makeChange_152 : decode cX1_makeChange 152 = .ok (.putfield 36, 3) := by decide +kernel
theorem dX1_makeChange_155 : decode cX1_makeChange 155 = .ok (.iload 5, 2) := by decide +kernel
theorem dX1_makeChange_157 : decode cX1_makeChange 157 = .ok (.ireturn, 1) := by decide +kernel
theorem dX1_undoable_0 : decode cX1_undoable 0 = .ok (.aload_n 0, 1) := by decide +kernel
theorem dX1_undoable_1 : decode cX1_undoable 1 = .ok (.getfield 102, 3) := by decide +kernel
theorem dX1_undoable_4 : decode cX1_undoable 4 = .ok (.ifCond .eq 10, 3) := by decide +kernel
theorem dX1_undoable_7 : decode cX1_undoable 7 = .ok (.aload_n 0, 1) := by decide +kernel
theorem dX1_undoable_8 : decode cX1_undoable 8 = .ok (.getfield 106, 3) := by decide +kernel
theorem dX1_undoable_11 : decode cX1_undoable 11 = .ok (.goto 10, 3) := by decide +kernel
theorem dX1_undoable_14 : decode cX1_undoable 14 = .ok (.aload_n 0, 1) := by decide +kernel
theorem dX1_undoable_15 : decode cX1_undoable 15 = .ok (.getfield 32, 3) := by decide +kernel
theorem dX1_undoable_18 : decode cX1_undoable 18 = .ok (.getfield 129, 3) := by decide +kernel
theorem dX1_undoable_21 : decode cX1_undoable 21 = .ok (.ireturn, 1) := by decide +kernel
theorem dX1_takeBack_0 : decode cX1_takeBack 0 = .ok (.aload_n 0, 1) := by decide +kernel
theorem dX1_takeBack_1 : decode cX1_takeBack 1 = .ok (.getfield 32, 3) := by decide +kernel
theorem dX1_takeBack_4 : decode cX1_takeBack 4 = .ok (.invokevirtual 132, 3) := by decide +kernel
theorem dX1_takeBack_7 : decode cX1_takeBack 7 = .ok (.istore_n 1, 1) := by decide +kernel
theorem dX1_takeBack_8 : decode cX1_takeBack 8 = .ok (.aload_n 0, 1) := by decide +kernel
theorem dX1_takeBack_9 : decode cX1_takeBack 9 = .ok (.getfield 102, 3) := by decide +kernel
theorem dX1_takeBack_12 : decode cX1_takeBack 12 = .ok (.ifCond .eq 13, 3) := by decide +kernel
theorem dX1_takeBack_15 : decode cX1_takeBack 15 = .ok (.aload_n 0, 1) := by decide +kernel
theorem dX1_takeBack_16 : decode cX1_takeBack 16 = .ok (.dup, 1) := by decide +kernel
theorem dX1_takeBack_17 : decode cX1_takeBack 17 = .ok (.getfield 106, 3) := by decide +kernel
theorem dX1_takeBack_20 : decode cX1_takeBack 20 = .ok (.iconst 1, 1) := by decide +kernel
theorem dX1_takeBack_21 : decode cX1_takeBack 21 = .ok (.isub, 1) := by decide +kernel
theorem dX1_takeBack_22 : decode cX1_takeBack 22 = .ok (.putfield 106, 3) := by decide +kernel
theorem dX1_takeBack_25 : decode cX1_takeBack 25 = .ok (.aload_n 0, 1) := by decide +kernel
theorem dX1_takeBack_26 : decode cX1_takeBack 26 = .ok (.aload_n 0, 1) := by decide +kernel
theorem dX1_takeBack_27 : decode cX1_takeBack 27 = .ok (.getfield 32, 3) := by decide +kernel
theorem dX1_takeBack_30 : decode cX1_takeBack 30 = .ok (.getfield 135, 3) := by decide +kernel
theorem dX1_takeBack_33 : decode cX1_takeBack 33 = .ok (.iload_n 1, 1) := by decide +kernel
theorem dX1_takeBack_34 : decode cX1_takeBack 34 = .ok (.iaload, 1) := by decide +kernel
theorem dX1_takeBack_35 : decode cX1_takeBack 35 = .ok (.aload_n 0, 1) := by decide +kernel
theorem dX1_takeBack_36 : decode cX1_takeBack 36 = .ok (.getfield 32, 3) := by decide +kernel
theorem dX1_takeBack_39 : decode cX1_takeBack 39 = .ok (.getfield 138, 3) := by decide +kernel
theorem dX1_takeBack_42 : decode cX1_takeBack 42 = .ok (.iload_n 1, 1) := by decide +kernel
theorem dX1_takeBack_43 : decode cX1_takeBack 43 = .ok (.iaload, 1) := by decide +kernel
theorem dX1_takeBack_44 : decode cX1_takeBack 44 = .ok (.aload_n 0, 1) := by decide +kernel
theorem dX1_takeBack_45 : decode cX1_takeBack 45 = .ok (.getfield 32, 3) := by decide +kernel
theorem dX1_takeBack_48 : decode cX1_takeBack 48 = .ok (.getfield 141, 3) := by decide +kernel
theorem dX1_takeBack_51 : decode cX1_takeBack 51 = .ok (.iload_n 1, 1) := by decide +kernel
theorem dX1_takeBack_52 : decode cX1_takeBack 52 = .ok (.iaload, 1) := by decide +kernel
theorem dX1_takeBack_53 : decode cX1_takeBack 53 = .ok (.invokevirtual 87, 3) := by decide +kernel
theorem dX1_takeBack_56 : decode cX1_takeBack 56 = .ok (.aload_n 0, 1) := by decide +kernel
theorem dX1_takeBack_57 : decode cX1_takeBack 57 = .ok (.getfield 32, 3) := by decide +kernel
theorem dX1_takeBack_60 : decode cX1_takeBack 60 = .ok (.getfield 144, 3) := by decide +kernel
theorem dX1_takeBack_63 : decode cX1_takeBack 63 = .ok (.iload_n 1, 1) := by decide +kernel
theorem dX1_takeBack_64 : decode cX1_takeBack 64 = .ok (.aaload, 1) := by decide +kernel
theorem dX1_takeBack_65 : decode cX1_takeBack 65 = .ok (.iconst 0, 1) := by decide +kernel
theorem dX1_takeBack_66 : decode cX1_takeBack 66 = .ok (.aload_n 0, 1) := by decide +kernel
theorem dX1_takeBack_67 : decode cX1_takeBack 67 = .ok (.getfield 21, 3) := by decide +kernel
theorem dX1_takeBack_70 : decode cX1_takeBack 70 = .ok (.iconst 0, 1) := by decide +kernel
theorem dX1_takeBack_71 : decode cX1_takeBack 71 = .ok (.bipush 12, 2) := by decide +kernel
theorem dX1_takeBack_73 : decode cX1_takeBack 73 = .ok (.invokestatic 147, 3) := by decide +kernel
theorem dX1_takeBack_76 : decode cX1_takeBack 76 = .ok (.aload_n 0, 1) := by decide +kernel
theorem dX1_takeBack_77 : decode cX1_takeBack 77 = .ok (.invokevirtual 119, 3) := by decide +kernel
theorem dX1_takeBack_80 : decode cX1_takeBack 80 = .ok (.return_, 1) := by decide +kernel
theorem dX1_closeBatch_0 : decode cX1_closeBatch 0 = .ok (.aload_n 0, 1) := by decide +kernel
theorem dX1_closeBatch_1 : decode cX1_closeBatch 1 = .ok (.getfield 106, 3) := by decide +kernel
theorem dX1_closeBatch_4 : decode cX1_closeBatch 4 = .ok (.istore_n 2, 1) := by decide +kernel
theorem dX1_closeBatch_5 : decode cX1_closeBatch 5 = .ok (.iconst 0, 1) := by decide +kernel
theorem dX1_closeBatch_6 : decode cX1_closeBatch 6 = .ok (.istore_n 3, 1) := by decide +kernel
theorem dX1_closeBatch_7 : decode cX1_closeBatch 7 = .ok (.iload_n 3, 1) := by decide +kernel
theorem dX1_closeBatch_8 : decode cX1_closeBatch 8 = .ok (.iload_n 2, 1) := by decide +kernel
theorem dX1_closeBatch_9 : decode cX1_closeBatch 9 = .ok (.if_icmp .ge 17, 3) := by decide +kernel
theorem dX1_closeBatch_12 : decode cX1_closeBatch 12 = .ok (.iload_n 1, 1) := by decide +kernel
theorem dX1_closeBatch_13 : decode cX1_closeBatch 13 = .ok (.ifCond .ne 13, 3) := by decide +kernel
theorem dX1_closeBatch_16 : decode cX1_closeBatch 16 = .ok (.aload_n 0, 1) := by decide +kernel
theorem dX1_closeBatch_17 : decode cX1_closeBatch 17 = .ok (.invokevirtual 153, 3) := by decide +kernel
theorem dX1_closeBatch_20 : decode cX1_closeBatch 20 = .ok (.iinc 3 1, 3) := by decide +kernel
theorem dX1_closeBatch_23 : decode cX1_closeBatch 23 = .ok (.goto (-16), 3) := by decide +kernel
theorem dX1_closeBatch_26 : decode cX1_closeBatch 26 = .ok (.aload_n 0, 1) := by decide +kernel
theorem dX1_closeBatch_27 : decode cX1_closeBatch 27 = .ok (.iconst 0, 1) := by decide +kernel
theorem dX1_closeBatch_28 : decode cX1_closeBatch 28 = .ok (.putfield 102, 3) := by decide +kernel
theorem dX1_closeBatch_31 : decode cX1_closeBatch 31 = .ok (.iload_n 2, 1) := by decide +kernel
theorem dX1_closeBatch_32 : decode cX1_closeBatch 32 = .ok (.ireturn, 1) := by decide +kernel
theorem dX1_figure_0 : decode cX1_figure 0 = .ok (.iload_n 1, 1) := by decide +kernel
theorem dX1_figure_1 : decode cX1_figure 1 = .ok (.tableswitch 75 0 5 #[39, 44, 52, 57, 62, 70], 39) := by decide +kernel
theorem dX1_figure_40 : decode cX1_figure 40 = .ok (.aload_n 0, 1) := by decide +kernel
theorem dX1_figure_41 : decode cX1_figure 41 = .ok (.getfield 122, 3) := by decide +kernel
theorem dX1_figure_44 : decode cX1_figure 44 = .ok (.ireturn, 1) := by decide +kernel
theorem dX1_figure_45 : decode cX1_figure 45 = .ok (.aload_n 0, 1) := by decide +kernel
theorem dX1_figure_46 : decode cX1_figure 46 = .ok (.getfield 32, 3) := by decide +kernel
theorem dX1_figure_49 : decode cX1_figure 49 = .ok (.getfield 129, 3) := by decide +kernel
theorem dX1_figure_52 : decode cX1_figure 52 = .ok (.ireturn, 1) := by decide +kernel
theorem dX1_figure_53 : decode cX1_figure 53 = .ok (.aload_n 0, 1) := by decide +kernel
theorem dX1_figure_54 : decode cX1_figure 54 = .ok (.getfield 156, 3) := by decide +kernel
theorem dX1_figure_57 : decode cX1_figure 57 = .ok (.ireturn, 1) := by decide +kernel
theorem dX1_figure_58 : decode cX1_figure 58 = .ok (.aload_n 0, 1) := by decide +kernel
theorem dX1_figure_59 : decode cX1_figure 59 = .ok (.getfield 36, 3) := by decide +kernel
theorem dX1_figure_62 : decode cX1_figure 62 = .ok (.ireturn, 1) := by decide +kernel
theorem dX1_figure_63 : decode cX1_figure 63 = .ok (.aload_n 0, 1) := by decide +kernel
theorem dX1_figure_64 : decode cX1_figure 64 = .ok (.getfield 102, 3) := by decide +kernel
theorem dX1_figure_67 : decode cX1_figure 67 = .ok (.invokestatic 159, 3) := by decide +kernel
theorem dX1_figure_70 : decode cX1_figure 70 = .ok (.ireturn, 1) := by decide +kernel
theorem dX1_figure_71 : decode cX1_figure 71 = .ok (.aload_n 0, 1) := by decide +kernel
theorem dX1_figure_72 : decode cX1_figure 72 = .ok (.invokevirtual 163, 3) := by decide +kernel
theorem dX1_figure_75 : decode cX1_figure 75 = .ok (.ireturn, 1) := by decide +kernel
theorem dX1_figure_76 : decode cX1_figure 76 = .ok (.iconst (-1), 1) := by decide +kernel
theorem dX1_figure_77 : decode cX1_figure 77 = .ok (.ireturn, 1) := by decide +kernel
theorem dX1_countForgetting_0 : decode cX1_countForgetting 0 = .ok (.iconst 0, 1) := by decide +kernel
theorem dX1_countForgetting_1 : decode cX1_countForgetting 1 = .ok (.istore_n 1, 1) := by decide +kernel
theorem dX1_countForgetting_2 : decode cX1_countForgetting 2 = .ok (.iconst 0, 1) := by decide +kernel
theorem dX1_countForgetting_3 : decode cX1_countForgetting 3 = .ok (.istore_n 2, 1) := by decide +kernel
theorem dX1_countForgetting_4 : decode cX1_countForgetting 4 = .ok (.iload_n 2, 1) := by decide +kernel
theorem dX1_countForgetting_5 : decode cX1_countForgetting 5 = .ok (.aload_n 0, 1) := by decide +kernel
theorem dX1_countForgetting_6 : decode cX1_countForgetting 6 = .ok (.getfield 40, 3) := by decide +kernel
theorem dX1_countForgetting_9 : decode cX1_countForgetting 9 = .ok (.getfield 48, 3) := by decide +kernel
theorem dX1_countForgetting_12 : decode cX1_countForgetting 12 = .ok (.if_icmp .ge 21, 3) := by decide +kernel
theorem dX1_countForgetting_15 : decode cX1_countForgetting 15 = .ok (.iload_n 1, 1) := by decide +kernel
theorem dX1_countForgetting_16 : decode cX1_countForgetting 16 = .ok (.aload_n 0, 1) := by decide +kernel
theorem dX1_countForgetting_17 : decode cX1_countForgetting 17 = .ok (.getfield 25, 3) := by decide +kernel
theorem dX1_countForgetting_20 : decode cX1_countForgetting 20 = .ok (.iload_n 2, 1) := by decide +kernel
theorem dX1_countForgetting_21 : decode cX1_countForgetting 21 = .ok (.baload, 1) := by decide +kernel
theorem dX1_countForgetting_22 : decode cX1_countForgetting 22 = .ok (.invokestatic 159, 3) := by decide +kernel
theorem dX1_countForgetting_25 : decode cX1_countForgetting 25 = .ok (.iadd, 1) := by decide +kernel
theorem dX1_countForgetting_26 : decode cX1_countForgetting 26 = .ok (.istore_n 1, 1) := by decide +kernel
theorem dX1_countForgetting_27 : decode cX1_countForgetting 27 = .ok (.iinc 2 1, 3) := by decide +kernel
theorem dX1_countForgetting_30 : decode cX1_countForgetting 30 = .ok (.goto (-26), 3) := by decide +kernel
theorem dX1_countForgetting_33 : decode cX1_countForgetting 33 = .ok (.iload_n 1, 1) := by decide +kernel
theorem dX1_countForgetting_34 : decode cX1_countForgetting 34 = .ok (.ireturn, 1) := by decide +kernel
theorem dX1_layOut_0 : decode cX1_layOut 0 = .ok (.aload_n 0, 1) := by decide +kernel
theorem dX1_layOut_1 : decode cX1_layOut 1 = .ok (.getfield 18, 3) := by decide +kernel
theorem dX1_layOut_4 : decode cX1_layOut 4 = .ok (.aload_n 0, 1) := by decide +kernel
theorem dX1_layOut_5 : decode cX1_layOut 5 = .ok (.getfield 12, 3) := by decide +kernel
theorem dX1_layOut_8 : decode cX1_layOut 8 = .ok (.invokevirtual 44, 3) := by decide +kernel
theorem dX1_layOut_11 : decode cX1_layOut 11 = .ok (.aload_n 0, 1) := by decide +kernel
theorem dX1_layOut_12 : decode cX1_layOut 12 = .ok (.getfield 18, 3) := by decide +kernel
theorem dX1_layOut_15 : decode cX1_layOut 15 = .ok (.iload_n 1, 1) := by decide +kernel
theorem dX1_layOut_16 : decode cX1_layOut 16 = .ok (.iload_n 2, 1) := by decide +kernel
theorem dX1_layOut_17 : decode cX1_layOut 17 = .ok (.iload_n 3, 1) := by decide +kernel
theorem dX1_layOut_18 : decode cX1_layOut 18 = .ok (.invokevirtual 166, 3) := by decide +kernel
theorem dX1_layOut_21 : decode cX1_layOut 21 = .ok (.return_, 1) := by decide +kernel
theorem dX1_moveOn_0 : decode cX1_moveOn 0 = .ok (.iconst 0, 1) := by decide +kernel
theorem dX1_moveOn_1 : decode cX1_moveOn 1 = .ok (.istore_n 1, 1) := by decide +kernel
theorem dX1_moveOn_2 : decode cX1_moveOn 2 = .ok (.iload_n 1, 1) := by decide +kernel
theorem dX1_moveOn_3 : decode cX1_moveOn 3 = .ok (.aload_n 0, 1) := by decide +kernel
theorem dX1_moveOn_4 : decode cX1_moveOn 4 = .ok (.getfield 40, 3) := by decide +kernel
theorem dX1_moveOn_7 : decode cX1_moveOn 7 = .ok (.getfield 48, 3) := by decide +kernel
theorem dX1_moveOn_10 : decode cX1_moveOn 10 = .ok (.if_icmp .ge 38, 3) := by decide +kernel
theorem dX1_moveOn_13 : decode cX1_moveOn 13 = .ok (.aload_n 0, 1) := by decide +kernel
theorem dX1_moveOn_14 : decode cX1_moveOn 14 = .ok (.dup, 1) := by decide +kernel
theorem dX1_moveOn_15 : decode cX1_moveOn 15 = .ok (.getfield 156, 3) := by decide +kernel
theorem dX1_moveOn_18 : decode cX1_moveOn 18 = .ok (.aload_n 0, 1) := by decide +kernel
theorem dX1_moveOn_19 : decode cX1_moveOn 19 = .ok (.getfield 40, 3) := by decide +kernel
theorem dX1_moveOn_22 : decode cX1_moveOn 22 = .ok (.getfield 63, 3) := by decide +kernel
theorem dX1_moveOn_25 : decode cX1_moveOn 25 = .ok (.iload_n 1, 1) := by decide +kernel
theorem dX1_moveOn_26 : decode cX1_moveOn 26 = .ok (.aaload, 1) := by decide +kernel
theorem dX1_moveOn_27 : decode cX1_moveOn 27 = .ok (.aload_n 0, 1) := by decide +kernel
theorem dX1_moveOn_28 : decode cX1_moveOn 28 = .ok (.getfield 12, 3) := by decide +kernel
theorem dX1_moveOn_31 : decode cX1_moveOn 31 = .ok (.aload_n 0, 1) := by decide +kernel
theorem dX1_moveOn_32 : decode cX1_moveOn 32 = .ok (.getfield 18, 3) := by decide +kernel
theorem dX1_moveOn_35 : decode cX1_moveOn 35 = .ok (.invokevirtual 169, 3) := by decide +kernel
theorem dX1_moveOn_38 : decode cX1_moveOn 38 = .ok (.iadd, 1) := by decide +kernel
theorem dX1_moveOn_39 : decode cX1_moveOn 39 = .ok (.putfield 156, 3) := by decide +kernel
theorem dX1_moveOn_42 : decode cX1_moveOn 42 = .ok (.iinc 1 1, 3) := by decide +kernel
theorem dX1_moveOn_45 : decode cX1_moveOn 45 = .ok (.goto (-43), 3) := by decide +kernel
theorem dX1_moveOn_48 : decode cX1_moveOn 48 = .ok (.aload_n 0, 1) := by decide +kernel
theorem dX1_moveOn_49 : decode cX1_moveOn 49 = .ok (.getfield 12, 3) := by decide +kernel
theorem dX1_moveOn_52 : decode cX1_moveOn 52 = .ok (.aload_n 0, 1) := by decide +kernel
theorem dX1_moveOn_53 : decode cX1_moveOn 53 = .ok (.getfield 18, 3) := by decide +kernel
theorem dX1_moveOn_56 : decode cX1_moveOn 56 = .ok (.invokevirtual 44, 3) := by decide +kernel
theorem dX1_moveOn_59 : decode cX1_moveOn 59 = .ok (.return_, 1) := by decide +kernel
theorem dX1_gainUnlessForgotten_0 : decode cX1_gainUnlessForgotten 0 = .ok (.aload_n 0, 1) := by decide +kernel
theorem dX1_gainUnlessForgotten_1 : decode cX1_gainUnlessForgotten 1 = .ok (.getfield 25, 3) := by decide +kernel
theorem dX1_gainUnlessForgotten_4 : decode cX1_gainUnlessForgotten 4 = .ok (.iload_n 1, 1) := by decide +kernel
theorem dX1_gainUnlessForgotten_5 : decode cX1_gainUnlessForgotten 5 = .ok (.baload, 1) := by decide +kernel
theorem dX1_gainUnlessForgotten_6 : decode cX1_gainUnlessForgotten 6 = .ok (.ifCond .ne 26, 3) := by decide +kernel
theorem dX1_gainUnlessForgotten_9 : decode cX1_gainUnlessForgotten 9 = .ok (.aload_n 0, 1) := by decide +kernel
theorem dX1_gainUnlessForgotten_10 : decode cX1_gainUnlessForgotten 10 = .ok (.getfield 40, 3) := by decide +kernel
theorem dX1_gainUnlessForgotten_13 : decode cX1_gainUnlessForgotten 13 = .ok (.getfield 63, 3) := by decide +kernel
theorem dX1_gainUnlessForgotten_16 : decode cX1_gainUnlessForgotten 16 = .ok (.iload_n 1, 1) := by decide +kernel
theorem dX1_gainUnlessForgotten_17 : decode cX1_gainUnlessForgotten 17 = .ok (.aaload, 1) := by decide +kernel
theorem dX1_gainUnlessForgotten_18 : decode cX1_gainUnlessForgotten 18 = .ok (.aload_n 0, 1) := by decide +kernel
theorem dX1_gainUnlessForgotten_19 : decode cX1_gainUnlessForgotten 19 = .ok (.getfield 12, 3) := by decide +kernel
theorem dX1_gainUnlessForgotten_22 : decode cX1_gainUnlessForgotten 22 = .ok (.aload_n 0, 1) := by decide +kernel
theorem dX1_gainUnlessForgotten_23 : decode cX1_gainUnlessForgotten 23 = .ok (.getfield 18, 3) := by decide +kernel
theorem dX1_gainUnlessForgotten_26 : decode cX1_gainUnlessForgotten 26 = .ok (.invokevirtual 169, 3) := by decide +kernel
theorem dX1_gainUnlessForgotten_29 : decode cX1_gainUnlessForgotten 29 = .ok (.ifCond .ne 7, 3) := by decide +kernel
theorem dX1_gainUnlessForgotten_32 : decode cX1_gainUnlessForgotten 32 = .ok (.iconst 1, 1) := by decide +kernel
theorem dX1_gainUnlessForgotten_33 : decode cX1_gainUnlessForgotten 33 = .ok (.goto 4, 3) := by decide +kernel
theorem dX1_gainUnlessForgotten_36 : decode cX1_gainUnlessForgotten 36 = .ok (.iconst 0, 1) := by decide +kernel
theorem dX1_gainUnlessForgotten_37 : decode cX1_gainUnlessForgotten 37 = .ok (.istore_n 2, 1) := by decide +kernel
theorem dX1_gainUnlessForgotten_38 : decode cX1_gainUnlessForgotten 38 = .ok (.iload_n 2, 1) := by decide +kernel
theorem dX1_gainUnlessForgotten_39 : decode cX1_gainUnlessForgotten 39 = .ok (.ifCond .eq 7, 3) := by decide +kernel
theorem dX1_gainUnlessForgotten_42 : decode cX1_gainUnlessForgotten 42 = .ok (.lconst 0, 1) := by decide +kernel
theorem dX1_gainUnlessForgotten_43 : decode cX1_gainUnlessForgotten 43 = .ok (.goto 8, 3) := by decide +kernel
theorem dX1_gainUnlessForgotten_46 : decode cX1_gainUnlessForgotten 46 = .ok (.aload_n 0, 1) := by decide +kernel
theorem dX1_gainUnlessForgotten_47 : decode cX1_gainUnlessForgotten 47 = .ok (.iload_n 1, 1) := by decide +kernel
theorem dX1_gainUnlessForgotten_48 : decode cX1_gainUnlessForgotten 48 = .ok (.invokevirtual 56, 3) := by decide +kernel
theorem dX1_gainUnlessForgotten_51 : decode cX1_gainUnlessForgotten 51 = .ok (.lreturn, 1) := by decide +kernel
theorem dX1_gain_0 : decode cX1_gain 0 = .ok (.aload_n 0, 1) := by decide +kernel
theorem dX1_gain_1 : decode cX1_gain 1 = .ok (.getfield 40, 3) := by decide +kernel
theorem dX1_gain_4 : decode cX1_gain 4 = .ok (.getfield 63, 3) := by decide +kernel
theorem dX1_gain_7 : decode cX1_gain 7 = .ok (.iload_n 1, 1) := by decide +kernel
theorem dX1_gain_8 : decode cX1_gain 8 = .ok (.aaload, 1) := by decide +kernel
theorem dX1_gain_9 : decode cX1_gain 9 = .ok (.aload_n 0, 1) := by decide +kernel
theorem dX1_gain_10 : decode cX1_gain 10 = .ok (.getfield 18, 3) := by decide +kernel
theorem dX1_gain_13 : decode cX1_gain 13 = .ok (.invokevirtual 67, 3) := by decide +kernel
theorem dX1_gain_16 : decode cX1_gain 16 = .ok (.aload_n 0, 1) := by decide +kernel
theorem dX1_gain_17 : decode cX1_gain 17 = .ok (.getfield 40, 3) := by decide +kernel
theorem dX1_gain_20 : decode cX1_gain 20 = .ok (.getfield 63, 3) := by decide +kernel
theorem dX1_gain_23 : decode cX1_gain 23 = .ok (.iload_n 1, 1) := by decide +kernel
theorem dX1_gain_24 : decode cX1_gain 24 = .ok (.aaload, 1) := by decide +kernel
theorem dX1_gain_25 : decode cX1_gain 25 = .ok (.aload_n 0, 1) := by decide +kernel
theorem dX1_gain_26 : decode cX1_gain 26 = .ok (.getfield 12, 3) := by decide +kernel
theorem dX1_gain_29 : decode cX1_gain 29 = .ok (.invokevirtual 67, 3) := by decide +kernel
theorem dX1_gain_32 : decode cX1_gain 32 = .ok (.lsub, 1) := by decide +kernel
theorem dX1_gain_33 : decode cX1_gain 33 = .ok (.lreturn, 1) := by decide +kernel
theorem dX2_init_0 : decode cX2_init 0 = .ok (.aload_n 0, 1) := by decide +kernel
theorem dX2_init_1 : decode cX2_init 1 = .ok (.invokespecial 3, 3) := by decide +kernel
theorem dX2_init_4 : decode cX2_init 4 = .ok (.aload_n 0, 1) := by decide +kernel
theorem dX2_init_5 : decode cX2_init 5 = .ok (.iload_n 1, 1) := by decide +kernel
theorem dX2_init_6 : decode cX2_init 6 = .ok (.putfield 9, 3) := by decide +kernel
theorem dX2_init_9 : decode cX2_init 9 = .ok (.aload_n 0, 1) := by decide +kernel
theorem dX2_init_10 : decode cX2_init 10 = .ok (.iload_n 2, 1) := by decide +kernel
theorem dX2_init_11 : decode cX2_init 11 = .ok (.putfield 15, 3) := by decide +kernel
theorem dX2_init_14 : decode cX2_init 14 = .ok (.aload_n 0, 1) := by decide +kernel
theorem dX2_init_15 : decode cX2_init 15 = .ok (.iload_n 3, 1) := by decide +kernel
theorem dX2_init_16 : decode cX2_init 16 = .ok (.putfield 18, 3) := by decide +kernel
theorem dX2_init_19 : decode cX2_init 19 = .ok (.aload_n 0, 1) := by decide +kernel
theorem dX2_init_20 : decode cX2_init 20 = .ok (.iload 4, 2) := by decide +kernel
theorem dX2_init_22 : decode cX2_init 22 = .ok (.putfield 21, 3) := by decide +kernel
theorem dX2_init_25 : decode cX2_init 25 = .ok (.aload_n 0, 1) := by decide +kernel
theorem dX2_init_26 : decode cX2_init 26 = .ok (.iload 5, 2) := by decide +kernel
theorem dX2_init_28 : decode cX2_init 28 = .ok (.putfield 24, 3) := by decide +kernel
theorem dX2_init_31 : decode cX2_init 31 = .ok (.return_, 1) := by decide +kernel
theorem dX2_fromNothing_0 : decode cX2_fromNothing 0 = .ok (.aload_n 1, 1) := by decide +kernel
theorem dX2_fromNothing_1 : decode cX2_fromNothing 1 = .ok (.getfield 27, 3) := by decide +kernel
theorem dX2_fromNothing_4 : decode cX2_fromNothing 4 = .ok (.aload_n 0, 1) := by decide +kernel
theorem dX2_fromNothing_5 : decode cX2_fromNothing 5 = .ok (.getfield 15, 3) := by decide +kernel
theorem dX2_fromNothing_8 : decode cX2_fromNothing 8 = .ok (.aaload, 1) := by decide +kernel
theorem dX2_fromNothing_9 : decode cX2_fromNothing 9 = .ok (.astore_n 2, 1) := by decide +kernel
theorem dX2_fromNothing_10 : decode cX2_fromNothing 10 = .ok (.aload_n 1, 1) := by decide +kernel
theorem dX2_fromNothing_11 : decode cX2_fromNothing 11 = .ok (.getfield 33, 3) := by decide +kernel
theorem dX2_fromNothing_14 : decode cX2_fromNothing 14 = .ok (.istore_n 3, 1) := by decide +kernel
theorem dX2_fromNothing_15 : decode cX2_fromNothing 15 = .ok (.aload_n 0, 1) := by decide +kernel
theorem dX2_fromNothing_16 : decode cX2_fromNothing 16 = .ok (.getfield 9, 3) := by decide +kernel
theorem dX2_fromNothing_19 : decode cX2_fromNothing 19 = .ok (.tableswitch 114 0 4 #[33, 46, 68, 89, 101], 33) := by decide +kernel
theorem dX2_fromNothing_52 : decode cX2_fromNothing 52 = .ok (.aload_n 0, 1) := by decide +kernel
theorem dX2_fromNothing_53 : decode cX2_fromNothing 53 = .ok (.getfield 21, 3) := by decide +kernel
theorem dX2_fromNothing_56 : decode cX2_fromNothing 56 = .ok (.i2l, 1) := by decide +kernel
theorem dX2_fromNothing_57 : decode cX2_fromNothing 57 = .ok (.aload_n 0, 1) := by decide +kernel
theorem dX2_fromNothing_58 : decode cX2_fromNothing 58 = .ok (.aload_n 2, 1) := by decide +kernel
theorem dX2_fromNothing_59 : decode cX2_fromNothing 59 = .ok (.iload_n 3, 1) := by decide +kernel
theorem dX2_fromNothing_60 : decode cX2_fromNothing 60 = .ok (.invokevirtual 36, 3) := by decide +kernel
theorem dX2_fromNothing_63 : decode cX2_fromNothing 63 = .ok (.lmul, 1) := by decide +kernel
theorem dX2_fromNothing_64 : decode cX2_fromNothing 64 = .ok (.lreturn, 1) := by decide +kernel
theorem dX2_fromNothing_65 : decode cX2_fromNothing 65 = .ok (.aload_n 0, 1) := by decide +kernel
theorem dX2_fromNothing_66 : decode cX2_fromNothing 66 = .ok (.getfield 21, 3) := by decide +kernel
theorem dX2_fromNothing_69 : decode cX2_fromNothing 69 = .ok (.i2l, 1) := by decide +kernel
theorem dX2_fromNothing_70 : decode cX2_fromNothing 70 = .ok (.lconst 0, 1) := by decide +kernel
theorem dX2_fromNothing_71 : decode cX2_fromNothing 71 = .ok (.aload_n 2, 1) := by decide +kernel
theorem dX2_fromNothing_72 : decode cX2_fromNothing 72 = .ok (.iload_n 3, 1) := by decide +kernel
theorem dX2_fromNothing_73 : decode cX2_fromNothing 73 = .ok (.invokestatic 40, 3) := by decide +kernel
theorem dX2_fromNothing_76 : decode cX2_fromNothing 76 = .ok (.aload_n 0, 1) := by decide +kernel
theorem dX2_fromNothing_77 : decode cX2_fromNothing 77 = .ok (.getfield 18, 3) := by decide +kernel
theorem dX2_fromNothing_80 : decode cX2_fromNothing 80 = .ok (.i2l, 1) := by decide +kernel
theorem dX2_fromNothing_81 : decode cX2_fromNothing 81 = .ok (.lsub, 1) := by decide +kernel
theorem dX2_fromNothing_82 : decode cX2_fromNothing 82 = .ok (.invokestatic 43, 3) := by decide +kernel
theorem dX2_fromNothing_85 : decode cX2_fromNothing 85 = .ok (.lmul, 1) := by decide +kernel
theorem dX2_fromNothing_86 : decode cX2_fromNothing 86 = .ok (.lreturn, 1) := by decide +kernel
theorem dX2_fromNothing_87 : decode cX2_fromNothing 87 = .ok (.aload_n 0, 1) := by decide +kernel
theorem dX2_fromNothing_88 : decode cX2_fromNothing 88 = .ok (.getfield 21, 3) := by decide +kernel
theorem dX2_fromNothing_91 : decode cX2_fromNothing 91 = .ok (.i2l, 1) := by decide +kernel
theorem dX2_fromNothing_92 : decode cX2_fromNothing 92 = .ok (.aload_n 2, 1) := by decide +kernel
theorem dX2_fromNothing_93 : decode cX2_fromNothing 93 = .ok (.iload_n 3, 1) := by decide +kernel
theorem dX2_fromNothing_94 : decode cX2_fromNothing 94 = .ok (.invokestatic 40, 3) := by decide +kernel
theorem dX2_fromNothing_97 : decode cX2_fromNothing 97 = .ok (.aload_n 0, 1) := by decide +kernel
theorem dX2_fromNothing_98 : decode cX2_fromNothing 98 = .ok (.getfield 18, 3) := by decide +kernel
theorem dX2_fromNothing_101 : decode cX2_fromNothing 101 = .ok (.i2l, 1) := by decide +kernel
theorem dX2_fromNothing_102 : decode cX2_fromNothing 102 = .ok (.lsub, 1) := by decide +kernel
theorem dX2_fromNothing_103 : decode cX2_fromNothing 103 = .ok (.invokestatic 49, 3) := by decide +kernel
theorem dX2_fromNothing_106 : decode cX2_fromNothing 106 = .ok (.lmul, 1) := by decide +kernel
theorem dX2_fromNothing_107 : decode cX2_fromNothing 107 = .ok (.lreturn, 1) := by decide +kernel
theorem dX2_fromNothing_108 : decode cX2_fromNothing 108 = .ok (.aload_n 0, 1) := by decide +kernel
theorem dX2_fromNothing_109 : decode cX2_fromNothing 109 = .ok (.getfield 21, 3) := by decide +kernel
theorem dX2_fromNothing_112 : decode cX2_fromNothing 112 = .ok (.i2l, 1) := by decide +kernel
theorem dX2_fromNothing_113 : decode cX2_fromNothing 113 = .ok (.aload_n 2, 1) := by decide +kernel
theorem dX2_fromNothing_114 : decode cX2_fromNothing 114 = .ok (.iload_n 3, 1) := by decide +kernel
theorem dX2_fromNothing_115 : decode cX2_fromNothing 115 = .ok (.invokestatic 53, 3) := by decide +kernel
theorem dX2_fromNothing_118 : decode cX2_fromNothing 118 = .ok (.lmul, 1) := by decide +kernel
theorem dX2_fromNothing_119 : decode cX2_fromNothing 119 = .ok (.lreturn, 1) := by decide +kernel
theorem dX2_fromNothing_120 : decode cX2_fromNothing 120 = .ok (.aload_n 0, 1) := by decide +kernel
theorem dX2_fromNothing_121 : decode cX2_fromNothing 121 = .ok (.getfield 21, 3) := by decide +kernel
theorem dX2_fromNothing_124 : decode cX2_fromNothing 124 = .ok (.i2l, 1) := by decide +kernel
theorem dX2_fromNothing_125 : decode cX2_fromNothing 125 = .ok (.aload_n 0, 1) := by decide +kernel
theorem dX2_fromNothing_126 : decode cX2_fromNothing 126 = .ok (.aload_n 2, 1) := by decide +kernel
theorem dX2_fromNothing_127 : decode cX2_fromNothing 127 = .ok (.iload_n 3, 1) := by decide +kernel
theorem dX2_fromNothing_128 : decode cX2_fromNothing 128 = .ok (.invokevirtual 56, 3) := by decide +kernel
theorem dX2_fromNothing_131 : decode cX2_fromNothing 131 = .ok (.lmul, 1) := by decide +kernel
theorem dX2_fromNothing_132 : decode cX2_fromNothing 132 = .ok (.lreturn, 1) := by decide +kernel
theorem dX2_fromNothing_133 : decode cX2_fromNothing 133 = .ok (.aload_n 0, 1) := by decide +kernel
theorem dX2_fromNothing_134 : decode cX2_fromNothing 134 = .ok (.getfield 21, 3) := by decide +kernel
theorem dX2_fromNothing_137 : decode cX2_fromNothing 137 = .ok (.i2l, 1) := by decide +kernel
theorem dX2_fromNothing_138 : decode cX2_fromNothing 138 = .ok (.aload_n 2, 1) := by decide +kernel
theorem dX2_fromNothing_139 : decode cX2_fromNothing 139 = .ok (.aload_n 1, 1) := by decide +kernel
theorem dX2_fromNothing_140 : decode cX2_fromNothing 140 = .ok (.invokestatic 59, 3) := by decide +kernel
theorem dX2_fromNothing_143 : decode cX2_fromNothing 143 = .ok (.lmul, 1) := by decide +kernel
theorem dX2_fromNothing_144 : decode cX2_fromNothing 144 = .ok (.lreturn, 1) := by decide +kernel
theorem dX2_eachAbove_0 : decode cX2_eachAbove 0 = .ok (.lconst 0, 1) := by decide +kernel
theorem dX2_eachAbove_1 : decode cX2_eachAbove 1 = .ok (.lstore_n 3, 1) := by decide +kernel
theorem dX2_eachAbove_2 : decode cX2_eachAbove 2 = .ok (.iconst 0, 1) := by decide +kernel
theorem dX2_eachAbove_3 : decode cX2_eachAbove 3 = .ok (.istore 5, 2) := by decide +kernel
theorem dX2_eachAbove_5 : decode cX2_eachAbove 5 = .ok (.iload 5, 2) := by decide +kernel
theorem dX2_eachAbove_7 : decode cX2_eachAbove 7 = .ok (.iload_n 2, 1) := by decide +kernel
theorem dX2_eachAbove_8 : decode cX2_eachAbove 8 = .ok (.if_icmp .ge 26, 3) := by decide +kernel
theorem dX2_eachAbove_11 : decode cX2_eachAbove 11 = .ok (.lload_n 3, 1) := by decide +kernel
theorem dX2_eachAbove_12 : decode cX2_eachAbove 12 = .ok (.iconst 0, 1) := by decide +kernel
theorem dX2_eachAbove_13 : decode cX2_eachAbove 13 = .ok (.aload_n 1, 1) := by decide +kernel
theorem dX2_eachAbove_14 : decode cX2_eachAbove 14 = .ok (.iload 5, 2) := by decide +kernel
theorem dX2_eachAbove_16 : decode cX2_eachAbove 16 = .ok (.iaload, 1) := by decide +kernel
theorem dX2_eachAbove_17 : decode cX2_eachAbove 17 = .ok (.aload_n 0, 1) := by decide +kernel
theorem dX2_eachAbove_18 : decode cX2_eachAbove 18 = .ok (.getfield 18, 3) := by decide +kernel
theorem dX2_eachAbove_21 : decode cX2_eachAbove 21 = .ok (.isub, 1) := by decide +kernel
theorem dX2_eachAbove_22 : decode cX2_eachAbove 22 = .ok (.invokestatic 63, 3) := by decide +kernel
theorem dX2_eachAbove_25 : decode cX2_eachAbove 25 = .ok (.i2l, 1) := by decide +kernel
theorem dX2_eachAbove_26 : decode cX2_eachAbove 26 = .ok (.ladd, 1) := by decide +kernel
theorem dX2_eachAbove_27 : decode cX2_eachAbove 27 = .ok (.lstore_n 3, 1) := by decide +kernel
theorem dX2_eachAbove_28 : decode cX2_eachAbove 28 = .ok (.iinc 5 1, 3) := by decide +kernel
theorem dX2_eachAbove_31 : decode cX2_eachAbove 31 = .ok (.goto (-26), 3) := by decide +kernel
theorem dX2_eachAbove_34 : decode cX2_eachAbove 34 = .ok (.lload_n 3, 1) := by decide +kernel
theorem dX2_eachAbove_35 : decode cX2_eachAbove 35 = .ok (.lreturn, 1) := by decide +kernel
theorem dX2_sum_0 : decode cX2_sum 0 = .ok (.lconst 0, 1) := by decide +kernel
theorem dX2_sum_1 : decode cX2_sum 1 = .ok (.lstore_n 2, 1) := by decide +kernel
theorem dX2_sum_2 : decode cX2_sum 2 = .ok (.iconst 0, 1) := by decide +kernel
theorem dX2_sum_3 : decode cX2_sum 3 = .ok (.istore 4, 2) := by decide +kernel
theorem dX2_sum_5 : decode cX2_sum 5 = .ok (.iload 4, 2) := by decide +kernel
theorem dX2_sum_7 : decode cX2_sum 7 = .ok (.iload_n 1, 1) := by decide +kernel
theorem dX2_sum_8 : decode cX2_sum 8 = .ok (.if_icmp .ge 17, 3) := by decide +kernel
theorem dX2_sum_11 : decode cX2_sum 11 = .ok (.lload_n 2, 1) := by decide +kernel
theorem dX2_sum_12 : decode cX2_sum 12 = .ok (.aload_n 0, 1) := by decide +kernel
theorem dX2_sum_13 : decode cX2_sum 13 = .ok (.iload 4, 2) := by decide +kernel
theorem dX2_sum_15 : decode cX2_sum 15 = .ok (.iaload, 1) := by decide +kernel
theorem dX2_sum_16 : decode cX2_sum 16 = .ok (.i2l, 1) := by decide +kernel
theorem dX2_sum_17 : decode cX2_sum 17 = .ok (.ladd, 1) := by decide +kernel
theorem dX2_sum_18 : decode cX2_sum 18 = .ok (.lstore_n 2, 1) := by decide +kernel
theorem dX2_sum_19 : decode cX2_sum 19 = .ok (.iinc 4 1, 3) := by decide +kernel
theorem dX2_sum_22 : decode cX2_sum 22 = .ok (.goto (-17), 3) := by decide +kernel
theorem dX2_sum_25 : decode cX2_sum 25 = .ok (.lload_n 2, 1) := by decide +kernel
theorem dX2_sum_26 : decode cX2_sum 26 = .ok (.lreturn, 1) := by decide +kernel
theorem dX2_equalPairs_0 : decode cX2_equalPairs 0 = .ok (.lconst 0, 1) := by decide +kernel
theorem dX2_equalPairs_1 : decode cX2_equalPairs 1 = .ok (.lstore_n 2, 1) := by decide +kernel
theorem dX2_equalPairs_2 : decode cX2_equalPairs 2 = .ok (.iconst 0, 1) := by decide +kernel
theorem dX2_equalPairs_3 : decode cX2_equalPairs 3 = .ok (.istore 4, 2) := by decide +kernel
theorem dX2_equalPairs_5 : decode cX2_equalPairs 5 = .ok (.iload 4, 2) := by decide +kernel
theorem dX2_equalPairs_7 : decode cX2_equalPairs 7 = .ok (.iload_n 1, 1) := by decide +kernel
theorem dX2_equalPairs_8 : decode cX2_equalPairs 8 = .ok (.if_icmp .ge 24, 3) := by decide +kernel
theorem dX2_equalPairs_11 : decode cX2_equalPairs 11 = .ok (.lload_n 2, 1) := by decide +kernel
theorem dX2_equalPairs_12 : decode cX2_equalPairs 12 = .ok (.aload_n 0, 1) := by decide +kernel
theorem dX2_equalPairs_13 : decode cX2_equalPairs 13 = .ok (.iload 4, 2) := by decide +kernel
theorem dX2_equalPairs_15 : decode cX2_equalPairs 15 = .ok (.iaload, 1) := by decide +kernel
theorem dX2_equalPairs_16 : decode cX2_equalPairs 16 = .ok (.aload_n 0, 1) := by decide +kernel
theorem dX2_equalPairs_17 : decode cX2_equalPairs 17 = .ok (.iconst 0, 1) := by decide +kernel
theorem dX2_equalPairs_18 : decode cX2_equalPairs 18 = .ok (.iload 4, 2) := by decide +kernel
theorem dX2_equalPairs_20 : decode cX2_equalPairs 20 = .ok (.invokestatic 66, 3) := by decide +kernel
theorem dX2_equalPairs_23 : decode cX2_equalPairs 23 = .ok (.i2l, 1) := by decide +kernel
theorem dX2_equalPairs_24 : decode cX2_equalPairs 24 = .ok (.ladd, 1) := by decide +kernel
theorem dX2_equalPairs_25 : decode cX2_equalPairs 25 = .ok (.lstore_n 2, 1) := by decide +kernel
theorem dX2_equalPairs_26 : decode cX2_equalPairs 26 = .ok (.iinc 4 1, 3) := by decide +kernel
theorem dX2_equalPairs_29 : decode cX2_equalPairs 29 = .ok (.goto (-24), 3) := by decide +kernel
theorem dX2_equalPairs_32 : decode cX2_equalPairs 32 = .ok (.lload_n 2, 1) := by decide +kernel
theorem dX2_equalPairs_33 : decode cX2_equalPairs 33 = .ok (.lreturn, 1) := by decide +kernel
theorem dX2_crowds_0 : decode cX2_crowds 0 = .ok (.iconst 0, 1) := by decide +kernel
theorem dX2_crowds_1 : decode cX2_crowds 1 = .ok (.aload_n 0, 1) := by decide +kernel
theorem dX2_crowds_2 : decode cX2_crowds 2 = .ok (.getfield 18, 3) := by decide +kernel
theorem dX2_crowds_5 : decode cX2_crowds 5 = .ok (.invokestatic 63, 3) := by decide +kernel
theorem dX2_crowds_8 : decode cX2_crowds 8 = .ok (.istore_n 3, 1) := by decide +kernel
theorem dX2_crowds_9 : decode cX2_crowds 9 = .ok (.lconst 0, 1) := by decide +kernel
theorem dX2_crowds_10 : decode cX2_crowds 10 = .ok (.lstore 4, 2) := by decide +kernel
theorem dX2_crowds_12 : decode cX2_crowds 12 = .ok (.iconst 0, 1) := by decide +kernel
theorem dX2_crowds_13 : decode cX2_crowds 13 = .ok (.istore 6, 2) := by decide +kernel
theorem dX2_crowds_15 : decode cX2_crowds 15 = .ok (.iload 6, 2) := by decide +kernel
theorem dX2_crowds_17 : decode cX2_crowds 17 = .ok (.iload_n 2, 1) := by decide +kernel
theorem dX2_crowds_18 : decode cX2_crowds 18 = .ok (.if_icmp .ge 58, 3) := by decide +kernel
theorem dX2_crowds_21 : decode cX2_crowds 21 = .ok (.aload_n 1, 1) := by decide +kernel
theorem dX2_crowds_22 : decode cX2_crowds 22 = .ok (.iload 6, 2) := by decide +kernel
theorem dX2_crowds_24 : decode cX2_crowds 24 = .ok (.iaload, 1) := by decide +kernel
theorem dX2_crowds_25 : decode cX2_crowds 25 = .ok (.aload_n 1, 1) := by decide +kernel
theorem dX2_crowds_26 : decode cX2_crowds 26 = .ok (.iconst 0, 1) := by decide +kernel
theorem dX2_crowds_27 : decode cX2_crowds 27 = .ok (.iload 6, 2) := by decide +kernel
theorem dX2_crowds_29 : decode cX2_crowds 29 = .ok (.invokestatic 66, 3) := by decide +kernel
theorem dX2_crowds_32 : decode cX2_crowds 32 = .ok (.ifCond .ne 7, 3) := by decide +kernel
theorem dX2_crowds_35 : decode cX2_crowds 35 = .ok (.iconst 1, 1) := by decide +kernel
theorem dX2_crowds_36 : decode cX2_crowds 36 = .ok (.goto 4, 3) := by decide +kernel
theorem dX2_crowds_39 : decode cX2_crowds 39 = .ok (.iconst 0, 1) := by decide +kernel
theorem dX2_crowds_40 : decode cX2_crowds 40 = .ok (.istore 7, 2) := by decide +kernel
theorem dX2_crowds_42 : decode cX2_crowds 42 = .ok (.iload 7, 2) := by decide +kernel
theorem dX2_crowds_44 : decode cX2_crowds 44 = .ok (.ifCond .eq 26, 3) := by decide +kernel
theorem dX2_crowds_47 : decode cX2_crowds 47 = .ok (.lload 4, 2) := by decide +kernel
theorem dX2_crowds_49 : decode cX2_crowds 49 = .ok (.iconst 0, 1) := by decide +kernel
theorem dX2_crowds_50 : decode cX2_crowds 50 = .ok (.aload_n 1, 1) := by decide +kernel
theorem dX2_crowds_51 : decode cX2_crowds 51 = .ok (.iload 6, 2) := by decide +kernel
theorem dX2_crowds_53 : decode cX2_crowds 53 = .ok (.iaload, 1) := by decide +kernel
theorem dX2_crowds_54 : decode cX2_crowds 54 = .ok (.aload_n 1, 1) := by decide +kernel
theorem dX2_crowds_55 : decode cX2_crowds 55 = .ok (.iload 6, 2) := by decide +kernel
theorem dX2_crowds_57 : decode cX2_crowds 57 = .ok (.iload_n 2, 1) := by decide +kernel
theorem dX2_crowds_58 : decode cX2_crowds 58 = .ok (.invokestatic 66, 3) := by decide +kernel
theorem dX2_crowds_61 : decode cX2_crowds 61 = .ok (.iload_n 3, 1) := by decide +kernel
theorem dX2_crowds_62 : decode cX2_crowds 62 = .ok (.isub, 1) := by decide +kernel
theorem dX2_crowds_63 : decode cX2_crowds 63 = .ok (.invokestatic 63, 3) := by decide +kernel
theorem dX2_crowds_66 : decode cX2_crowds 66 = .ok (.i2l, 1) := by decide +kernel
theorem dX2_crowds_67 : decode cX2_crowds 67 = .ok (.ladd, 1) := by decide +kernel
theorem dX2_crowds_68 : decode cX2_crowds 68 = .ok (.lstore 4, 2) := by decide +kernel
theorem dX2_crowds_70 : decode cX2_crowds 70 = .ok (.iinc 6 1, 3) := by decide +kernel
theorem dX2_crowds_73 : decode cX2_crowds 73 = .ok (.goto (-58), 3) := by decide +kernel
theorem dX2_crowds_76 : decode cX2_crowds 76 = .ok (.lload 4, 2) := by decide +kernel
theorem dX2_crowds_78 : decode cX2_crowds 78 = .ok (.lreturn, 1) := by decide +kernel
theorem dX2_countOf_0 : decode cX2_countOf 0 = .ok (.iconst 0, 1) := by decide +kernel
theorem dX2_countOf_1 : decode cX2_countOf 1 = .ok (.istore 4, 2) := by decide +kernel
theorem dX2_countOf_3 : decode cX2_countOf 3 = .ok (.iload_n 2, 1) := by decide +kernel
theorem dX2_countOf_4 : decode cX2_countOf 4 = .ok (.istore 5, 2) := by decide +kernel
theorem dX2_countOf_6 : decode cX2_countOf 6 = .ok (.iload 5, 2) := by decide +kernel
theorem dX2_countOf_8 : decode cX2_countOf 8 = .ok (.iload_n 3, 1) := by decide +kernel
theorem dX2_countOf_9 : decode cX2_countOf 9 = .ok (.if_icmp .ge 20, 3) := by decide +kernel
theorem dX2_countOf_12 : decode cX2_countOf 12 = .ok (.aload_n 1, 1) := by decide +kernel
theorem dX2_countOf_13 : decode cX2_countOf 13 = .ok (.iload 5, 2) := by decide +kernel
theorem dX2_countOf_15 : decode cX2_countOf 15 = .ok (.iaload, 1) := by decide +kernel
theorem dX2_countOf_16 : decode cX2_countOf 16 = .ok (.iload_n 0, 1) := by decide +kernel
theorem dX2_countOf_17 : decode cX2_countOf 17 = .ok (.if_icmp .ne 6, 3) := by decide +kernel
theorem dX2_countOf_20 : decode cX2_countOf 20 = .ok (.iinc 4 1, 3) := by decide +kernel
theorem dX2_countOf_23 : decode cX2_countOf 23 = .ok (.iinc 5 1, 3) := by decide +kernel
theorem dX2_countOf_26 : decode cX2_countOf 26 = .ok (.goto (-20), 3) := by decide +kernel
theorem dX2_countOf_29 : decode cX2_countOf 29 = .ok (.iload 4, 2) := by decide +kernel
theorem dX2_countOf_31 : decode cX2_countOf 31 = .ok (.ireturn, 1) := by decide +kernel
theorem dX2_lessThanBefore_0 : decode cX2_lessThanBefore 0 = .ok (.lconst 0, 1) := by decide +kernel
theorem dX2_lessThanBefore_1 : decode cX2_lessThanBefore 1 = .ok (.lstore_n 2, 1) := by decide +kernel
theorem dX2_lessThanBefore_2 : decode cX2_lessThanBefore 2 = .ok (.iconst 0, 1) := by decide +kernel
theorem dX2_lessThanBefore_3 : decode cX2_lessThanBefore 3 = .ok (.istore 4, 2) := by decide +kernel
theorem dX2_lessThanBefore_5 : decode cX2_lessThanBefore 5 = .ok (.iload 4, 2) := by decide +kernel
theorem dX2_lessThanBefore_7 : decode cX2_lessThanBefore 7 = .ok (.aload_n 1, 1) := by decide +kernel
theorem dX2_lessThanBefore_8 : decode cX2_lessThanBefore 8 = .ok (.getfield 33, 3) := by decide +kernel
theorem dX2_lessThanBefore_11 : decode cX2_lessThanBefore 11 = .ok (.if_icmp .ge 52, 3) := by decide +kernel
theorem dX2_lessThanBefore_14 : decode cX2_lessThanBefore 14 = .ok (.aload_n 1, 1) := by decide +kernel
theorem dX2_lessThanBefore_15 : decode cX2_lessThanBefore 15 = .ok (.getfield 27, 3) := by decide +kernel
theorem dX2_lessThanBefore_18 : decode cX2_lessThanBefore 18 = .ok (.iconst 2, 1) := by decide +kernel
theorem dX2_lessThanBefore_19 : decode cX2_lessThanBefore 19 = .ok (.aaload, 1) := by decide +kernel
theorem dX2_lessThanBefore_20 : decode cX2_lessThanBefore 20 = .ok (.iload 4, 2) := by decide +kernel
theorem dX2_lessThanBefore_22 : decode cX2_lessThanBefore 22 = .ok (.iaload, 1) := by decide +kernel
theorem dX2_lessThanBefore_23 : decode cX2_lessThanBefore 23 = .ok (.istore 5, 2) := by decide +kernel
theorem dX2_lessThanBefore_25 : decode cX2_lessThanBefore 25 = .ok (.lload_n 2, 1) := by decide +kernel
theorem dX2_lessThanBefore_26 : decode cX2_lessThanBefore 26 = .ok (.aload_n 1, 1) := by decide +kernel
theorem dX2_lessThanBefore_27 : decode cX2_lessThanBefore 27 = .ok (.iload 5, 2) := by decide +kernel
theorem dX2_lessThanBefore_29 : decode cX2_lessThanBefore 29 = .ok (.invokevirtual 70, 3) := by decide +kernel
theorem dX2_lessThanBefore_32 : decode cX2_lessThanBefore 32 = .ok (.ifCond .eq 18, 3) := by decide +kernel
theorem dX2_lessThanBefore_35 : decode cX2_lessThanBefore 35 = .ok (.aload_n 0, 1) := by decide +kernel
theorem dX2_lessThanBefore_36 : decode cX2_lessThanBefore 36 = .ok (.iload 5, 2) := by decide +kernel
theorem dX2_lessThanBefore_38 : decode cX2_lessThanBefore 38 = .ok (.iaload, 1) := by decide +kernel
theorem dX2_lessThanBefore_39 : decode cX2_lessThanBefore 39 = .ok (.aload_n 0, 1) := by decide +kernel
theorem dX2_lessThanBefore_40 : decode cX2_lessThanBefore 40 = .ok (.iload 4, 2) := by decide +kernel
theorem dX2_lessThanBefore_42 : decode cX2_lessThanBefore 42 = .ok (.iaload, 1) := by decide +kernel
theorem dX2_lessThanBefore_43 : decode cX2_lessThanBefore 43 = .ok (.if_icmp .le 7, 3) := by decide +kernel
theorem dX2_lessThanBefore_46 : decode cX2_lessThanBefore 46 = .ok (.iconst 1, 1) := by decide +kernel
theorem dX2_lessThanBefore_47 : decode cX2_lessThanBefore 47 = .ok (.goto 4, 3) := by decide +kernel
theorem dX2_lessThanBefore_50 : decode cX2_lessThanBefore 50 = .ok (.iconst 0, 1) := by decide +kernel
theorem dX2_lessThanBefore_51 : decode cX2_lessThanBefore 51 = .ok (.invokestatic 74, 3) := by decide +kernel
theorem dX2_lessThanBefore_54 : decode cX2_lessThanBefore 54 = .ok (.i2l, 1) := by decide +kernel
theorem dX2_lessThanBefore_55 : decode cX2_lessThanBefore 55 = .ok (.ladd, 1) := by decide +kernel
theorem dX2_lessThanBefore_56 : decode cX2_lessThanBefore 56 = .ok (.lstore_n 2, 1) := by decide +kernel
theorem dX2_lessThanBefore_57 : decode cX2_lessThanBefore 57 = .ok (.iinc 4 1, 3) := by decide +kernel
theorem dX2_lessThanBefore_60 : decode cX2_lessThanBefore 60 = .ok (.goto (-55), 3) := by decide +kernel
theorem dX2_lessThanBefore_63 : decode cX2_lessThanBefore 63 = .ok (.lload_n 2, 1) := by decide +kernel
theorem dX2_lessThanBefore_64 : decode cX2_lessThanBefore 64 = .ok (.lreturn, 1) := by decide +kernel
theorem dX2_countTouched_0 : decode cX2_countTouched 0 = .ok (.iconst 0, 1) := by decide +kernel
theorem dX2_countTouched_1 : decode cX2_countTouched 1 = .ok (.istore_n 3, 1) := by decide +kernel
theorem dX2_countTouched_2 : decode cX2_countTouched 2 = .ok (.iconst 0, 1) := by decide +kernel
theorem dX2_countTouched_3 : decode cX2_countTouched 3 = .ok (.istore 4, 2) := by decide +kernel
theorem dX2_countTouched_5 : decode cX2_countTouched 5 = .ok (.iload 4, 2) := by decide +kernel
theorem dX2_countTouched_7 : decode cX2_countTouched 7 = .ok (.aload_n 1, 1) := by decide +kernel
theorem dX2_countTouched_8 : decode cX2_countTouched 8 = .ok (.getfield 33, 3) := by decide +kernel
theorem dX2_countTouched_11 : decode cX2_countTouched 11 = .ok (.if_icmp .ge 100, 3) := by decide +kernel
theorem dX2_countTouched_14 : decode cX2_countTouched 14 = .ok (.aload_n 1, 1) := by decide +kernel
theorem dX2_countTouched_15 : decode cX2_countTouched 15 = .ok (.getfield 27, 3) := by decide +kernel
theorem dX2_countTouched_18 : decode cX2_countTouched 18 = .ok (.aload_n 0, 1) := by decide +kernel
theorem dX2_countTouched_19 : decode cX2_countTouched 19 = .ok (.getfield 15, 3) := by decide +kernel
theorem dX2_countTouched_22 : decode cX2_countTouched 22 = .ok (.aaload, 1) := by decide +kernel
theorem dX2_countTouched_23 : decode cX2_countTouched 23 = .ok (.iload 4, 2) := by decide +kernel
theorem dX2_countTouched_25 : decode cX2_countTouched 25 = .ok (.iaload, 1) := by decide +kernel
theorem dX2_countTouched_26 : decode cX2_countTouched 26 = .ok (.aload_n 2, 1) := by decide +kernel
theorem dX2_countTouched_27 : decode cX2_countTouched 27 = .ok (.getfield 27, 3) := by decide +kernel
theorem dX2_countTouched_30 : decode cX2_countTouched 30 = .ok (.aload_n 0, 1) := by decide +kernel
theorem dX2_countTouched_31 : decode cX2_countTouched 31 = .ok (.getfield 15, 3) := by decide +kernel
theorem dX2_countTouched_34 : decode cX2_countTouched 34 = .ok (.aaload, 1) := by decide +kernel
theorem dX2_countTouched_35 : decode cX2_countTouched 35 = .ok (.iload 4, 2) := by decide +kernel
theorem dX2_countTouched_37 : decode cX2_countTouched 37 = .ok (.iaload, 1) := by decide +kernel
theorem dX2_countTouched_38 : decode cX2_countTouched 38 = .ok (.if_icmp .eq 7, 3) := by decide +kernel
theorem dX2_countTouched_41 : decode cX2_countTouched 41 = .ok (.iconst 1, 1) := by decide +kernel
theorem dX2_countTouched_42 : decode cX2_countTouched 42 = .ok (.goto 4, 3) := by decide +kernel
theorem dX2_countTouched_45 : decode cX2_countTouched 45 = .ok (.iconst 0, 1) := by decide +kernel
theorem dX2_countTouched_46 : decode cX2_countTouched 46 = .ok (.istore 5, 2) := by decide +kernel
theorem dX2_countTouched_48 : decode cX2_countTouched 48 = .ok (.aload_n 0, 1) := by decide +kernel
theorem dX2_countTouched_49 : decode cX2_countTouched 49 = .ok (.getfield 9, 3) := by decide +kernel
theorem dX2_countTouched_52 : decode cX2_countTouched 52 = .ok (.iconst 5, 1) := by decide +kernel
theorem dX2_countTouched_53 : decode cX2_countTouched 53 = .ok (.if_icmp .ne 28, 3) := by decide +kernel
theorem dX2_countTouched_56 : decode cX2_countTouched 56 = .ok (.aload_n 1, 1) := by decide +kernel
theorem dX2_countTouched_57 : decode cX2_countTouched 57 = .ok (.getfield 27, 3) := by decide +kernel
theorem dX2_countTouched_60 : decode cX2_countTouched 60 = .ok (.iconst 2, 1) := by decide +kernel
theorem dX2_countTouched_61 : decode cX2_countTouched 61 = .ok (.aaload, 1) := by decide +kernel
theorem dX2_countTouched_62 : decode cX2_countTouched 62 = .ok (.iload 4, 2) := by decide +kernel
theorem dX2_countTouched_64 : decode cX2_countTouched 64 = .ok (.iaload, 1) := by decide +kernel
theorem dX2_countTouched_65 : decode cX2_countTouched 65 = .ok (.aload_n 2, 1) := by decide +kernel
theorem dX2_countTouched_66 : decode cX2_countTouched 66 = .ok (.getfield 27, 3) := by decide +kernel
theorem dX2_countTouched_69 : decode cX2_countTouched 69 = .ok (.iconst 2, 1) := by decide +kernel
theorem dX2_countTouched_70 : decode cX2_countTouched 70 = .ok (.aaload, 1) := by decide +kernel
theorem dX2_countTouched_71 : decode cX2_countTouched 71 = .ok (.iload 4, 2) := by decide +kernel
theorem dX2_countTouched_73 : decode cX2_countTouched 73 = .ok (.iaload, 1) := by decide +kernel
theorem dX2_countTouched_74 : decode cX2_countTouched 74 = .ok (.if_icmp .eq 7, 3) := by decide +kernel
theorem dX2_countTouched_77 : decode cX2_countTouched 77 = .ok (.iconst 1, 1) := by decide +kernel
theorem dX2_countTouched_78 : decode cX2_countTouched 78 = .ok (.goto 4, 3) := by decide +kernel
theorem dX2_countTouched_81 : decode cX2_countTouched 81 = .ok (.iconst 0, 1) := by decide +kernel
theorem dX2_countTouched_82 : decode cX2_countTouched 82 = .ok (.istore 6, 2) := by decide +kernel

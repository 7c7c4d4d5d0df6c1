theorem dX2_duelsOf_67 : decode cX2_duelsOf 67 = .ok (.ireturn, 1) := by decide +kernel
theorem dX2_openQuarrels_0 : decode cX2_openQuarrels 0 = .ok (.iconst 0, 1) := by decide +kernel
theorem dX2_openQuarrels_1 : decode cX2_openQuarrels 1 = .ok (.istore_n 1, 1) := by decide +kernel
theorem dX2_openQuarrels_2 : decode cX2_openQuarrels 2 = .ok (.iconst 0, 1) := by decide +kernel
theorem dX2_openQuarrels_3 : decode cX2_openQuarrels 3 = .ok (.istore_n 2, 1) := by decide +kernel
theorem dX2_openQuarrels_4 : decode cX2_openQuarrels 4 = .ok (.iload_n 2, 1) := by decide +kernel
theorem dX2_openQuarrels_5 : decode cX2_openQuarrels 5 = .ok (.aload_n 0, 1) := by decide +kernel
theorem dX2_openQuarrels_6 : decode cX2_openQuarrels 6 = .ok (.getfield 21, 3) := by decide +kernel
theorem dX2_openQuarrels_9 : decode cX2_openQuarrels 9 = .ok (.if_icmp .ge 23, 3) := by decide +kernel
theorem dX2_openQuarrels_12 : decode cX2_openQuarrels 12 = .ok (.aload_n 0, 1) := by decide +kernel
theorem dX2_openQuarrels_13 : decode cX2_openQuarrels 13 = .ok (.iload_n 2, 1) := by decide +kernel
theorem dX2_openQuarrels_14 : decode cX2_openQuarrels 14 = .ok (.invokevirtual 69, 3) := by decide +kernel
theorem dX2_openQuarrels_17 : decode cX2_openQuarrels 17 = .ok (.ifCond .eq 9, 3) := by decide +kernel
theorem dX2_openQuarrels_20 : decode cX2_openQuarrels 20 = .ok (.iload_n 1, 1) := by decide +kernel
theorem dX2_openQuarrels_21 : decode cX2_openQuarrels 21 = .ok (.iconst 1, 1) := by decide +kernel
theorem dX2_openQuarrels_22 : decode cX2_openQuarrels 22 = .ok (.iload_n 2, 1) := by decide +kernel
theorem dX2_openQuarrels_23 : decode cX2_openQuarrels 23 = .ok (.ishl, 1) := by decide +kernel
theorem dX2_openQuarrels_24 : decode cX2_openQuarrels 24 = .ok (.ior, 1) := by decide +kernel
theorem dX2_openQuarrels_25 : decode cX2_openQuarrels 25 = .ok (.istore_n 1, 1) := by decide +kernel
theorem dX2_openQuarrels_26 : decode cX2_openQuarrels 26 = .ok (.iinc 2 1, 3) := by decide +kernel
theorem dX2_openQuarrels_29 : decode cX2_openQuarrels 29 = .ok (.goto (-25), 3) := by decide +kernel
theorem dX2_openQuarrels_32 : decode cX2_openQuarrels 32 = .ok (.iload_n 1, 1) := by decide +kernel
theorem dX2_openQuarrels_33 : decode cX2_openQuarrels 33 = .ok (.ireturn, 1) := by decide +kernel
theorem dX2_dueQuarrels_0 : decode cX2_dueQuarrels 0 = .ok (.iconst 0, 1) := by decide +kernel
theorem dX2_dueQuarrels_1 : decode cX2_dueQuarrels 1 = .ok (.istore_n 1, 1) := by decide +kernel
theorem dX2_dueQuarrels_2 : decode cX2_dueQuarrels 2 = .ok (.iconst 0, 1) := by decide +kernel
theorem dX2_dueQuarrels_3 : decode cX2_dueQuarrels 3 = .ok (.istore_n 2, 1) := by decide +kernel
theorem dX2_dueQuarrels_4 : decode cX2_dueQuarrels 4 = .ok (.iload_n 2, 1) := by decide +kernel
theorem dX2_dueQuarrels_5 : decode cX2_dueQuarrels 5 = .ok (.aload_n 0, 1) := by decide +kernel
theorem dX2_dueQuarrels_6 : decode cX2_dueQuarrels 6 = .ok (.getfield 21, 3) := by decide +kernel
theorem dX2_dueQuarrels_9 : decode cX2_dueQuarrels 9 = .ok (.if_icmp .ge 28, 3) := by decide +kernel
theorem dX2_dueQuarrels_12 : decode cX2_dueQuarrels 12 = .ok (.aload_n 0, 1) := by decide +kernel
theorem dX2_dueQuarrels_13 : decode cX2_dueQuarrels 13 = .ok (.iload_n 2, 1) := by decide +kernel
theorem dX2_dueQuarrels_14 : decode cX2_dueQuarrels 14 = .ok (.aload_n 0, 1) := by decide +kernel
theorem dX2_dueQuarrels_15 : decode cX2_dueQuarrels 15 = .ok (.iload_n 2, 1) := by decide +kernel
theorem dX2_dueQuarrels_16 : decode cX2_dueQuarrels 16 = .ok (.invokevirtual 91, 3) := by decide +kernel
theorem dX2_dueQuarrels_19 : decode cX2_dueQuarrels 19 = .ok (.invokevirtual 101, 3) := by decide +kernel
theorem dX2_dueQuarrels_22 : decode cX2_dueQuarrels 22 = .ok (.ifCond .ne 9, 3) := by decide +kernel
theorem dX2_dueQuarrels_25 : decode cX2_dueQuarrels 25 = .ok (.iload_n 1, 1) := by decide +kernel
theorem dX2_dueQuarrels_26 : decode cX2_dueQuarrels 26 = .ok (.iconst 1, 1) := by decide +kernel
theorem dX2_dueQuarrels_27 : decode cX2_dueQuarrels 27 = .ok (.iload_n 2, 1) := by decide +kernel
theorem dX2_dueQuarrels_28 : decode cX2_dueQuarrels 28 = .ok (.ishl, 1) := by decide +kernel
theorem dX2_dueQuarrels_29 : decode cX2_dueQuarrels 29 = .ok (.ior, 1) := by decide +kernel
theorem dX2_dueQuarrels_30 : decode cX2_dueQuarrels 30 = .ok (.istore_n 1, 1) := by decide +kernel
theorem dX2_dueQuarrels_31 : decode cX2_dueQuarrels 31 = .ok (.iinc 2 1, 3) := by decide +kernel
theorem dX2_dueQuarrels_34 : decode cX2_dueQuarrels 34 = .ok (.goto (-30), 3) := by decide +kernel
theorem dX2_dueQuarrels_37 : decode cX2_dueQuarrels 37 = .ok (.iload_n 1, 1) := by decide +kernel
theorem dX2_dueQuarrels_38 : decode cX2_dueQuarrels 38 = .ok (.ireturn, 1) := by decide +kernel
theorem dX2_personsUnderOath_0 : decode cX2_personsUnderOath 0 = .ok (.iconst 0, 1) := by decide +kernel
theorem dX2_personsUnderOath_1 : decode cX2_personsUnderOath 1 = .ok (.istore_n 1, 1) := by decide +kernel
theorem dX2_personsUnderOath_2 : decode cX2_personsUnderOath 2 = .ok (.iconst 0, 1) := by decide +kernel
theorem dX2_personsUnderOath_3 : decode cX2_personsUnderOath 3 = .ok (.istore_n 2, 1) := by decide +kernel
theorem dX2_personsUnderOath_4 : decode cX2_personsUnderOath 4 = .ok (.iload_n 2, 1) := by decide +kernel
theorem dX2_personsUnderOath_5 : decode cX2_personsUnderOath 5 = .ok (.aload_n 0, 1) := by decide +kernel
theorem dX2_personsUnderOath_6 : decode cX2_personsUnderOath 6 = .ok (.getfield 18, 3) := by decide +kernel
theorem dX2_personsUnderOath_9 : decode cX2_personsUnderOath 9 = .ok (.if_icmp .ge 23, 3) := by decide +kernel
theorem dX2_personsUnderOath_12 : decode cX2_personsUnderOath 12 = .ok (.aload_n 0, 1) := by decide +kernel
theorem dX2_personsUnderOath_13 : decode cX2_personsUnderOath 13 = .ok (.iload_n 2, 1) := by decide +kernel
theorem dX2_personsUnderOath_14 : decode cX2_personsUnderOath 14 = .ok (.invokevirtual 111, 3) := by decide +kernel
theorem dX2_personsUnderOath_17 : decode cX2_personsUnderOath 17 = .ok (.ifCond .le 9, 3) := by decide +kernel
theorem dX2_personsUnderOath_20 : decode cX2_personsUnderOath 20 = .ok (.iload_n 1, 1) := by decide +kernel
theorem dX2_personsUnderOath_21 : decode cX2_personsUnderOath 21 = .ok (.iconst 1, 1) := by decide +kernel
theorem dX2_personsUnderOath_22 : decode cX2_personsUnderOath 22 = .ok (.iload_n 2, 1) := by decide +kernel
theorem dX2_personsUnderOath_23 : decode cX2_personsUnderOath 23 = .ok (.ishl, 1) := by decide +kernel
theorem dX2_personsUnderOath_24 : decode cX2_personsUnderOath 24 = .ok (.ior, 1) := by decide +kernel
theorem dX2_personsUnderOath_25 : decode cX2_personsUnderOath 25 = .ok (.istore_n 1, 1) := by decide +kernel
theorem dX2_personsUnderOath_26 : decode cX2_personsUnderOath 26 = .ok (.iinc 2 1, 3) := by decide +kernel
theorem dX2_personsUnderOath_29 : decode cX2_personsUnderOath 29 = .ok (.goto (-25), 3) := by decide +kernel
theorem dX2_personsUnderOath_32 : decode cX2_personsUnderOath 32 = .ok (.iload_n 1, 1) := by decide +kernel
theorem dX2_personsUnderOath_33 : decode cX2_personsUnderOath 33 = .ok (.ireturn, 1) := by decide +kernel
theorem dX2_personsWithSecond_0 : decode cX2_personsWithSecond 0 = .ok (.iconst 0, 1) := by decide +kernel
theorem dX2_personsWithSecond_1 : decode cX2_personsWithSecond 1 = .ok (.istore_n 2, 1) := by decide +kernel
theorem dX2_personsWithSecond_2 : decode cX2_personsWithSecond 2 = .ok (.iconst 0, 1) := by decide +kernel
theorem dX2_personsWithSecond_3 : decode cX2_personsWithSecond 3 = .ok (.istore_n 3, 1) := by decide +kernel
theorem dX2_personsWithSecond_4 : decode cX2_personsWithSecond 4 = .ok (.iload_n 3, 1) := by decide +kernel
theorem dX2_personsWithSecond_5 : decode cX2_personsWithSecond 5 = .ok (.aload_n 0, 1) := by decide +kernel
theorem dX2_personsWithSecond_6 : decode cX2_personsWithSecond 6 = .ok (.getfield 18, 3) := by decide +kernel
theorem dX2_personsWithSecond_9 : decode cX2_personsWithSecond 9 = .ok (.if_icmp .ge 26, 3) := by decide +kernel
theorem dX2_personsWithSecond_12 : decode cX2_personsWithSecond 12 = .ok (.aload_n 0, 1) := by decide +kernel
theorem dX2_personsWithSecond_13 : decode cX2_personsWithSecond 13 = .ok (.bipush 24, 2) := by decide +kernel
theorem dX2_personsWithSecond_15 : decode cX2_personsWithSecond 15 = .ok (.iload_n 3, 1) := by decide +kernel
theorem dX2_personsWithSecond_16 : decode cX2_personsWithSecond 16 = .ok (.invokevirtual 47, 3) := by decide +kernel
theorem dX2_personsWithSecond_19 : decode cX2_personsWithSecond 19 = .ok (.iload_n 1, 1) := by decide +kernel
theorem dX2_personsWithSecond_20 : decode cX2_personsWithSecond 20 = .ok (.if_icmp .ne 9, 3) := by decide +kernel
theorem dX2_personsWithSecond_23 : decode cX2_personsWithSecond 23 = .ok (.iload_n 2, 1) := by decide +kernel
theorem dX2_personsWithSecond_24 : decode cX2_personsWithSecond 24 = .ok (.iconst 1, 1) := by decide +kernel
theorem dX2_personsWithSecond_25 : decode cX2_personsWithSecond 25 = .ok (.iload_n 3, 1) := by decide +kernel
theorem dX2_personsWithSecond_26 : decode cX2_personsWithSecond 26 = .ok (.ishl, 1) := by decide +kernel
theorem dX2_personsWithSecond_27 : decode cX2_personsWithSecond 27 = .ok (.ior, 1) := by decide +kernel
theorem dX2_personsWithSecond_28 : decode cX2_personsWithSecond 28 = .ok (.istore_n 2, 1) := by decide +kernel
theorem dX2_personsWithSecond_29 : decode cX2_personsWithSecond 29 = .ok (.iinc 3 1, 3) := by decide +kernel
theorem dX2_personsWithSecond_32 : decode cX2_personsWithSecond 32 = .ok (.goto (-28), 3) := by decide +kernel
theorem dX2_personsWithSecond_35 : decode cX2_personsWithSecond 35 = .ok (.iload_n 2, 1) := by decide +kernel
theorem dX2_personsWithSecond_36 : decode cX2_personsWithSecond 36 = .ok (.ireturn, 1) := by decide +kernel
theorem dX3_init_0 : decode cX3_init 0 = .ok (.aload_n 0, 1) := by decide +kernel
theorem dX3_init_1 : decode cX3_init 1 = .ok (.invokespecial 1, 3) := by decide +kernel
theorem dX3_init_4 : decode cX3_init 4 = .ok (.aload_n 0, 1) := by decide +kernel
theorem dX3_init_5 : decode cX3_init 5 = .ok (.new 7, 3) := by decide +kernel
theorem dX3_init_8 : decode cX3_init 8 = .ok (.dup, 1) := by decide +kernel
theorem dX3_init_9 : decode cX3_init 9 = .ok (.invokespecial 9, 3) := by decide +kernel
theorem dX3_init_12 : decode cX3_init 12 = .ok (.putfield 10, 3) := by decide +kernel
theorem dX3_init_15 : decode cX3_init 15 = .ok (.aload_n 0, 1) := by decide +kernel
theorem dX3_init_16 : decode cX3_init 16 = .ok (.new 16, 3) := by decide +kernel
theorem dX3_init_19 : decode cX3_init 19 = .ok (.dup, 1) := by decide +kernel
theorem dX3_init_20 : decode cX3_init 20 = .ok (.invokespecial 18, 3) := by decide +kernel
theorem dX3_init_23 : decode cX3_init 23 = .ok (.putfield 19, 3) := by decide +kernel
theorem dX3_init_26 : decode cX3_init 26 = .ok (.aload_n 0, 1) := by decide +kernel
theorem dX3_init_27 : decode cX3_init 27 = .ok (.new 23, 3) := by decide +kernel
theorem dX3_init_30 : decode cX3_init 30 = .ok (.dup, 1) := by decide +kernel
theorem dX3_init_31 : decode cX3_init 31 = .ok (.invokespecial 25, 3) := by decide +kernel
theorem dX3_init_34 : decode cX3_init 34 = .ok (.putfield 26, 3) := by decide +kernel
theorem dX3_init_37 : decode cX3_init 37 = .ok (.aload_n 0, 1) := by decide +kernel
theorem dX3_init_38 : decode cX3_init 38 = .ok (.iconst 2, 1) := by decide +kernel
theorem dX3_init_39 : decode cX3_init 39 = .ok (.anewarray 7, 3) := by decide +kernel
theorem dX3_init_42 : decode cX3_init 42 = .ok (.putfield 30, 3) := by decide +kernel
theorem dX3_init_45 : decode cX3_init 45 = .ok (.return_, 1) := by decide +kernel
theorem dX3_set_0 : decode cX3_set 0 = .ok (.aload_n 0, 1) := by decide +kernel
theorem dX3_set_1 : decode cX3_set 1 = .ok (.getfield 19, 3) := by decide +kernel
theorem dX3_set_4 : decode cX3_set 4 = .ok (.aload_n 0, 1) := by decide +kernel
theorem dX3_set_5 : decode cX3_set 5 = .ok (.getfield 10, 3) := by decide +kernel
theorem dX3_set_8 : decode cX3_set 8 = .ok (.invokevirtual 34, 3) := by decide +kernel
theorem dX3_set_11 : decode cX3_set 11 = .ok (.aload_n 0, 1) := by decide +kernel
theorem dX3_set_12 : decode cX3_set 12 = .ok (.getfield 19, 3) := by decide +kernel
theorem dX3_set_15 : decode cX3_set 15 = .ok (.aload_n 0, 1) := by decide +kernel
theorem dX3_set_16 : decode cX3_set 16 = .ok (.getfield 10, 3) := by decide +kernel
theorem dX3_set_19 : decode cX3_set 19 = .ok (.iload_n 1, 1) := by decide +kernel
theorem dX3_set_20 : decode cX3_set 20 = .ok (.iload_n 2, 1) := by decide +kernel
theorem dX3_set_21 : decode cX3_set 21 = .ok (.invokevirtual 38, 3) := by decide +kernel
theorem dX3_set_24 : decode cX3_set 24 = .ok (.invokevirtual 42, 3) := by decide +kernel
theorem dX3_set_27 : decode cX3_set 27 = .ok (.ireturn, 1) := by decide +kernel
theorem dX3_person_0 : decode cX3_person 0 = .ok (.aload_n 0, 1) := by decide +kernel
theorem dX3_person_1 : decode cX3_person 1 = .ok (.getfield 19, 3) := by decide +kernel
theorem dX3_person_4 : decode cX3_person 4 = .ok (.aload_n 0, 1) := by decide +kernel
theorem dX3_person_5 : decode cX3_person 5 = .ok (.getfield 10, 3) := by decide +kernel
theorem dX3_person_8 : decode cX3_person 8 = .ok (.invokevirtual 34, 3) := by decide +kernel
theorem dX3_person_11 : decode cX3_person 11 = .ok (.aload_n 0, 1) := by decide +kernel
theorem dX3_person_12 : decode cX3_person 12 = .ok (.getfield 19, 3) := by decide +kernel
theorem dX3_person_15 : decode cX3_person 15 = .ok (.aload_n 0, 1) := by decide +kernel
theorem dX3_person_16 : decode cX3_person 16 = .ok (.getfield 10, 3) := by decide +kernel
theorem dX3_person_19 : decode cX3_person 19 = .ok (.iload_n 1, 1) := by decide +kernel
theorem dX3_person_20 : decode cX3_person 20 = .ok (.iload_n 2, 1) := by decide +kernel
theorem dX3_person_21 : decode cX3_person 21 = .ok (.invokevirtual 46, 3) := by decide +kernel
theorem dX3_person_24 : decode cX3_person 24 = .ok (.invokevirtual 42, 3) := by decide +kernel
theorem dX3_person_27 : decode cX3_person 27 = .ok (.ireturn, 1) := by decide +kernel
theorem dX3_second_0 : decode cX3_second 0 = .ok (.aload_n 0, 1) := by decide +kernel
theorem dX3_second_1 : decode cX3_second 1 = .ok (.getfield 19, 3) := by decide +kernel
theorem dX3_second_4 : decode cX3_second 4 = .ok (.aload_n 0, 1) := by decide +kernel
theorem dX3_second_5 : decode cX3_second 5 = .ok (.getfield 10, 3) := by decide +kernel
theorem dX3_second_8 : decode cX3_second 8 = .ok (.invokevirtual 34, 3) := by decide +kernel
theorem dX3_second_11 : decode cX3_second 11 = .ok (.aload_n 0, 1) := by decide +kernel
theorem dX3_second_12 : decode cX3_second 12 = .ok (.getfield 19, 3) := by decide +kernel
theorem dX3_second_15 : decode cX3_second 15 = .ok (.aload_n 0, 1) := by decide +kernel
theorem dX3_second_16 : decode cX3_second 16 = .ok (.getfield 10, 3) := by decide +kernel
theorem dX3_second_19 : decode cX3_second 19 = .ok (.iload_n 1, 1) := by decide +kernel
theorem dX3_second_20 : decode cX3_second 20 = .ok (.iload_n 2, 1) := by decide +kernel
theorem dX3_second_21 : decode cX3_second 21 = .ok (.invokevirtual 49, 3) := by decide +kernel
theorem dX3_second_24 : decode cX3_second 24 = .ok (.invokevirtual 42, 3) := by decide +kernel
theorem dX3_second_27 : decode cX3_second 27 = .ok (.ireturn, 1) := by decide +kernel
theorem dX3_allow_0 : decode cX3_allow 0 = .ok (.aload_n 0, 1) := by decide +kernel
theorem dX3_allow_1 : decode cX3_allow 1 = .ok (.getfield 19, 3) := by decide +kernel
theorem dX3_allow_4 : decode cX3_allow 4 = .ok (.aload_n 0, 1) := by decide +kernel
theorem dX3_allow_5 : decode cX3_allow 5 = .ok (.getfield 10, 3) := by decide +kernel
theorem dX3_allow_8 : decode cX3_allow 8 = .ok (.invokevirtual 34, 3) := by decide +kernel
theorem dX3_allow_11 : decode cX3_allow 11 = .ok (.aload_n 0, 1) := by decide +kernel
theorem dX3_allow_12 : decode cX3_allow 12 = .ok (.getfield 19, 3) := by decide +kernel
theorem dX3_allow_15 : decode cX3_allow 15 = .ok (.aload_n 0, 1) := by decide +kernel
theorem dX3_allow_16 : decode cX3_allow 16 = .ok (.getfield 10, 3) := by decide +kernel
theorem dX3_allow_19 : decode cX3_allow 19 = .ok (.iload_n 1, 1) := by decide +kernel
theorem dX3_allow_20 : decode cX3_allow 20 = .ok (.invokevirtual 52, 3) := by decide +kernel
theorem dX3_allow_23 : decode cX3_allow 23 = .ok (.invokevirtual 42, 3) := by decide +kernel
theorem dX3_allow_26 : decode cX3_allow 26 = .ok (.ireturn, 1) := by decide +kernel
theorem dX3_insult_0 : decode cX3_insult 0 = .ok (.aload_n 0, 1) := by decide +kernel
theorem dX3_insult_1 : decode cX3_insult 1 = .ok (.getfield 19, 3) := by decide +kernel
theorem dX3_insult_4 : decode cX3_insult 4 = .ok (.aload_n 0, 1) := by decide +kernel
theorem dX3_insult_5 : decode cX3_insult 5 = .ok (.getfield 10, 3) := by decide +kernel
theorem dX3_insult_8 : decode cX3_insult 8 = .ok (.invokevirtual 34, 3) := by decide +kernel
theorem dX3_insult_11 : decode cX3_insult 11 = .ok (.aload_n 0, 1) := by decide +kernel
theorem dX3_insult_12 : decode cX3_insult 12 = .ok (.getfield 19, 3) := by decide +kernel
theorem dX3_insult_15 : decode cX3_insult 15 = .ok (.aload_n 0, 1) := by decide +kernel
theorem dX3_insult_16 : decode cX3_insult 16 = .ok (.getfield 10, 3) := by decide +kernel
theorem dX3_insult_19 : decode cX3_insult 19 = .ok (.iload_n 1, 1) := by decide +kernel
theorem dX3_insult_20 : decode cX3_insult 20 = .ok (.iload_n 2, 1) := by decide +kernel
theorem dX3_insult_21 : decode cX3_insult 21 = .ok (.iload_n 3, 1) := by decide +kernel
theorem dX3_insult_22 : decode cX3_insult 22 = .ok (.invokevirtual 55, 3) := by decide +kernel
theorem dX3_insult_25 : decode cX3_insult 25 = .ok (.invokevirtual 42, 3) := by decide +kernel
theorem dX3_insult_28 : decode cX3_insult 28 = .ok (.ireturn, 1) := by decide +kernel
theorem dX3_settle_0 : decode cX3_settle 0 = .ok (.aload_n 0, 1) := by decide +kernel
theorem dX3_settle_1 : decode cX3_settle 1 = .ok (.getfield 19, 3) := by decide +kernel
theorem dX3_settle_4 : decode cX3_settle 4 = .ok (.aload_n 0, 1) := by decide +kernel
theorem dX3_settle_5 : decode cX3_settle 5 = .ok (.getfield 10, 3) := by decide +kernel
theorem dX3_settle_8 : decode cX3_settle 8 = .ok (.invokevirtual 34, 3) := by decide +kernel
theorem dX3_settle_11 : decode cX3_settle 11 = .ok (.aload_n 0, 1) := by decide +kernel
theorem dX3_settle_12 : decode cX3_settle 12 = .ok (.getfield 19, 3) := by decide +kernel
theorem dX3_settle_15 : decode cX3_settle 15 = .ok (.aload_n 0, 1) := by decide +kernel
theorem dX3_settle_16 : decode cX3_settle 16 = .ok (.getfield 10, 3) := by decide +kernel
theorem dX3_settle_19 : decode cX3_settle 19 = .ok (.iload_n 1, 1) := by decide +kernel
theorem dX3_settle_20 : decode cX3_settle 20 = .ok (.iload_n 2, 1) := by decide +kernel
theorem dX3_settle_21 : decode cX3_settle 21 = .ok (.invokevirtual 59, 3) := by decide +kernel
theorem dX3_settle_24 : decode cX3_settle 24 = .ok (.invokevirtual 42, 3) := by decide +kernel
theorem dX3_settle_27 : decode cX3_settle 27 = .ok (.ireturn, 1) := by decide +kernel
theorem dX3_fight_0 : decode cX3_fight 0 = .ok (.aload_n 0, 1) := by decide +kernel
theorem dX3_fight_1 : decode cX3_fight 1 = .ok (.getfield 19, 3) := by decide +kernel
theorem dX3_fight_4 : decode cX3_fight 4 = .ok (.aload_n 0, 1) := by decide +kernel
theorem dX3_fight_5 : decode cX3_fight 5 = .ok (.getfield 10, 3) := by decide +kernel
theorem dX3_fight_8 : decode cX3_fight 8 = .ok (.invokevirtual 34, 3) := by decide +kernel
theorem dX3_fight_11 : decode cX3_fight 11 = .ok (.aload_n 0, 1) := by decide +kernel
theorem dX3_fight_12 : decode cX3_fight 12 = .ok (.getfield 19, 3) := by decide +kernel
theorem dX3_fight_15 : decode cX3_fight 15 = .ok (.aload_n 0, 1) := by decide +kernel
theorem dX3_fight_16 : decode cX3_fight 16 = .ok (.getfield 10, 3) := by decide +kernel
theorem dX3_fight_19 : decode cX3_fight 19 = .ok (.iload_n 1, 1) := by decide +kernel
theorem dX3_fight_20 : decode cX3_fight 20 = .ok (.invokevirtual 62, 3) := by decide +kernel
theorem dX3_fight_23 : decode cX3_fight 23 = .ok (.invokevirtual 42, 3) := by decide +kernel
theorem dX3_fight_26 : decode cX3_fight 26 = .ok (.ireturn, 1) := by decide +kernel
theorem dX3_swear_0 : decode cX3_swear 0 = .ok (.aload_n 0, 1) := by decide +kernel
theorem dX3_swear_1 : decode cX3_swear 1 = .ok (.getfield 19, 3) := by decide +kernel
theorem dX3_swear_4 : decode cX3_swear 4 = .ok (.aload_n 0, 1) := by decide +kernel
theorem dX3_swear_5 : decode cX3_swear 5 = .ok (.getfield 10, 3) := by decide +kernel
theorem dX3_swear_8 : decode cX3_swear 8 = .ok (.invokevirtual 34, 3) := by decide +kernel
theorem dX3_swear_11 : decode cX3_swear 11 = .ok (.aload_n 0, 1) := by decide +kernel
theorem dX3_swear_12 : decode cX3_swear 12 = .ok (.getfield 19, 3) := by decide +kernel
theorem dX3_swear_15 : decode cX3_swear 15 = .ok (.aload_n 0, 1) := by decide +kernel
theorem dX3_swear_16 : decode cX3_swear 16 = .ok (.getfield 10, 3) := by decide +kernel
theorem dX3_swear_19 : decode cX3_swear 19 = .ok (.iload_n 1, 1) := by decide +kernel
theorem dX3_swear_20 : decode cX3_swear 20 = .ok (.invokevirtual 65, 3) := by decide +kernel
theorem dX3_swear_23 : decode cX3_swear 23 = .ok (.invokevirtual 42, 3) := by decide +kernel
theorem dX3_swear_26 : decode cX3_swear 26 = .ok (.ireturn, 1) := by decide +kernel
theorem dX3_pass_0 : decode cX3_pass 0 = .ok (.aload_n 0, 1) := by decide +kernel
theorem dX3_pass_1 : decode cX3_pass 1 = .ok (.getfield 19, 3) := by decide +kernel
theorem dX3_pass_4 : decode cX3_pass 4 = .ok (.aload_n 0, 1) := by decide +kernel
theorem dX3_pass_5 : decode cX3_pass 5 = .ok (.getfield 10, 3) := by decide +kernel
theorem dX3_pass_8 : decode cX3_pass 8 = .ok (.invokevirtual 34, 3) := by decide +kernel
theorem dX3_pass_11 : decode cX3_pass 11 = .ok (.aload_n 0, 1) := by decide +kernel
theorem dX3_pass_12 : decode cX3_pass 12 = .ok (.getfield 19, 3) := by decide +kernel
theorem dX3_pass_15 : decode cX3_pass 15 = .ok (.aload_n 0, 1) := by decide +kernel
theorem dX3_pass_16 : decode cX3_pass 16 = .ok (.getfield 10, 3) := by decide +kernel
theorem dX3_pass_19 : decode cX3_pass 19 = .ok (.iload_n 1, 1) := by decide +kernel
theorem dX3_pass_20 : decode cX3_pass 20 = .ok (.invokevirtual 68, 3) := by decide +kernel
theorem dX3_pass_23 : decode cX3_pass 23 = .ok (.invokevirtual 42, 3) := by decide +kernel
theorem dX3_pass_26 : decode cX3_pass 26 = .ok (.istore_n 2, 1) := by decide +kernel
theorem dX3_pass_27 : decode cX3_pass 27 = .ok (.iload_n 2, 1) := by decide +kernel
theorem dX3_pass_28 : decode cX3_pass 28 = .ok (.invokestatic 71, 3) := by decide +kernel
theorem dX3_pass_31 : decode cX3_pass 31 = .ok (.ifCond .eq 7, 3) := by decide +kernel
theorem dX3_pass_34 : decode cX3_pass 34 = .ok (.iload_n 2, 1) := by decide +kernel
theorem dX3_pass_35 : decode cX3_pass 35 = .ok (.goto 13, 3) := by decide +kernel
theorem dX3_pass_38 : decode cX3_pass 38 = .ok (.aload_n 0, 1) := by decide +kernel
theorem dX3_pass_39 : decode cX3_pass 39 = .ok (.getfield 10, 3) := by decide +kernel
theorem dX3_pass_42 : decode cX3_pass 42 = .ok (.invokevirtual 75, 3) := by decide +kernel
theorem dX3_pass_45 : decode cX3_pass 45 = .ok (.invokestatic 79, 3) := by decide +kernel
theorem dX3_pass_48 : decode cX3_pass 48 = .ok (.ireturn, 1) := by decide +kernel
theorem dX3_of_0 : decode cX3_of 0 = .ok (.aload_n 0, 1) := by decide +kernel
theorem dX3_of_1 : decode cX3_of 1 = .ok (.getfield 10, 3) := by decide +kernel
theorem dX3_of_4 : decode cX3_of 4 = .ok (.iload_n 1, 1) := by decide +kernel
theorem dX3_of_5 : decode cX3_of 5 = .ok (.iload_n 2, 1) := by decide +kernel
theorem dX3_of_6 : decode cX3_of 6 = .ok (.invokevirtual 84, 3) := by decide +kernel
theorem dX3_of_9 : decode cX3_of 9 = .ok (.ireturn, 1) := by decide +kernel
theorem dX3_quarrel_0 : decode cX3_quarrel 0 = .ok (.aload_n 0, 1) := by decide +kernel
theorem dX3_quarrel_1 : decode cX3_quarrel 1 = .ok (.getfield 10, 3) := by decide +kernel
theorem dX3_quarrel_4 : decode cX3_quarrel 4 = .ok (.iload_n 1, 1) := by decide +kernel
theorem dX3_quarrel_5 : decode cX3_quarrel 5 = .ok (.iload_n 2, 1) := by decide +kernel
theorem dX3_quarrel_6 : decode cX3_quarrel 6 = .ok (.invokevirtual 87, 3) := by decide +kernel
theorem dX3_quarrel_9 : decode cX3_quarrel 9 = .ok (.ireturn, 1) := by decide +kernel
theorem dX3_record_0 : decode cX3_record 0 = .ok (.aload_n 0, 1) := by decide +kernel
theorem dX3_record_1 : decode cX3_record 1 = .ok (.getfield 10, 3) := by decide +kernel
theorem dX3_record_4 : decode cX3_record 4 = .ok (.iload_n 1, 1) := by decide +kernel
theorem dX3_record_5 : decode cX3_record 5 = .ok (.iload_n 2, 1) := by decide +kernel
theorem dX3_record_6 : decode cX3_record 6 = .ok (.invokevirtual 90, 3) := by decide +kernel
theorem dX3_record_9 : decode cX3_record 9 = .ok (.ireturn, 1) := by decide +kernel
theorem dX3_pressing_0 : decode cX3_pressing 0 = .ok (.aload_n 0, 1) := by decide +kernel
theorem dX3_pressing_1 : decode cX3_pressing 1 = .ok (.getfield 10, 3) := by decide +kernel
theorem dX3_pressing_4 : decode cX3_pressing 4 = .ok (.iload_n 1, 1) := by decide +kernel
theorem dX3_pressing_5 : decode cX3_pressing 5 = .ok (.invokevirtual 93, 3) := by decide +kernel
theorem dX3_pressing_8 : decode cX3_pressing 8 = .ok (.ireturn, 1) := by decide +kernel
theorem dX3_insults_0 : decode cX3_insults 0 = .ok (.aload_n 0, 1) := by decide +kernel
theorem dX3_insults_1 : decode cX3_insults 1 = .ok (.getfield 10, 3) := by decide +kernel
theorem dX3_insults_4 : decode cX3_insults 4 = .ok (.iload_n 1, 1) := by decide +kernel
theorem dX3_insults_5 : decode cX3_insults 5 = .ok (.invokevirtual 96, 3) := by decide +kernel
theorem dX3_insults_8 : decode cX3_insults 8 = .ok (.ireturn, 1) := by decide +kernel
theorem dX3_count_0 : decode cX3_count 0 = .ok (.iload_n 1, 1) := by decide +kernel
theorem dX3_count_1 : decode cX3_count 1 = .ok (.bipush 13, 2) := by decide +kernel
theorem dX3_count_3 : decode cX3_count 3 = .ok (.if_icmp .ne 11, 3) := by decide +kernel
theorem dX3_count_6 : decode cX3_count 6 = .ok (.aload_n 0, 1) := by decide +kernel
theorem dX3_count_7 : decode cX3_count 7 = .ok (.getfield 26, 3) := by decide +kernel
theorem dX3_count_10 : decode cX3_count 10 = .ok (.getfield 99, 3) := by decide +kernel
theorem dX3_count_13 : decode cX3_count 13 = .ok (.ireturn, 1) := by decide +kernel
theorem dX3_count_14 : decode cX3_count 14 = .ok (.iload_n 1, 1) := by decide +kernel
theorem dX3_count_15 : decode cX3_count 15 = .ok (.bipush 14, 2) := by decide +kernel
theorem dX3_count_17 : decode cX3_count 17 = .ok (.if_icmp .ne 11, 3) := by decide +kernel
theorem dX3_count_20 : decode cX3_count 20 = .ok (.aload_n 0, 1) := by decide +kernel
theorem dX3_count_21 : decode cX3_count 21 = .ok (.getfield 19, 3) := by decide +kernel
theorem dX3_count_24 : decode cX3_count 24 = .ok (.getfield 103, 3) := by decide +kernel
theorem dX3_count_27 : decode cX3_count 27 = .ok (.ireturn, 1) := by decide +kernel
theorem dX3_count_28 : decode cX3_count 28 = .ok (.aload_n 0, 1) := by decide +kernel
theorem dX3_count_29 : decode cX3_count 29 = .ok (.getfield 10, 3) := by decide +kernel
theorem dX3_count_32 : decode cX3_count 32 = .ok (.iload_n 1, 1) := by decide +kernel
theorem dX3_count_33 : decode cX3_count 33 = .ok (.invokevirtual 106, 3) := by decide +kernel
theorem dX3_count_36 : decode cX3_count 36 = .ok (.ireturn, 1) := by decide +kernel
theorem dX3_why_0 : decode cX3_why 0 = .ok (.aload_n 0, 1) := by decide +kernel
theorem dX3_why_1 : decode cX3_why 1 = .ok (.getfield 10, 3) := by decide +kernel
theorem dX3_why_4 : decode cX3_why 4 = .ok (.iload_n 1, 1) := by decide +kernel
theorem dX3_why_5 : decode cX3_why 5 = .ok (.invokevirtual 109, 3) := by decide +kernel
theorem dX3_why_8 : decode cX3_why 8 = .ok (.ifCond .eq 22, 3) := by decide +kernel
theorem dX3_why_11 : decode cX3_why 11 = .ok (.aload_n 0, 1) := by decide +kernel
theorem dX3_why_12 : decode cX3_why 12 = .ok (.getfield 10, 3) := by decide +kernel
theorem dX3_why_15 : decode cX3_why 15 = .ok (.iload_n 1, 1) := by decide +kernel
theorem dX3_why_16 : decode cX3_why 16 = .ok (.aload_n 0, 1) := by decide +kernel
theorem dX3_why_17 : decode cX3_why 17 = .ok (.getfield 10, 3) := by decide +kernel
theorem dX3_why_20 : decode cX3_why 20 = .ok (.iload_n 1, 1) := by decide +kernel
theorem dX3_why_21 : decode cX3_why 21 = .ok (.invokevirtual 112, 3) := by decide +kernel
theorem dX3_why_24 : decode cX3_why 24 = .ok (.invokevirtual 115, 3) := by decide +kernel
theorem dX3_why_27 : decode cX3_why 27 = .ok (.goto 4, 3) := by decide +kernel
theorem dX3_why_30 : decode cX3_why 30 = .ok (.iconst (-1), 1) := by decide +kernel
theorem dX3_why_31 : decode cX3_why 31 = .ok (.ireturn, 1) := by decide +kernel
theorem dX3_firstWay_0 : decode cX3_firstWay 0 = .ok (.aload_n 0, 1) := by decide +kernel
theorem dX3_firstWay_1 : decode cX3_firstWay 1 = .ok (.getfield 10, 3) := by decide +kernel
theorem dX3_firstWay_4 : decode cX3_firstWay 4 = .ok (.iload_n 1, 1) := by decide +kernel
theorem dX3_firstWay_5 : decode cX3_firstWay 5 = .ok (.invokevirtual 109, 3) := by decide +kernel
theorem dX3_firstWay_8 : decode cX3_firstWay 8 = .ok (.ifCond .eq 17, 3) := by decide +kernel
theorem dX3_firstWay_11 : decode cX3_firstWay 11 = .ok (.aload_n 0, 1) := by decide +kernel
theorem dX3_firstWay_12 : decode cX3_firstWay 12 = .ok (.getfield 10, 3) := by decide +kernel
theorem dX3_firstWay_15 : decode cX3_firstWay 15 = .ok (.iload_n 1, 1) := by decide +kernel
theorem dX3_firstWay_16 : decode cX3_firstWay 16 = .ok (.invokevirtual 112, 3) := by decide +kernel
theorem dX3_firstWay_19 : decode cX3_firstWay 19 = .ok (.invokestatic 118, 3) := by decide +kernel
theorem dX3_firstWay_22 : decode cX3_firstWay 22 = .ok (.goto 4, 3) := by decide +kernel
theorem dX3_firstWay_25 : decode cX3_firstWay 25 = .ok (.iconst (-1), 1) := by decide +kernel
theorem dX3_firstWay_26 : decode cX3_firstWay 26 = .ok (.ireturn, 1) := by decide +kernel
theorem dX3_opensIn_0 : decode cX3_opensIn 0 = .ok (.aload_n 0, 1) := by decide +kernel
theorem dX3_opensIn_1 : decode cX3_opensIn 1 = .ok (.getfield 10, 3) := by decide +kernel
theorem dX3_opensIn_4 : decode cX3_opensIn 4 = .ok (.iload_n 1, 1) := by decide +kernel
theorem dX3_opensIn_5 : decode cX3_opensIn 5 = .ok (.invokevirtual 109, 3) := by decide +kernel
theorem dX3_opensIn_8 : decode cX3_opensIn 8 = .ok (.ifCond .ne 5, 3) := by decide +kernel
theorem dX3_opensIn_11 : decode cX3_opensIn 11 = .ok (.iconst (-1), 1) := by decide +kernel
theorem dX3_opensIn_12 : decode cX3_opensIn 12 = .ok (.ireturn, 1) := by decide +kernel
theorem dX3_opensIn_13 : decode cX3_opensIn 13 = .ok (.aload_n 0, 1) := by decide +kernel
theorem dX3_opensIn_14 : decode cX3_opensIn 14 = .ok (.getfield 10, 3) := by decide +kernel
theorem dX3_opensIn_17 : decode cX3_opensIn 17 = .ok (.iload_n 1, 1) := by decide +kernel
theorem dX3_opensIn_18 : decode cX3_opensIn 18 = .ok (.invokevirtual 121, 3) := by decide +kernel
theorem dX3_opensIn_21 : decode cX3_opensIn 21 = .ok (.ifCond .eq 14, 3) := by decide +kernel
theorem dX3_opensIn_24 : decode cX3_opensIn 24 = .ok (.aload_n 0, 1) := by decide +kernel
theorem dX3_opensIn_25 : decode cX3_opensIn 25 = .ok (.getfield 10, 3) := by decide +kernel
theorem dX3_opensIn_28 : decode cX3_opensIn 28 = .ok (.iload_n 1, 1) := by decide +kernel
theorem dX3_opensIn_29 : decode cX3_opensIn 29 = .ok (.invokevirtual 124, 3) := by decide +kernel
theorem dX3_opensIn_32 : decode cX3_opensIn 32 = .ok (.goto 5, 3) := by decide +kernel
theorem dX3_opensIn_35 : decode cX3_opensIn 35 = .ok (.bipush (-5), 2) := by decide +kernel
theorem dX3_opensIn_37 : decode cX3_opensIn 37 = .ok (.ireturn, 1) := by decide +kernel
theorem dX3_dueIn_0 : decode cX3_dueIn 0 = .ok (.aload_n 0, 1) := by decide +kernel
theorem dX3_dueIn_1 : decode cX3_dueIn 1 = .ok (.getfield 10, 3) := by decide +kernel
theorem dX3_dueIn_4 : decode cX3_dueIn 4 = .ok (.iload_n 1, 1) := by decide +kernel
theorem dX3_dueIn_5 : decode cX3_dueIn 5 = .ok (.invokevirtual 109, 3) := by decide +kernel
theorem dX3_dueIn_8 : decode cX3_dueIn 8 = .ok (.ifCond .ne 5, 3) := by decide +kernel
theorem dX3_dueIn_11 : decode cX3_dueIn 11 = .ok (.iconst (-1), 1) := by decide +kernel
theorem dX3_dueIn_12 : decode cX3_dueIn 12 = .ok (.ireturn, 1) := by decide +kernel
theorem dX3_dueIn_13 : decode cX3_dueIn 13 = .ok (.aload_n 0, 1) := by decide +kernel
theorem dX3_dueIn_14 : decode cX3_dueIn 14 = .ok (.getfield 10, 3) := by decide +kernel
theorem dX3_dueIn_17 : decode cX3_dueIn 17 = .ok (.iload_n 1, 1) := by decide +kernel
theorem dX3_dueIn_18 : decode cX3_dueIn 18 = .ok (.invokevirtual 121, 3) := by decide +kernel
theorem dX3_dueIn_21 : decode cX3_dueIn 21 = .ok (.ifCond .eq 14, 3) := by decide +kernel
theorem dX3_dueIn_24 : decode cX3_dueIn 24 = .ok (.aload_n 0, 1) := by decide +kernel
theorem dX3_dueIn_25 : decode cX3_dueIn 25 = .ok (.getfield 10, 3) := by decide +kernel
theorem dX3_dueIn_28 : decode cX3_dueIn 28 = .ok (.iload_n 1, 1) := by decide +kernel
theorem dX3_dueIn_29 : decode cX3_dueIn 29 = .ok (.invokevirtual 127, 3) := by decide +kernel
theorem dX3_dueIn_32 : decode cX3_dueIn 32 = .ok (.goto 5, 3) := by decide +kernel
theorem dX3_dueIn_35 : decode cX3_dueIn 35 = .ok (.bipush (-5), 2) := by decide +kernel
theorem dX3_dueIn_37 : decode cX3_dueIn 37 = .ok (.ireturn, 1) := by decide +kernel
theorem dX3_ifInsulted_0 : decode cX3_ifInsulted 0 = .ok (.aload_n 0, 1) := by decide +kernel
theorem dX3_ifInsulted_1 : decode cX3_ifInsulted 1 = .ok (.getfield 10, 3) := by decide +kernel
theorem dX3_ifInsulted_4 : decode cX3_ifInsulted 4 = .ok (.iload_n 1, 1) := by decide +kernel
theorem dX3_ifInsulted_5 : decode cX3_ifInsulted 5 = .ok (.iload_n 2, 1) := by decide +kernel
theorem dX3_ifInsulted_6 : decode cX3_ifInsulted 6 = .ok (.iload_n 3, 1) := by decide +kernel
theorem dX3_ifInsulted_7 : decode cX3_ifInsulted 7 = .ok (.invokevirtual 130, 3) := by decide +kernel
theorem dX3_ifInsulted_10 : decode cX3_ifInsulted 10 = .ok (.istore 4, 2) := by decide +kernel
theorem dX3_ifInsulted_12 : decode cX3_ifInsulted 12 = .ok (.iload 4, 2) := by decide +kernel
theorem dX3_ifInsulted_14 : decode cX3_ifInsulted 14 = .ok (.ifCond .eq 8, 3) := by decide +kernel
theorem dX3_ifInsulted_17 : decode cX3_ifInsulted 17 = .ok (.iload 4, 2) := by decide +kernel
theorem dX3_ifInsulted_19 : decode cX3_ifInsulted 19 = .ok (.goto 14, 3) := by decide +kernel
theorem dX3_ifInsulted_22 : decode cX3_ifInsulted 22 = .ok (.aload_n 0, 1) := by decide +kernel
theorem dX3_ifInsulted_23 : decode cX3_ifInsulted 23 = .ok (.getfield 10, 3) := by decide +kernel
theorem dX3_ifInsulted_26 : decode cX3_ifInsulted 26 = .ok (.iload_n 1, 1) := by decide +kernel
theorem dX3_ifInsulted_27 : decode cX3_ifInsulted 27 = .ok (.iload_n 2, 1) := by decide +kernel
theorem dX3_ifInsulted_28 : decode cX3_ifInsulted 28 = .ok (.iload_n 3, 1) := by decide +kernel
theorem dX3_ifInsulted_29 : decode cX3_ifInsulted 29 = .ok (.iconst 0, 1) := by decide +kernel
theorem dX3_ifInsulted_30 : decode cX3_ifInsulted 30 = .ok (.invokevirtual 133, 3) := by decide +kernel
theorem dX3_ifInsulted_33 : decode cX3_ifInsulted 33 = .ok (.ireturn, 1) := by decide +kernel
theorem dX3_ifFought_0 : decode cX3_ifFought 0 = .ok (.aload_n 0, 1) := by decide +kernel
theorem dX3_ifFought_1 : decode cX3_ifFought 1 = .ok (.getfield 10, 3) := by decide +kernel
theorem dX3_ifFought_4 : decode cX3_ifFought 4 = .ok (.iload_n 1, 1) := by decide +kernel
theorem dX3_ifFought_5 : decode cX3_ifFought 5 = .ok (.invokevirtual 109, 3) := by decide +kernel
theorem dX3_ifFought_8 : decode cX3_ifFought 8 = .ok (.ifCond .eq 14, 3) := by decide +kernel
theorem dX3_ifFought_11 : decode cX3_ifFought 11 = .ok (.aload_n 0, 1) := by decide +kernel
theorem dX3_ifFought_12 : decode cX3_ifFought 12 = .ok (.getfield 10, 3) := by decide +kernel
theorem dX3_ifFought_15 : decode cX3_ifFought 15 = .ok (.iload_n 1, 1) := by decide +kernel
theorem dX3_ifFought_16 : decode cX3_ifFought 16 = .ok (.invokevirtual 137, 3) := by decide +kernel
theorem dX3_ifFought_19 : decode cX3_ifFought 19 = .ok (.goto 4, 3) := by decide +kernel
theorem dX3_ifFought_22 : decode cX3_ifFought 22 = .ok (.iconst (-1), 1) := by decide +kernel
theorem dX3_ifFought_23 : decode cX3_ifFought 23 = .ok (.ireturn, 1) := by decide +kernel
theorem dX3_put_0 : decode cX3_put 0 = .ok (.lload_n 1, 1) := by decide +kernel
theorem dX3_put_1 : decode cX3_put 1 = .ok (.invokestatic 140, 3) := by decide +kernel
theorem dX3_put_4 : decode cX3_put 4 = .ok (.istore_n 3, 1) := by decide +kernel
theorem dX3_put_5 : decode cX3_put 5 = .ok (.iload_n 3, 1) := by decide +kernel
theorem dX3_put_6 : decode cX3_put 6 = .ok (.ifCond .ne 6, 3) := by decide +kernel
theorem dX3_put_9 : decode cX3_put 9 = .ok (.bipush (-2), 2) := by decide +kernel
theorem dX3_put_11 : decode cX3_put 11 = .ok (.ireturn, 1) := by decide +kernel
theorem dX3_put_12 : decode cX3_put 12 = .ok (.aload_n 0, 1) := by decide +kernel
theorem dX3_put_13 : decode cX3_put 13 = .ok (.getfield 26, 3) := by decide +kernel
theorem dX3_put_16 : decode cX3_put 16 = .ok (.lload_n 1, 1) := by decide +kernel
theorem dX3_put_17 : decode cX3_put 17 = .ok (.iload_n 3, 1) := by decide +kernel
theorem dX3_put_18 : decode cX3_put 18 = .ok (.invokevirtual 144, 3) := by decide +kernel
theorem dX3_put_21 : decode cX3_put 21 = .ok (.ifCond .eq 13, 3) := by decide +kernel
theorem dX3_put_24 : decode cX3_put 24 = .ok (.aload_n 0, 1) := by decide +kernel
theorem dX3_put_25 : decode cX3_put 25 = .ok (.getfield 26, 3) := by decide +kernel
theorem dX3_put_28 : decode cX3_put 28 = .ok (.getfield 99, 3) := by decide +kernel
theorem dX3_put_31 : decode cX3_put 31 = .ok (.goto 5, 3) := by decide +kernel
theorem dX3_put_34 : decode cX3_put 34 = .ok (.bipush (-4), 2) := by decide +kernel
theorem dX3_put_36 : decode cX3_put 36 = .ok (.ireturn, 1) := by decide +kernel
theorem dX3_wipe_0 : decode cX3_wipe 0 = .ok (.aload_n 0, 1) := by decide +kernel
theorem dX3_wipe_1 : decode cX3_wipe 1 = .ok (.getfield 26, 3) := by decide +kernel
theorem dX3_wipe_4 : decode cX3_wipe 4 = .ok (.getfield 99, 3) := by decide +kernel
theorem dX3_wipe_7 : decode cX3_wipe 7 = .ok (.istore_n 1, 1) := by decide +kernel
theorem dX3_wipe_8 : decode cX3_wipe 8 = .ok (.aload_n 0, 1) := by decide +kernel
theorem dX3_wipe_9 : decode cX3_wipe 9 = .ok (.getfield 26, 3) := by decide +kernel
theorem dX3_wipe_12 : decode cX3_wipe 12 = .ok (.iconst 0, 1) := by decide +kernel
theorem dX3_wipe_13 : decode cX3_wipe 13 = .ok (.putfield 99, 3) := by decide +kernel
theorem dX3_wipe_16 : decode cX3_wipe 16 = .ok (.iload_n 1, 1) := by decide +kernel
theorem dX3_wipe_17 : decode cX3_wipe 17 = .ok (.ireturn, 1) := by decide +kernel
theorem dX3_fault_0 : decode cX3_fault 0 = .ok (.aload_n 0, 1) := by decide +kernel
theorem dX3_fault_1 : decode cX3_fault 1 = .ok (.getfield 26, 3) := by decide +kernel
theorem dX3_fault_4 : decode cX3_fault 4 = .ok (.invokevirtual 148, 3) := by decide +kernel
theorem dX3_fault_7 : decode cX3_fault 7 = .ok (.ireturn, 1) := by decide +kernel
theorem dX3_carryOut_0 : decode cX3_carryOut 0 = .ok (.aload_n 0, 1) := by decide +kernel
theorem dX3_carryOut_1 : decode cX3_carryOut 1 = .ok (.getfield 26, 3) := by decide +kernel
theorem dX3_carryOut_4 : decode cX3_carryOut 4 = .ok (.invokevirtual 148, 3) := by decide +kernel
theorem dX3_carryOut_7 : decode cX3_carryOut 7 = .ok (.bipush (-6), 2) := by decide +kernel
theorem dX3_carryOut_9 : decode cX3_carryOut 9 = .ok (.if_icmp .eq 6, 3) := by decide +kernel
theorem dX3_carryOut_12 : decode cX3_carryOut 12 = .ok (.bipush (-3), 2) := by decide +kernel
theorem dX3_carryOut_14 : decode cX3_carryOut 14 = .ok (.ireturn, 1) := by decide +kernel
theorem dX3_carryOut_15 : decode cX3_carryOut 15 = .ok (.aload_n 0, 1) := by decide +kernel
theorem dX3_carryOut_16 : decode cX3_carryOut 16 = .ok (.getfield 19, 3) := by decide +kernel
theorem dX3_carryOut_19 : decode cX3_carryOut 19 = .ok (.aload_n 0, 1) := by decide +kernel
theorem dX3_carryOut_20 : decode cX3_carryOut 20 = .ok (.getfield 10, 3) := by decide +kernel
theorem dX3_carryOut_23 : decode cX3_carryOut 23 = .ok (.invokevirtual 34, 3) := by decide +kernel
theorem dX3_carryOut_26 : decode cX3_carryOut 26 = .ok (.iconst 0, 1) := by decide +kernel
theorem dX3_carryOut_27 : decode cX3_carryOut 27 = .ok (.istore_n 1, 1) := by decide +kernel
theorem dX3_carryOut_28 : decode cX3_carryOut 28 = .ok (.aload_n 0, 1) := by decide +kernel
theorem dX3_carryOut_29 : decode cX3_carryOut 29 = .ok (.getfield 26, 3) := by decide +kernel
theorem dX3_carryOut_32 : decode cX3_carryOut 32 = .ok (.iconst 0, 1) := by decide +kernel
theorem dX3_carryOut_33 : decode cX3_carryOut 33 = .ok (.putfield 151, 3) := by decide +kernel
theorem dX3_carryOut_36 : decode cX3_carryOut 36 = .ok (.iconst 0, 1) := by decide +kernel
theorem dX3_carryOut_37 : decode cX3_carryOut 37 = .ok (.istore_n 2, 1) := by decide +kernel
theorem dX3_carryOut_38 : decode cX3_carryOut 38 = .ok (.iload_n 2, 1) := by decide +kernel
theorem dX3_carryOut_39 : decode cX3_carryOut 39 = .ok (.bipush 80, 2) := by decide +kernel
theorem dX3_carryOut_41 : decode cX3_carryOut 41 = .ok (.if_icmp .ge 42, 3) := by decide +kernel
theorem dX3_carryOut_44 : decode cX3_carryOut 44 = .ok (.aload_n 0, 1) := by decide +kernel
theorem dX3_carryOut_45 : decode cX3_carryOut 45 = .ok (.getfield 26, 3) := by decide +kernel
theorem dX3_carryOut_48 : decode cX3_carryOut 48 = .ok (.invokevirtual 154, 3) := by decide +kernel
theorem dX3_carryOut_51 : decode cX3_carryOut 51 = .ok (.ifCond .eq 32, 3) := by decide +kernel
theorem dX3_carryOut_54 : decode cX3_carryOut 54 = .ok (.aload_n 0, 1) := by decide +kernel
theorem dX3_carryOut_55 : decode cX3_carryOut 55 = .ok (.invokevirtual 158, 3) := by decide +kernel
theorem dX3_carryOut_58 : decode cX3_carryOut 58 = .ok (.invokestatic 71, 3) := by decide +kernel
theorem dX3_carryOut_61 : decode cX3_carryOut 61 = .ok (.ifCond .eq 6, 3) := by decide +kernel
theorem dX3_carryOut_64 : decode cX3_carryOut 64 = .ok (.goto 19, 3) := by decide +kernel
theorem dX3_carryOut_67 : decode cX3_carryOut 67 = .ok (.iinc 1 1, 3) := by decide +kernel
theorem dX3_carryOut_70 : decode cX3_carryOut 70 = .ok (.aload_n 0, 1) := by decide +kernel
theorem dX3_carryOut_71 : decode cX3_carryOut 71 = .ok (.getfield 26, 3) := by decide +kernel
theorem dX3_carryOut_74 : decode cX3_carryOut 74 = .ok (.invokevirtual 161, 3) := by decide +kernel
theorem dX3_carryOut_77 : decode cX3_carryOut 77 = .ok (.iinc 2 1, 3) := by decide +kernel
theorem dX3_carryOut_80 : decode cX3_carryOut 80 = .ok (.goto (-42), 3) := by decide +kernel
theorem dX3_carryOut_83 : decode cX3_carryOut 83 = .ok (.aload_n 0, 1) := by decide +kernel
theorem dX3_carryOut_84 : decode cX3_carryOut 84 = .ok (.getfield 26, 3) := by decide +kernel
theorem dX3_carryOut_87 : decode cX3_carryOut 87 = .ok (.iconst 0, 1) := by decide +kernel
theorem dX3_carryOut_88 : decode cX3_carryOut 88 = .ok (.putfield 99, 3) := by decide +kernel
theorem dX3_carryOut_91 : decode cX3_carryOut 91 = .ok (.aload_n 0, 1) := by decide +kernel
theorem dX3_carryOut_92 : decode cX3_carryOut 92 = .ok (.getfield 19, 3) := by decide +kernel
theorem dX3_carryOut_95 : decode cX3_carryOut 95 = .ok (.iload_n 1, 1) := by decide +kernel
theorem dX3_carryOut_96 : decode cX3_carryOut 96 = .ok (.invokevirtual 42, 3) := by decide +kernel
theorem dX3_carryOut_99 : decode cX3_carryOut 99 = .ok (.ireturn, 1) := by decide +kernel
theorem dX3_undo_0 : decode cX3_undo 0 = .ok (.aload_n 0, 1) := by decide +kernel
theorem dX3_undo_1 : decode cX3_undo 1 = .ok (.getfield 19, 3) := by decide +kernel
theorem dX3_undo_4 : decode cX3_undo 4 = .ok (.aload_n 0, 1) := by decide +kernel
theorem dX3_undo_5 : decode cX3_undo 5 = .ok (.getfield 10, 3) := by decide +kernel
theorem dX3_undo_8 : decode cX3_undo 8 = .ok (.invokevirtual 164, 3) := by decide +kernel
theorem dX3_undo_11 : decode cX3_undo 11 = .ok (.ifCond .eq 13, 3) := by decide +kernel
theorem dX3_undo_14 : decode cX3_undo 14 = .ok (.aload_n 0, 1) := by decide +kernel
theorem dX3_undo_15 : decode cX3_undo 15 = .ok (.getfield 19, 3) := by decide +kernel
theorem dX3_undo_18 : decode cX3_undo 18 = .ok (.getfield 103, 3) := by decide +kernel
theorem dX3_undo_21 : decode cX3_undo 21 = .ok (.goto 5, 3) := by decide +kernel
theorem dX3_undo_24 : decode cX3_undo 24 = .ok (.bipush (-5), 2) := by decide +kernel
theorem dX3_undo_26 : decode cX3_undo 26 = .ok (.ireturn, 1) := by decide +kernel
theorem dX3_save_0 : decode cX3_save 0 = .ok (.aload_n 0, 1) := by decide +kernel
theorem dX3_save_1 : decode cX3_save 1 = .ok (.iload_n 1, 1) := by decide +kernel
theorem dX3_save_2 : decode cX3_save 2 = .ok (.invokevirtual 168, 3) := by decide +kernel
theorem dX3_save_5 : decode cX3_save 5 = .ok (.ifCond .ne 6, 3) := by decide +kernel
theorem dX3_save_8 : decode cX3_save 8 = .ok (.bipush (-2), 2) := by decide +kernel
theorem dX3_save_10 : decode cX3_save 10 = .ok (.ireturn, 1) := by decide +kernel
theorem dX3_save_11 : decode cX3_save 11 = .ok (.aload_n 0, 1) := by decide +kernel
theorem dX3_save_12 : decode cX3_save 12 = .ok (.getfield 30, 3) := by decide +kernel
theorem dX3_save_15 : decode cX3_save 15 = .ok (.iload_n 1, 1) := by decide +kernel
theorem dX3_save_16 : decode cX3_save 16 = .ok (.aaload, 1) := by decide +kernel
theorem dX3_save_17 : decode cX3_save 17 = .ok (.astore_n 2, 1) := by decide +kernel
theorem dX3_save_18 : decode cX3_save 18 = .ok (.aload_n 2, 1) := by decide +kernel
theorem dX3_save_19 : decode cX3_save 19 = .ok (.ifnonnull 18, 3) := by decide +kernel
theorem dX3_save_22 : decode cX3_save 22 = .ok (.new 7, 3) := by decide +kernel
theorem dX3_save_25 : decode cX3_save 25 = .ok (.dup, 1) := by decide +kernel
theorem dX3_save_26 : decode cX3_save 26 = .ok (.invokespecial 9, 3) := by decide +kernel
theorem dX3_save_29 : decode cX3_save 29 = .ok (.astore_n 2, 1) := by decide +kernel
theorem dX3_save_30 : decode cX3_save 30 = .ok (.aload_n 0, 1) := by decide +kernel
theorem dX3_save_31 : decode cX3_save 31 = .ok (.getfield 30, 3) := by decide +kernel
theorem dX3_save_34 : decode cX3_save 34 = .ok (.iload_n 1, 1) := by decide +kernel
theorem dX3_save_35 : decode cX3_save 35 = .ok (.aload_n 2, 1) := by decide +kernel
theorem dX3_save_36 : decode cX3_save 36 = .ok (.aastore, 1) := by decide +kernel
theorem dX3_save_37 : decode cX3_save 37 = .ok (.aload_n 2, 1) := by decide +kernel
theorem dX3_save_38 : decode cX3_save 38 = .ok (.aload_n 0, 1) := by decide +kernel
theorem dX3_save_39 : decode cX3_save 39 = .ok (.getfield 10, 3) := by decide +kernel
theorem dX3_save_42 : decode cX3_save 42 = .ok (.invokevirtual 171, 3) := by decide +kernel
theorem dX3_save_45 : decode cX3_save 45 = .ok (.aload_n 0, 1) := by decide +kernel
theorem dX3_save_46 : decode cX3_save 46 = .ok (.getfield 10, 3) := by decide +kernel
theorem dX3_save_49 : decode cX3_save 49 = .ok (.getfield 174, 3) := by decide +kernel
theorem dX3_save_52 : decode cX3_save 52 = .ok (.ireturn, 1) := by decide +kernel
theorem dX3_restore_0 : decode cX3_restore 0 = .ok (.aload_n 0, 1) := by decide +kernel
theorem dX3_restore_1 : decode cX3_restore 1 = .ok (.iload_n 1, 1) := by decide +kernel
theorem dX3_restore_2 : decode cX3_restore 2 = .ok (.invokevirtual 168, 3) := by decide +kernel
theorem dX3_restore_5 : decode cX3_restore 5 = .ok (.ifCond .ne 6, 3) := by decide +kernel
theorem dX3_restore_8 : decode cX3_restore 8 = .ok (.bipush (-2), 2) := by decide +kernel
theorem dX3_restore_10 : decode cX3_restore 10 = .ok (.ireturn, 1) := by decide +kernel
theorem dX3_restore_11 : decode cX3_restore 11 = .ok (.aload_n 0, 1) := by decide +kernel
theorem dX3_restore_12 : decode cX3_restore 12 = .ok (.getfield 30, 3) := by decide +kernel
theorem dX3_restore_15 : decode cX3_restore 15 = .ok (.iload_n 1, 1) := by decide +kernel
theorem dX3_restore_16 : decode cX3_restore 16 = .ok (.aaload, 1) := by decide +kernel
theorem dX3_restore_17 : decode cX3_restore 17 = .ok (.astore_n 2, 1) := by decide +kernel
theorem dX3_restore_18 : decode cX3_restore 18 = .ok (.aload_n 2, 1) := by decide +kernel
theorem dX3_restore_19 : decode cX3_restore 19 = .ok (.ifnonnull 6, 3) := by decide +kernel
theorem dX3_restore_22 : decode cX3_restore 22 = .ok (.bipush (-5), 2) := by decide +kernel
theorem dX3_restore_24 : decode cX3_restore 24 = .ok (.ireturn, 1) := by decide +kernel
theorem dX3_restore_25 : decode cX3_restore 25 = .ok (.aload_n 0, 1) := by decide +kernel
theorem dX3_restore_26 : decode cX3_restore 26 = .ok (.getfield 19, 3) := by decide +kernel
theorem dX3_restore_29 : decode cX3_restore 29 = .ok (.aload_n 0, 1) := by decide +kernel
theorem dX3_restore_30 : decode cX3_restore 30 = .ok (.getfield 10, 3) := by decide +kernel
theorem dX3_restore_33 : decode cX3_restore 33 = .ok (.invokevirtual 34, 3) := by decide +kernel
theorem dX3_restore_36 : decode cX3_restore 36 = .ok (.aload_n 0, 1) := by decide +kernel
theorem dX3_restore_37 : decode cX3_restore 37 = .ok (.getfield 10, 3) := by decide +kernel
theorem dX3_restore_40 : decode cX3_restore 40 = .ok (.aload_n 2, 1) := by decide +kernel
theorem dX3_restore_41 : decode cX3_restore 41 = .ok (.invokevirtual 171, 3) := by decide +kernel
theorem dX3_restore_44 : decode cX3_restore 44 = .ok (.aload_n 0, 1) := by decide +kernel
theorem dX3_restore_45 : decode cX3_restore 45 = .ok (.getfield 19, 3) := by decide +kernel
theorem dX3_restore_48 : decode cX3_restore 48 = .ok (.aload_n 0, 1) := by decide +kernel
theorem dX3_restore_49 : decode cX3_restore 49 = .ok (.getfield 10, 3) := by decide +kernel
theorem dX3_restore_52 : decode cX3_restore 52 = .ok (.getfield 174, 3) := by decide +kernel
theorem dX3_restore_55 : decode cX3_restore 55 = .ok (.invokevirtual 42, 3) := by decide +kernel
theorem dX3_restore_58 : decode cX3_restore 58 = .ok (.ireturn, 1) := by decide +kernel
theorem dX3_isSlot_0 : decode cX3_isSlot 0 = .ok (.iload_n 1, 1) := by decide +kernel
theorem dX3_isSlot_1 : decode cX3_isSlot 1 = .ok (.ifCond .lt 16, 3) := by decide +kernel
theorem dX3_isSlot_4 : decode cX3_isSlot 4 = .ok (.iload_n 1, 1) := by decide +kernel
theorem dX3_isSlot_5 : decode cX3_isSlot 5 = .ok (.aload_n 0, 1) := by decide +kernel
theorem dX3_isSlot_6 : decode cX3_isSlot 6 = .ok (.getfield 30, 3) := by decide +kernel
theorem dX3_isSlot_9 : decode cX3_isSlot 9 = .ok (.arraylength, 1) := by decide +kernel
theorem dX3_isSlot_10 : decode cX3_isSlot 10 = .ok (.if_icmp .ge 7, 3) := by decide +kernel
theorem dX3_isSlot_13 : decode cX3_isSlot 13 = .ok (.iconst 1, 1) := by decide +kernel
theorem dX3_isSlot_14 : decode cX3_isSlot 14 = .ok (.goto 4, 3) := by decide +kernel
theorem dX3_isSlot_17 : decode cX3_isSlot 17 = .ok (.iconst 0, 1) := by decide +kernel
theorem dX3_isSlot_18 : decode cX3_isSlot 18 = .ok (.ireturn, 1) := by decide +kernel
theorem dX3_isError_0 : decode cX3_isError 0 = .ok (.iload_n 0, 1) := by decide +kernel
theorem dX3_isError_1 : decode cX3_isError 1 = .ok (.ifCond .ge 13, 3) := by decide +kernel
theorem dX3_isError_4 : decode cX3_isError 4 = .ok (.iload_n 0, 1) := by decide +kernel
theorem dX3_isError_5 : decode cX3_isError 5 = .ok (.bipush (-6), 2) := by decide +kernel
theorem dX3_isError_7 : decode cX3_isError 7 = .ok (.if_icmp .eq 7, 3) := by decide +kernel
theorem dX3_isError_10 : decode cX3_isError 10 = .ok (.iconst 1, 1) := by decide +kernel
theorem dX3_isError_11 : decode cX3_isError 11 = .ok (.goto 4, 3) := by decide +kernel
theorem dX3_isError_14 : decode cX3_isError 14 = .ok (.iconst 0, 1) := by decide +kernel
theorem dX3_isError_15 : decode cX3_isError 15 = .ok (.ireturn, 1) := by decide +kernel
theorem dX3_carryOutOrder_0 : decode cX3_carryOutOrder 0 = .ok (.aload_n 0, 1) := by decide +kernel
theorem dX3_carryOutOrder_1 : decode cX3_carryOutOrder 1 = .ok (.getfield 26, 3) := by decide +kernel
theorem dX3_carryOutOrder_4 : decode cX3_carryOutOrder 4 = .ok (.iconst 0, 1) := by decide +kernel
theorem dX3_carryOutOrder_5 : decode cX3_carryOutOrder 5 = .ok (.invokevirtual 177, 3) := by decide +kernel
theorem dX3_carryOutOrder_8 : decode cX3_carryOutOrder 8 = .ok (.istore_n 1, 1) := by decide +kernel
theorem dX3_carryOutOrder_9 : decode cX3_carryOutOrder 9 = .ok (.aload_n 0, 1) := by decide +kernel
theorem dX3_carryOutOrder_10 : decode cX3_carryOutOrder 10 = .ok (.getfield 26, 3) := by decide +kernel
theorem dX3_carryOutOrder_13 : decode cX3_carryOutOrder 13 = .ok (.iconst 1, 1) := by decide +kernel
theorem dX3_carryOutOrder_14 : decode cX3_carryOutOrder 14 = .ok (.invokevirtual 177, 3) := by decide +kernel
theorem dX3_carryOutOrder_17 : decode cX3_carryOutOrder 17 = .ok (.istore_n 2, 1) := by decide +kernel
theorem dX3_carryOutOrder_18 : decode cX3_carryOutOrder 18 = .ok (.aload_n 0, 1) := by decide +kernel
theorem dX3_carryOutOrder_19 : decode cX3_carryOutOrder 19 = .ok (.getfield 26, 3) := by decide +kernel
theorem dX3_carryOutOrder_22 : decode cX3_carryOutOrder 22 = .ok (.getfield 180, 3) := by decide +kernel
theorem dX3_carryOutOrder_25 : decode cX3_carryOutOrder 25 = .ok (.tableswitch 191 97 119 #[182, 191, 191, 191, 191, 155, 191, 191, 127, 191, 191, 191, 191, 191, 164, 107, 191, 191, 117, 173, 191, 191, 145], 107) := by decide +kernel
theorem dX3_carryOutOrder_132 : decode cX3_carryOutOrder 132 = .ok (.aload_n 0, 1) := by decide +kernel
theorem dX3_carryOutOrder_133 : decode cX3_carryOutOrder 133 = .ok (.getfield 10, 3) := by decide +kernel
theorem dX3_carryOutOrder_136 : decode cX3_carryOutOrder 136 = .ok (.iload_n 1, 1) := by decide +kernel
theorem dX3_carryOutOrder_137 : decode cX3_carryOutOrder 137 = .ok (.iload_n 2, 1) := by decide +kernel
theorem dX3_carryOutOrder_138 : decode cX3_carryOutOrder 138 = .ok (.invokevirtual 46, 3) := by decide +kernel
theorem dX3_carryOutOrder_141 : decode cX3_carryOutOrder 141 = .ok (.ireturn, 1) := by decide +kernel
theorem dX3_carryOutOrder_142 : decode cX3_carryOutOrder 142 = .ok (.aload_n 0, 1) := by decide +kernel
theorem dX3_carryOutOrder_143 : decode cX3_carryOutOrder 143 = .ok (.getfield 10, 3) := by decide +kernel
theorem dX3_carryOutOrder_146 : decode cX3_carryOutOrder 146 = .ok (.iload_n 1, 1) := by decide +kernel
theorem dX3_carryOutOrder_147 : decode cX3_carryOutOrder 147 = .ok (.iload_n 2, 1) := by decide +kernel
theorem dX3_carryOutOrder_148 : decode cX3_carryOutOrder 148 = .ok (.invokevirtual 49, 3) := by decide +kernel
theorem dX3_carryOutOrder_151 : decode cX3_carryOutOrder 151 = .ok (.ireturn, 1) := by decide +kernel
theorem dX3_carryOutOrder_152 : decode cX3_carryOutOrder 152 = .ok (.aload_n 0, 1) := by decide +kernel
theorem dX3_carryOutOrder_153 : decode cX3_carryOutOrder 153 = .ok (.getfield 10, 3) := by decide +kernel
theorem dX3_carryOutOrder_156 : decode cX3_carryOutOrder 156 = .ok (.iload_n 1, 1) := by decide +kernel
theorem dX3_carryOutOrder_157 : decode cX3_carryOutOrder 157 = .ok (.iload_n 2, 1) := by decide +kernel
theorem dX3_carryOutOrder_158 : decode cX3_carryOutOrder 158 = .ok (.aload_n 0, 1) := by decide +kernel
theorem dX3_carryOutOrder_159 : decode cX3_carryOutOrder 159 = .ok (.getfield 26, 3) := by decide +kernel
theorem dX3_carryOutOrder_162 : decode cX3_carryOutOrder 162 = .ok (.iconst 2, 1) := by decide +kernel
theorem dX3_carryOutOrder_163 : decode cX3_carryOutOrder 163 = .ok (.invokevirtual 177, 3) := by decide +kernel
theorem dX3_carryOutOrder_166 : decode cX3_carryOutOrder 166 = .ok (.invokevirtual 55, 3) := by decide +kernel
theorem dX3_carryOutOrder_169 : decode cX3_carryOutOrder 169 = .ok (.ireturn, 1) := by decide +kernel
theorem dX3_carryOutOrder_170 : decode cX3_carryOutOrder 170 = .ok (.aload_n 0, 1) := by decide +kernel
theorem dX3_carryOutOrder_171 : decode cX3_carryOutOrder 171 = .ok (.getfield 10, 3) := by decide +kernel
theorem dX3_carryOutOrder_174 : decode cX3_carryOutOrder 174 = .ok (.iload_n 1, 1) := by decide +kernel
theorem dX3_carryOutOrder_175 : decode cX3_carryOutOrder 175 = .ok (.iload_n 2, 1) := by decide +kernel
theorem dX3_carryOutOrder_176 : decode cX3_carryOutOrder 176 = .ok (.invokevirtual 59, 3) := by decide +kernel
theorem dX3_carryOutOrder_179 : decode cX3_carryOutOrder 179 = .ok (.ireturn, 1) := by decide +kernel
theorem dX3_carryOutOrder_180 : decode cX3_carryOutOrder 180 = .ok (.aload_n 0, 1) := by decide +kernel
theorem dX3_carryOutOrder_181 : decode cX3_carryOutOrder 181 = .ok (.getfield 10, 3) := by decide +kernel
theorem dX3_carryOutOrder_184 : decode cX3_carryOutOrder 184 = .ok (.iload_n 1, 1) := by decide +kernel
theorem dX3_carryOutOrder_185 : decode cX3_carryOutOrder 185 = .ok (.invokevirtual 62, 3) := by decide +kernel
theorem dX3_carryOutOrder_188 : decode cX3_carryOutOrder 188 = .ok (.ireturn, 1) := by decide +kernel
theorem dX3_carryOutOrder_189 : decode cX3_carryOutOrder 189 = .ok (.aload_n 0, 1) := by decide +kernel
theorem dX3_carryOutOrder_190 : decode cX3_carryOutOrder 190 = .ok (.getfield 10, 3) := by decide +kernel
theorem dX3_carryOutOrder_193 : decode cX3_carryOutOrder 193 = .ok (.iload_n 1, 1) := by decide +kernel
theorem dX3_carryOutOrder_194 : decode cX3_carryOutOrder 194 = .ok (.invokevirtual 65, 3) := by decide +kernel
theorem dX3_carryOutOrder_197 : decode cX3_carryOutOrder 197 = .ok (.ireturn, 1) := by decide +kernel
theorem dX3_carryOutOrder_198 : decode cX3_carryOutOrder 198 = .ok (.aload_n 0, 1) := by decide +kernel
theorem dX3_carryOutOrder_199 : decode cX3_carryOutOrder 199 = .ok (.getfield 10, 3) := by decide +kernel
theorem dX3_carryOutOrder_202 : decode cX3_carryOutOrder 202 = .ok (.iload_n 1, 1) := by decide +kernel
theorem dX3_carryOutOrder_203 : decode cX3_carryOutOrder 203 = .ok (.invokevirtual 68, 3) := by decide +kernel
theorem dX3_carryOutOrder_206 : decode cX3_carryOutOrder 206 = .ok (.ireturn, 1) := by decide +kernel
theorem dX3_carryOutOrder_207 : decode cX3_carryOutOrder 207 = .ok (.aload_n 0, 1) := by decide +kernel
theorem dX3_carryOutOrder_208 : decode cX3_carryOutOrder 208 = .ok (.getfield 10, 3) := by decide +kernel
theorem dX3_carryOutOrder_211 : decode cX3_carryOutOrder 211 = .ok (.iload_n 1, 1) := by decide +kernel
theorem dX3_carryOutOrder_212 : decode cX3_carryOutOrder 212 = .ok (.invokevirtual 52, 3) := by decide +kernel
theorem dX3_carryOutOrder_215 : decode cX3_carryOutOrder 215 = .ok (.ireturn, 1) := by decide +kernel
theorem dX3_carryOutOrder_216 : decode cX3_carryOutOrder 216 = .ok (.bipush (-3), 2) := by decide +kernel
theorem dX3_carryOutOrder_218 : decode cX3_carryOutOrder 218 = .ok (.ireturn, 1) := by decide +kernel
theorem dX4_init_0 : decode cX4_init 0 = .ok (.aload_n 0, 1) := by decide +kernel
theorem dX4_init_1 : decode cX4_init 1 = .ok (.invokespecial 1, 3) := by decide +kernel
theorem dX4_init_4 : decode cX4_init 4 = .ok (.aload_n 0, 1) := by decide +kernel
theorem dX4_init_5 : decode cX4_init 5 = .ok (.sipush 181, 3) := by decide +kernel
theorem dX4_init_8 : decode cX4_init 8 = .ok (.newarray .int, 2) := by decide +kernel
theorem dX4_init_10 : decode cX4_init 10 = .ok (.putfield 7, 3) := by decide +kernel
theorem dX4_init_13 : decode cX4_init 13 = .ok (.aload_n 0, 1) := by decide +kernel
theorem dX4_init_14 : decode cX4_init 14 = .ok (.sipush 181, 3) := by decide +kernel
theorem dX4_init_17 : decode cX4_init 17 = .ok (.newarray .int, 2) := by decide +kernel
theorem dX4_init_19 : decode cX4_init 19 = .ok (.putfield 13, 3) := by decide +kernel
theorem dX4_init_22 : decode cX4_init 22 = .ok (.aload_n 0, 1) := by decide +kernel
theorem dX4_init_23 : decode cX4_init 23 = .ok (.sipush 1086, 3) := by decide +kernel
theorem dX4_init_26 : decode cX4_init 26 = .ok (.newarray .int, 2) := by decide +kernel
theorem dX4_init_28 : decode cX4_init 28 = .ok (.putfield 16, 3) := by decide +kernel
theorem dX4_init_31 : decode cX4_init 31 = .ok (.aload_n 0, 1) := by decide +kernel
theorem dX4_init_32 : decode cX4_init 32 = .ok (.sipush 362, 3) := by decide +kernel
theorem dX4_init_35 : decode cX4_init 35 = .ok (.newarray .int, 2) := by decide +kernel
theorem dX4_init_37 : decode cX4_init 37 = .ok (.putfield 19, 3) := by decide +kernel
theorem dX4_init_40 : decode cX4_init 40 = .ok (.aload_n 0, 1) := by decide +kernel
theorem dX4_init_41 : decode cX4_init 41 = .ok (.iconst 2, 1) := by decide +kernel
theorem dX4_init_42 : decode cX4_init 42 = .ok (.newarray .boolean, 2) := by decide +kernel
theorem dX4_init_44 : decode cX4_init 44 = .ok (.putfield 22, 3) := by decide +kernel
theorem dX4_init_47 : decode cX4_init 47 = .ok (.aload_n 0, 1) := by decide +kernel
theorem dX4_init_48 : decode cX4_init 48 = .ok (.bipush 80, 2) := by decide +kernel
theorem dX4_init_50 : decode cX4_init 50 = .ok (.newarray .int, 2) := by decide +kernel
theorem dX4_init_52 : decode cX4_init 52 = .ok (.putfield 26, 3) := by decide +kernel
theorem dX4_init_55 : decode cX4_init 55 = .ok (.aload_n 0, 1) := by decide +kernel
theorem dX4_init_56 : decode cX4_init 56 = .ok (.getfield 7, 3) := by decide +kernel
theorem dX4_init_59 : decode cX4_init 59 = .ok (.iconst 0, 1) := by decide +kernel
theorem dX4_init_60 : decode cX4_init 60 = .ok (.bipush 12, 2) := by decide +kernel
theorem dX4_init_62 : decode cX4_init 62 = .ok (.iastore, 1) := by decide +kernel
theorem dX4_init_63 : decode cX4_init 63 = .ok (.aload_n 0, 1) := by decide +kernel
theorem dX4_init_64 : decode cX4_init 64 = .ok (.getfield 7, 3) := by decide +kernel
theorem dX4_init_67 : decode cX4_init 67 = .ok (.iconst 1, 1) := by decide +kernel
theorem dX4_init_68 : decode cX4_init 68 = .ok (.bipush 24, 2) := by decide +kernel
theorem dX4_init_70 : decode cX4_init 70 = .ok (.iastore, 1) := by decide +kernel
theorem dX4_init_71 : decode cX4_init 71 = .ok (.aload_n 0, 1) := by decide +kernel
theorem dX4_init_72 : decode cX4_init 72 = .ok (.getfield 7, 3) := by decide +kernel
theorem dX4_init_75 : decode cX4_init 75 = .ok (.iconst 2, 1) := by decide +kernel
theorem dX4_init_76 : decode cX4_init 76 = .ok (.bipush 72, 2) := by decide +kernel
theorem dX4_init_78 : decode cX4_init 78 = .ok (.iastore, 1) := by decide +kernel
theorem dX4_init_79 : decode cX4_init 79 = .ok (.aload_n 0, 1) := by decide +kernel
theorem dX4_init_80 : decode cX4_init 80 = .ok (.getfield 7, 3) := by decide +kernel
theorem dX4_init_83 : decode cX4_init 83 = .ok (.iconst 3, 1) := by decide +kernel
theorem dX4_init_84 : decode cX4_init 84 = .ok (.bipush 100, 2) := by decide +kernel
theorem dX4_init_86 : decode cX4_init 86 = .ok (.iastore, 1) := by decide +kernel
theorem dX4_init_87 : decode cX4_init 87 = .ok (.aload_n 0, 1) := by decide +kernel
theorem dX4_init_88 : decode cX4_init 88 = .ok (.getfield 7, 3) := by decide +kernel
theorem dX4_init_91 : decode cX4_init 91 = .ok (.bipush 46, 2) := by decide +kernel
theorem dX4_init_93 : decode cX4_init 93 = .ok (.bipush 31, 2) := by decide +kernel
theorem dX4_init_95 : decode cX4_init 95 = .ok (.iastore, 1) := by decide +kernel
theorem dX4_init_96 : decode cX4_init 96 = .ok (.return_, 1) := by decide +kernel
theorem dX4_in_0 : decode cX4_in 0 = .ok (.iload_n 0, 1) := by decide +kernel
theorem dX4_in_1 : decode cX4_in 1 = .ok (.iload_n 1, 1) := by decide +kernel
theorem dX4_in_2 : decode cX4_in 2 = .ok (.if_icmp .lt 12, 3) := by decide +kernel
theorem dX4_in_5 : decode cX4_in 5 = .ok (.iload_n 0, 1) := by decide +kernel
theorem dX4_in_6 : decode cX4_in 6 = .ok (.iload_n 2, 1) := by decide +kernel
theorem dX4_in_7 : decode cX4_in 7 = .ok (.if_icmp .gt 7, 3) := by decide +kernel
theorem dX4_in_10 : decode cX4_in 10 = .ok (.iconst 1, 1) := by decide +kernel
theorem dX4_in_11 : decode cX4_in 11 = .ok (.goto 4, 3) := by decide +kernel
theorem dX4_in_14 : decode cX4_in 14 = .ok (.iconst 0, 1) := by decide +kernel
theorem dX4_in_15 : decode cX4_in 15 = .ok (.ireturn, 1) := by decide +kernel
theorem dX4_putAside_0 : decode cX4_putAside 0 = .ok (.iconst 0, 1) := by decide +kernel
theorem dX4_putAside_1 : decode cX4_putAside 1 = .ok (.istore_n 1, 1) := by decide +kernel
theorem dX4_putAside_2 : decode cX4_putAside 2 = .ok (.iload_n 1, 1) := by decide +kernel
theorem dX4_putAside_3 : decode cX4_putAside 3 = .ok (.sipush 181, 3) := by decide +kernel
theorem dX4_putAside_6 : decode cX4_putAside 6 = .ok (.if_icmp .ge 21, 3) := by decide +kernel
theorem dX4_putAside_9 : decode cX4_putAside 9 = .ok (.aload_n 0, 1) := by decide +kernel
theorem dX4_putAside_10 : decode cX4_putAside 10 = .ok (.getfield 13, 3) := by decide +kernel
theorem dX4_putAside_13 : decode cX4_putAside 13 = .ok (.iload_n 1, 1) := by decide +kernel
theorem dX4_putAside_14 : decode cX4_putAside 14 = .ok (.aload_n 0, 1) := by decide +kernel
theorem dX4_putAside_15 : decode cX4_putAside 15 = .ok (.getfield 7, 3) := by decide +kernel
theorem dX4_putAside_18 : decode cX4_putAside 18 = .ok (.iload_n 1, 1) := by decide +kernel
theorem dX4_putAside_19 : decode cX4_putAside 19 = .ok (.iaload, 1) := by decide +kernel
theorem dX4_putAside_20 : decode cX4_putAside 20 = .ok (.iastore, 1) := by decide +kernel
theorem dX4_putAside_21 : decode cX4_putAside 21 = .ok (.iinc 1 1, 3) := by decide +kernel
theorem dX4_putAside_24 : decode cX4_putAside 24 = .ok (.goto (-22), 3) := by decide +kernel
theorem dX4_putAside_27 : decode cX4_putAside 27 = .ok (.return_, 1) := by decide +kernel
theorem dX4_end_0 : decode cX4_end 0 = .ok (.iload_n 1, 1) := by decide +kernel
theorem dX4_end_1 : decode cX4_end 1 = .ok (.ifCond .ge 11, 3) := by decide +kernel
theorem dX4_end_4 : decode cX4_end 4 = .ok (.iload_n 1, 1) := by decide +kernel
theorem dX4_end_5 : decode cX4_end 5 = .ok (.bipush (-6), 2) := by decide +kernel
theorem dX4_end_7 : decode cX4_end 7 = .ok (.if_icmp .eq 5, 3) := by decide +kernel
theorem dX4_end_10 : decode cX4_end 10 = .ok (.iload_n 1, 1) := by decide +kernel
theorem dX4_end_11 : decode cX4_end 11 = .ok (.ireturn, 1) := by decide +kernel
theorem dX4_end_12 : decode cX4_end 12 = .ok (.aload_n 0, 1) := by decide +kernel
theorem dX4_end_13 : decode cX4_end 13 = .ok (.getfield 29, 3) := by decide +kernel
theorem dX4_end_16 : decode cX4_end 16 = .ok (.bipush 6, 2) := by decide +kernel
theorem dX4_end_18 : decode cX4_end 18 = .ok (.if_icmp .ne 44, 3) := by decide +kernel
theorem dX4_end_21 : decode cX4_end 21 = .ok (.iconst 0, 1) := by decide +kernel
theorem dX4_end_22 : decode cX4_end 22 = .ok (.istore_n 2, 1) := by decide +kernel
theorem dX4_end_23 : decode cX4_end 23 = .ok (.iload_n 2, 1) := by decide +kernel
theorem dX4_end_24 : decode cX4_end 24 = .ok (.sipush 905, 3) := by decide +kernel
theorem dX4_end_27 : decode cX4_end 27 = .ok (.if_icmp .ge 25, 3) := by decide +kernel
theorem dX4_end_30 : decode cX4_end 30 = .ok (.aload_n 0, 1) := by decide +kernel
theorem dX4_end_31 : decode cX4_end 31 = .ok (.getfield 16, 3) := by decide +kernel
theorem dX4_end_34 : decode cX4_end 34 = .ok (.iload_n 2, 1) := by decide +kernel
theorem dX4_end_35 : decode cX4_end 35 = .ok (.aload_n 0, 1) := by decide +kernel
theorem dX4_end_36 : decode cX4_end 36 = .ok (.getfield 16, 3) := by decide +kernel
theorem dX4_end_39 : decode cX4_end 39 = .ok (.sipush 181, 3) := by decide +kernel
theorem dX4_end_42 : decode cX4_end 42 = .ok (.iload_n 2, 1) := by decide +kernel
theorem dX4_end_43 : decode cX4_end 43 = .ok (.iadd, 1) := by decide +kernel
theorem dX4_end_44 : decode cX4_end 44 = .ok (.iaload, 1) := by decide +kernel
theorem dX4_end_45 : decode cX4_end 45 = .ok (.iastore, 1) := by decide +kernel
theorem dX4_end_46 : decode cX4_end 46 = .ok (.iinc 2 1, 3) := by decide +kernel
theorem dX4_end_49 : decode cX4_end 49 = .ok (.goto (-26), 3) := by decide +kernel
theorem dX4_end_52 : decode cX4_end 52 = .ok (.aload_n 0, 1) := by decide +kernel
theorem dX4_end_53 : decode cX4_end 53 = .ok (.dup, 1) := by decide +kernel
theorem dX4_end_54 : decode cX4_end 54 = .ok (.getfield 29, 3) := by decide +kernel
theorem dX4_end_57 : decode cX4_end 57 = .ok (.iconst 1, 1) := by decide +kernel
theorem dX4_end_58 : decode cX4_end 58 = .ok (.isub, 1) := by decide +kernel
theorem dX4_end_59 : decode cX4_end 59 = .ok (.putfield 29, 3) := by decide +kernel
theorem dX4_end_62 : decode cX4_end 62 = .ok (.iconst 0, 1) := by decide +kernel
theorem dX4_end_63 : decode cX4_end 63 = .ok (.istore_n 2, 1) := by decide +kernel
theorem dX4_end_64 : decode cX4_end 64 = .ok (.iload_n 2, 1) := by decide +kernel
theorem dX4_end_65 : decode cX4_end 65 = .ok (.sipush 181, 3) := by decide +kernel
theorem dX4_end_68 : decode cX4_end 68 = .ok (.if_icmp .ge 30, 3) := by decide +kernel
theorem dX4_end_71 : decode cX4_end 71 = .ok (.aload_n 0, 1) := by decide +kernel
theorem dX4_end_72 : decode cX4_end 72 = .ok (.getfield 16, 3) := by decide +kernel
theorem dX4_end_75 : decode cX4_end 75 = .ok (.sipush 181, 3) := by decide +kernel
theorem dX4_end_78 : decode cX4_end 78 = .ok (.aload_n 0, 1) := by decide +kernel
theorem dX4_end_79 : decode cX4_end 79 = .ok (.getfield 29, 3) := by decide +kernel
theorem dX4_end_82 : decode cX4_end 82 = .ok (.imul, 1) := by decide +kernel
theorem dX4_end_83 : decode cX4_end 83 = .ok (.iload_n 2, 1) := by decide +kernel
theorem dX4_end_84 : decode cX4_end 84 = .ok (.iadd, 1) := by decide +kernel
theorem dX4_end_85 : decode cX4_end 85 = .ok (.aload_n 0, 1) := by decide +kernel
theorem dX4_end_86 : decode cX4_end 86 = .ok (.getfield 13, 3) := by decide +kernel
theorem dX4_end_89 : decode cX4_end 89 = .ok (.iload_n 2, 1) := by decide +kernel
theorem dX4_end_90 : decode cX4_end 90 = .ok (.iaload, 1) := by decide +kernel
theorem dX4_end_91 : decode cX4_end 91 = .ok (.iastore, 1) := by decide +kernel
theorem dX4_end_92 : decode cX4_end 92 = .ok (.iinc 2 1, 3) := by decide +kernel
theorem dX4_end_95 : decode cX4_end 95 = .ok (.goto (-31), 3) := by decide +kernel
theorem dX4_end_98 : decode cX4_end 98 = .ok (.aload_n 0, 1) := by decide +kernel
theorem dX4_end_99 : decode cX4_end 99 = .ok (.dup, 1) := by decide +kernel
theorem dX4_end_100 : decode cX4_end 100 = .ok (.getfield 29, 3) := by decide +kernel
theorem dX4_end_103 : decode cX4_end 103 = .ok (.iconst 1, 1) := by decide +kernel
theorem dX4_end_104 : decode cX4_end 104 = .ok (.iadd, 1) := by decide +kernel
theorem dX4_end_105 : decode cX4_end 105 = .ok (.putfield 29, 3) := by decide +kernel
theorem dX4_end_108 : decode cX4_end 108 = .ok (.iload_n 1, 1) := by decide +kernel
theorem dX4_end_109 : decode cX4_end 109 = .ok (.ireturn, 1) := by decide +kernel
theorem dX4_isPerson_0 : decode cX4_isPerson 0 = .ok (.iload_n 1, 1) := by decide +kernel
theorem dX4_isPerson_1 : decode cX4_isPerson 1 = .ok (.iconst 0, 1) := by decide +kernel
theorem dX4_isPerson_2 : decode cX4_isPerson 2 = .ok (.aload_n 0, 1) := by decide +kernel
theorem dX4_isPerson_3 : decode cX4_isPerson 3 = .ok (.getfield 7, 3) := by decide +kernel
theorem dX4_isPerson_6 : decode cX4_isPerson 6 = .ok (.iconst 5, 1) := by decide +kernel
theorem dX4_isPerson_7 : decode cX4_isPerson 7 = .ok (.iaload, 1) := by decide +kernel
theorem dX4_isPerson_8 : decode cX4_isPerson 8 = .ok (.iconst 1, 1) := by decide +kernel
theorem dX4_isPerson_9 : decode cX4_isPerson 9 = .ok (.isub, 1) := by decide +kernel
theorem dX4_isPerson_10 : decode cX4_isPerson 10 = .ok (.invokestatic 33, 3) := by decide +kernel
theorem dX4_isPerson_13 : decode cX4_isPerson 13 = .ok (.ireturn, 1) := by decide +kernel
theorem dX4_isQuarrel_0 : decode cX4_isQuarrel 0 = .ok (.iload_n 1, 1) := by decide +kernel
theorem dX4_isQuarrel_1 : decode cX4_isQuarrel 1 = .ok (.iconst 0, 1) := by decide +kernel
theorem dX4_isQuarrel_2 : decode cX4_isQuarrel 2 = .ok (.aload_n 0, 1) := by decide +kernel
theorem dX4_isQuarrel_3 : decode cX4_isQuarrel 3 = .ok (.getfield 7, 3) := by decide +kernel
theorem dX4_isQuarrel_6 : decode cX4_isQuarrel 6 = .ok (.bipush 47, 2) := by decide +kernel
theorem dX4_isQuarrel_8 : decode cX4_isQuarrel 8 = .ok (.iaload, 1) := by decide +kernel
theorem dX4_isQuarrel_9 : decode cX4_isQuarrel 9 = .ok (.iconst 1, 1) := by decide +kernel
theorem dX4_isQuarrel_10 : decode cX4_isQuarrel 10 = .ok (.isub, 1) := by decide +kernel
theorem dX4_isQuarrel_11 : decode cX4_isQuarrel 11 = .ok (.invokestatic 33, 3) := by decide +kernel
theorem dX4_isQuarrel_14 : decode cX4_isQuarrel 14 = .ok (.ireturn, 1) := by decide +kernel
theorem dX4_person0_0 : decode cX4_person0 0 = .ok (.aload_n 0, 1) := by decide +kernel
theorem dX4_person0_1 : decode cX4_person0 1 = .ok (.getfield 7, 3) := by decide +kernel
theorem dX4_person0_4 : decode cX4_person0 4 = .ok (.bipush 6, 2) := by decide +kernel
theorem dX4_person0_6 : decode cX4_person0 6 = .ok (.iconst 4, 1) := by decide +kernel
theorem dX4_person0_7 : decode cX4_person0 7 = .ok (.iload_n 1, 1) := by decide +kernel
theorem dX4_person0_8 : decode cX4_person0 8 = .ok (.imul, 1) := by decide +kernel
theorem dX4_person0_9 : decode cX4_person0 9 = .ok (.iadd, 1) := by decide +kernel
theorem dX4_person0_10 : decode cX4_person0 10 = .ok (.iload_n 2, 1) := by decide +kernel
theorem dX4_person0_11 : decode cX4_person0 11 = .ok (.iadd, 1) := by decide +kernel
theorem dX4_person0_12 : decode cX4_person0 12 = .ok (.iaload, 1) := by decide +kernel
theorem dX4_person0_13 : decode cX4_person0 13 = .ok (.ireturn, 1) := by decide +kernel
theorem dX4_quarrel0_0 : decode cX4_quarrel0 0 = .ok (.aload_n 0, 1) := by decide +kernel
theorem dX4_quarrel0_1 : decode cX4_quarrel0 1 = .ok (.getfield 7, 3) := by decide +kernel
theorem dX4_quarrel0_4 : decode cX4_quarrel0 4 = .ok (.bipush 48, 2) := by decide +kernel
theorem dX4_quarrel0_6 : decode cX4_quarrel0 6 = .ok (.bipush 8, 2) := by decide +kernel
theorem dX4_quarrel0_8 : decode cX4_quarrel0 8 = .ok (.iload_n 1, 1) := by decide +kernel
theorem dX4_quarrel0_9 : decode cX4_quarrel0 9 = .ok (.imul, 1) := by decide +kernel
theorem dX4_quarrel0_10 : decode cX4_quarrel0 10 = .ok (.iadd, 1) := by decide +kernel
theorem dX4_quarrel0_11 : decode cX4_quarrel0 11 = .ok (.iload_n 2, 1) := by decide +kernel
theorem dX4_quarrel0_12 : decode cX4_quarrel0 12 = .ok (.iadd, 1) := by decide +kernel
theorem dX4_quarrel0_13 : decode cX4_quarrel0 13 = .ok (.iaload, 1) := by decide +kernel
theorem dX4_quarrel0_14 : decode cX4_quarrel0 14 = .ok (.ireturn, 1) := by decide +kernel
theorem dX4_isUnderOath_0 : decode cX4_isUnderOath 0 = .ok (.aload_n 0, 1) := by decide +kernel
theorem dX4_isUnderOath_1 : decode cX4_isUnderOath 1 = .ok (.iload_n 1, 1) := by decide +kernel
theorem dX4_isUnderOath_2 : decode cX4_isUnderOath 2 = .ok (.iconst 3, 1) := by decide +kernel
theorem dX4_isUnderOath_3 : decode cX4_isUnderOath 3 = .ok (.invokevirtual 37, 3) := by decide +kernel
theorem dX4_isUnderOath_6 : decode cX4_isUnderOath 6 = .ok (.aload_n 0, 1) := by decide +kernel
theorem dX4_isUnderOath_7 : decode cX4_isUnderOath 7 = .ok (.getfield 7, 3) := by decide +kernel
theorem dX4_isUnderOath_10 : decode cX4_isUnderOath 10 = .ok (.iconst 4, 1) := by decide +kernel
theorem dX4_isUnderOath_11 : decode cX4_isUnderOath 11 = .ok (.iaload, 1) := by decide +kernel
theorem dX4_isUnderOath_12 : decode cX4_isUnderOath 12 = .ok (.iload_n 2, 1) := by decide +kernel
theorem dX4_isUnderOath_13 : decode cX4_isUnderOath 13 = .ok (.iadd, 1) := by decide +kernel
theorem dX4_isUnderOath_14 : decode cX4_isUnderOath 14 = .ok (.if_icmp .le 7, 3) := by decide +kernel
theorem dX4_isUnderOath_17 : decode cX4_isUnderOath 17 = .ok (.iconst 1, 1) := by decide +kernel
theorem dX4_isUnderOath_18 : decode cX4_isUnderOath 18 = .ok (.goto 4, 3) := by decide +kernel
theorem dX4_isUnderOath_21 : decode cX4_isUnderOath 21 = .ok (.iconst 0, 1) := by decide +kernel
theorem dX4_isUnderOath_22 : decode cX4_isUnderOath 22 = .ok (.ireturn, 1) := by decide +kernel
theorem dX4_areOfThese_0 : decode cX4_areOfThese 0 = .ok (.aload_n 0, 1) := by decide +kernel
theorem dX4_areOfThese_1 : decode cX4_areOfThese 1 = .ok (.iload_n 1, 1) := by decide +kernel
theorem dX4_areOfThese_2 : decode cX4_areOfThese 2 = .ok (.iconst 0, 1) := by decide +kernel
theorem dX4_areOfThese_3 : decode cX4_areOfThese 3 = .ok (.invokevirtual 41, 3) := by decide +kernel
theorem dX4_areOfThese_6 : decode cX4_areOfThese 6 = .ok (.istore 4, 2) := by decide +kernel
theorem dX4_areOfThese_8 : decode cX4_areOfThese 8 = .ok (.aload_n 0, 1) := by decide +kernel
theorem dX4_areOfThese_9 : decode cX4_areOfThese 9 = .ok (.iload_n 1, 1) := by decide +kernel
theorem dX4_areOfThese_10 : decode cX4_areOfThese 10 = .ok (.iconst 1, 1) := by decide +kernel
theorem dX4_areOfThese_11 : decode cX4_areOfThese 11 = .ok (.invokevirtual 41, 3) := by decide +kernel
theorem dX4_areOfThese_14 : decode cX4_areOfThese 14 = .ok (.istore 5, 2) := by decide +kernel
theorem dX4_areOfThese_16 : decode cX4_areOfThese 16 = .ok (.iload 4, 2) := by decide +kernel
theorem dX4_areOfThese_18 : decode cX4_areOfThese 18 = .ok (.iload_n 2, 1) := by decide +kernel
theorem dX4_areOfThese_19 : decode cX4_areOfThese 19 = .ok (.if_icmp .ne 9, 3) := by decide +kernel
theorem dX4_areOfThese_22 : decode cX4_areOfThese 22 = .ok (.iload 5, 2) := by decide +kernel
theorem dX4_areOfThese_24 : decode cX4_areOfThese 24 = .ok (.iload_n 3, 1) := by decide +kernel
theorem dX4_areOfThese_25 : decode cX4_areOfThese 25 = .ok (.if_icmp .eq 15, 3) := by decide +kernel
theorem dX4_areOfThese_28 : decode cX4_areOfThese 28 = .ok (.iload 4, 2) := by decide +kernel
theorem dX4_areOfThese_30 : decode cX4_areOfThese 30 = .ok (.iload_n 3, 1) := by decide +kernel
theorem dX4_areOfThese_31 : decode cX4_areOfThese 31 = .ok (.if_icmp .ne 13, 3) := by decide +kernel
theorem dX4_areOfThese_34 : decode cX4_areOfThese 34 = .ok (.iload 5, 2) := by decide +kernel
theorem dX4_areOfThese_36 : decode cX4_areOfThese 36 = .ok (.iload_n 2, 1) := by decide +kernel
theorem dX4_areOfThese_37 : decode cX4_areOfThese 37 = .ok (.if_icmp .ne 7, 3) := by decide +kernel
theorem dX4_areOfThese_40 : decode cX4_areOfThese 40 = .ok (.iconst 1, 1) := by decide +kernel
theorem dX4_areOfThese_41 : decode cX4_areOfThese 41 = .ok (.goto 4, 3) := by decide +kernel
theorem dX4_areOfThese_44 : decode cX4_areOfThese 44 = .ok (.iconst 0, 1) := by decide +kernel
theorem dX4_areOfThese_45 : decode cX4_areOfThese 45 = .ok (.ireturn, 1) := by decide +kernel
theorem dX4_hasPeace_0 : decode cX4_hasPeace 0 = .ok (.iconst 0, 1) := by decide +kernel
theorem dX4_hasPeace_1 : decode cX4_hasPeace 1 = .ok (.istore 5, 2) := by decide +kernel
theorem dX4_hasPeace_3 : decode cX4_hasPeace 3 = .ok (.iconst 0, 1) := by decide +kernel
theorem dX4_hasPeace_4 : decode cX4_hasPeace 4 = .ok (.istore 6, 2) := by decide +kernel
theorem dX4_hasPeace_6 : decode cX4_hasPeace 6 = .ok (.iload 6, 2) := by decide +kernel
theorem dX4_hasPeace_8 : decode cX4_hasPeace 8 = .ok (.aload_n 0, 1) := by decide +kernel
theorem dX4_hasPeace_9 : decode cX4_hasPeace 9 = .ok (.getfield 7, 3) := by decide +kernel
theorem dX4_hasPeace_12 : decode cX4_hasPeace 12 = .ok (.bipush 47, 2) := by decide +kernel
theorem dX4_hasPeace_14 : decode cX4_hasPeace 14 = .ok (.iaload, 1) := by decide +kernel
theorem dX4_hasPeace_15 : decode cX4_hasPeace 15 = .ok (.if_icmp .ge 88, 3) := by decide +kernel
theorem dX4_hasPeace_18 : decode cX4_hasPeace 18 = .ok (.iload 6, 2) := by decide +kernel
theorem dX4_hasPeace_20 : decode cX4_hasPeace 20 = .ok (.iload_n 3, 1) := by decide +kernel
theorem dX4_hasPeace_21 : decode cX4_hasPeace 21 = .ok (.if_icmp .eq 29, 3) := by decide +kernel
theorem dX4_hasPeace_24 : decode cX4_hasPeace 24 = .ok (.aload_n 0, 1) := by decide +kernel
theorem dX4_hasPeace_25 : decode cX4_hasPeace 25 = .ok (.iload 6, 2) := by decide +kernel
theorem dX4_hasPeace_27 : decode cX4_hasPeace 27 = .ok (.iload_n 1, 1) := by decide +kernel
theorem dX4_hasPeace_28 : decode cX4_hasPeace 28 = .ok (.iload_n 2, 1) := by decide +kernel
theorem dX4_hasPeace_29 : decode cX4_hasPeace 29 = .ok (.invokevirtual 44, 3) := by decide +kernel
theorem dX4_hasPeace_32 : decode cX4_hasPeace 32 = .ok (.ifCond .eq 18, 3) := by decide +kernel
theorem dX4_hasPeace_35 : decode cX4_hasPeace 35 = .ok (.aload_n 0, 1) := by decide +kernel
theorem dX4_hasPeace_36 : decode cX4_hasPeace 36 = .ok (.iload 6, 2) := by decide +kernel
theorem dX4_hasPeace_38 : decode cX4_hasPeace 38 = .ok (.iconst 4, 1) := by decide +kernel
theorem dX4_hasPeace_39 : decode cX4_hasPeace 39 = .ok (.invokevirtual 41, 3) := by decide +kernel
theorem dX4_hasPeace_42 : decode cX4_hasPeace 42 = .ok (.iconst 1, 1) := by decide +kernel
theorem dX4_hasPeace_43 : decode cX4_hasPeace 43 = .ok (.if_icmp .ne 7, 3) := by decide +kernel
theorem dX4_hasPeace_46 : decode cX4_hasPeace 46 = .ok (.iconst 1, 1) := by decide +kernel
theorem dX4_hasPeace_47 : decode cX4_hasPeace 47 = .ok (.goto 4, 3) := by decide +kernel
theorem dX4_hasPeace_50 : decode cX4_hasPeace 50 = .ok (.iconst 0, 1) := by decide +kernel
theorem dX4_hasPeace_51 : decode cX4_hasPeace 51 = .ok (.istore 7, 2) := by decide +kernel
theorem dX4_hasPeace_53 : decode cX4_hasPeace 53 = .ok (.iload 5, 2) := by decide +kernel
theorem dX4_hasPeace_55 : decode cX4_hasPeace 55 = .ok (.ifCond .ne 35, 3) := by decide +kernel
theorem dX4_hasPeace_58 : decode cX4_hasPeace 58 = .ok (.iload 7, 2) := by decide +kernel
theorem dX4_hasPeace_60 : decode cX4_hasPeace 60 = .ok (.ifCond .eq 34, 3) := by decide +kernel
theorem dX4_hasPeace_63 : decode cX4_hasPeace 63 = .ok (.aload_n 0, 1) := by decide +kernel
theorem dX4_hasPeace_64 : decode cX4_hasPeace 64 = .ok (.getfield 7, 3) := by decide +kernel
theorem dX4_hasPeace_67 : decode cX4_hasPeace 67 = .ok (.iconst 4, 1) := by decide +kernel
theorem dX4_hasPeace_68 : decode cX4_hasPeace 68 = .ok (.iaload, 1) := by decide +kernel
theorem dX4_hasPeace_69 : decode cX4_hasPeace 69 = .ok (.iload 4, 2) := by decide +kernel
theorem dX4_hasPeace_71 : decode cX4_hasPeace 71 = .ok (.iadd, 1) := by decide +kernel
theorem dX4_hasPeace_72 : decode cX4_hasPeace 72 = .ok (.aload_n 0, 1) := by decide +kernel
theorem dX4_hasPeace_73 : decode cX4_hasPeace 73 = .ok (.iload 6, 2) := by decide +kernel
theorem dX4_hasPeace_75 : decode cX4_hasPeace 75 = .ok (.bipush 7, 2) := by decide +kernel
theorem dX4_hasPeace_77 : decode cX4_hasPeace 77 = .ok (.invokevirtual 41, 3) := by decide +kernel
theorem dX4_hasPeace_80 : decode cX4_hasPeace 80 = .ok (.isub, 1) := by decide +kernel
theorem dX4_hasPeace_81 : decode cX4_hasPeace 81 = .ok (.aload_n 0, 1) := by decide +kernel
theorem dX4_hasPeace_82 : decode cX4_hasPeace 82 = .ok (.getfield 7, 3) := by decide +kernel
theorem dX4_hasPeace_85 : decode cX4_hasPeace 85 = .ok (.iconst 3, 1) := by decide +kernel
theorem dX4_hasPeace_86 : decode cX4_hasPeace 86 = .ok (.iaload, 1) := by decide +kernel
theorem dX4_hasPeace_87 : decode cX4_hasPeace 87 = .ok (.if_icmp .gt 7, 3) := by decide +kernel
theorem dX4_hasPeace_90 : decode cX4_hasPeace 90 = .ok (.iconst 1, 1) := by decide +kernel
theorem dX4_hasPeace_91 : decode cX4_hasPeace 91 = .ok (.goto 4, 3) := by decide +kernel
theorem dX4_hasPeace_94 : decode cX4_hasPeace 94 = .ok (.iconst 0, 1) := by decide +kernel
theorem dX4_hasPeace_95 : decode cX4_hasPeace 95 = .ok (.istore 5, 2) := by decide +kernel
theorem dX4_hasPeace_97 : decode cX4_hasPeace 97 = .ok (.iinc 6 1, 3) := by decide +kernel
theorem dX4_hasPeace_100 : decode cX4_hasPeace 100 = .ok (.goto (-94), 3) := by decide +kernel
theorem dX4_hasPeace_103 : decode cX4_hasPeace 103 = .ok (.iload 5, 2) := by decide +kernel
theorem dX4_hasPeace_105 : decode cX4_hasPeace 105 = .ok (.ireturn, 1) := by decide +kernel
theorem dX4_haveSeconds_0 : decode cX4_haveSeconds 0 = .ok (.aload_n 0, 1) := by decide +kernel
theorem dX4_haveSeconds_1 : decode cX4_haveSeconds 1 = .ok (.iload_n 1, 1) := by decide +kernel
theorem dX4_haveSeconds_2 : decode cX4_haveSeconds 2 = .ok (.iconst 2, 1) := by decide +kernel
theorem dX4_haveSeconds_3 : decode cX4_haveSeconds 3 = .ok (.invokevirtual 37, 3) := by decide +kernel
theorem dX4_haveSeconds_6 : decode cX4_haveSeconds 6 = .ok (.istore 4, 2) := by decide +kernel
theorem dX4_haveSeconds_8 : decode cX4_haveSeconds 8 = .ok (.aload_n 0, 1) := by decide +kernel
theorem dX4_haveSeconds_9 : decode cX4_haveSeconds 9 = .ok (.iload_n 2, 1) := by decide +kernel
theorem dX4_haveSeconds_10 : decode cX4_haveSeconds 10 = .ok (.iconst 2, 1) := by decide +kernel
theorem dX4_haveSeconds_11 : decode cX4_haveSeconds 11 = .ok (.invokevirtual 37, 3) := by decide +kernel
theorem dX4_haveSeconds_14 : decode cX4_haveSeconds 14 = .ok (.istore 5, 2) := by decide +kernel
theorem dX4_haveSeconds_16 : decode cX4_haveSeconds 16 = .ok (.iload 4, 2) := by decide +kernel
theorem dX4_haveSeconds_18 : decode cX4_haveSeconds 18 = .ok (.bipush (-6), 2) := by decide +kernel
theorem dX4_haveSeconds_20 : decode cX4_haveSeconds 20 = .ok (.if_icmp .eq 33, 3) := by decide +kernel
theorem dX4_haveSeconds_23 : decode cX4_haveSeconds 23 = .ok (.iload 5, 2) := by decide +kernel
theorem dX4_haveSeconds_25 : decode cX4_haveSeconds 25 = .ok (.bipush (-6), 2) := by decide +kernel
theorem dX4_haveSeconds_27 : decode cX4_haveSeconds 27 = .ok (.if_icmp .eq 26, 3) := by decide +kernel
theorem dX4_haveSeconds_30 : decode cX4_haveSeconds 30 = .ok (.iload 4, 2) := by decide +kernel
theorem dX4_haveSeconds_32 : decode cX4_haveSeconds 32 = .ok (.iload 5, 2) := by decide +kernel
theorem dX4_haveSeconds_34 : decode cX4_haveSeconds 34 = .ok (.if_icmp .eq 19, 3) := by decide +kernel
theorem dX4_haveSeconds_37 : decode cX4_haveSeconds 37 = .ok (.iload 4, 2) := by decide +kernel
theorem dX4_haveSeconds_39 : decode cX4_haveSeconds 39 = .ok (.iload_n 2, 1) := by decide +kernel
theorem dX4_haveSeconds_40 : decode cX4_haveSeconds 40 = .ok (.if_icmp .eq 13, 3) := by decide +kernel
theorem dX4_haveSeconds_43 : decode cX4_haveSeconds 43 = .ok (.iload 5, 2) := by decide +kernel
theorem dX4_haveSeconds_45 : decode cX4_haveSeconds 45 = .ok (.iload_n 1, 1) := by decide +kernel
theorem dX4_haveSeconds_46 : decode cX4_haveSeconds 46 = .ok (.if_icmp .eq 7, 3) := by decide +kernel
theorem dX4_haveSeconds_49 : decode cX4_haveSeconds 49 = .ok (.iconst 1, 1) := by decide +kernel
theorem dX4_haveSeconds_50 : decode cX4_haveSeconds 50 = .ok (.goto 4, 3) := by decide +kernel
theorem dX4_haveSeconds_53 : decode cX4_haveSeconds 53 = .ok (.iconst 0, 1) := by decide +kernel
theorem dX4_haveSeconds_54 : decode cX4_haveSeconds 54 = .ok (.istore 6, 2) := by decide +kernel
theorem dX4_haveSeconds_56 : decode cX4_haveSeconds 56 = .ok (.iload 6, 2) := by decide +kernel
theorem dX4_haveSeconds_58 : decode cX4_haveSeconds 58 = .ok (.ifCond .eq 28, 3) := by decide +kernel
theorem dX4_haveSeconds_61 : decode cX4_haveSeconds 61 = .ok (.aload_n 0, 1) := by decide +kernel
theorem dX4_haveSeconds_62 : decode cX4_haveSeconds 62 = .ok (.iload 4, 2) := by decide +kernel
theorem dX4_haveSeconds_64 : decode cX4_haveSeconds 64 = .ok (.iconst 1, 1) := by decide +kernel
theorem dX4_haveSeconds_65 : decode cX4_haveSeconds 65 = .ok (.invokevirtual 37, 3) := by decide +kernel
theorem dX4_haveSeconds_68 : decode cX4_haveSeconds 68 = .ok (.aload_n 0, 1) := by decide +kernel
theorem dX4_haveSeconds_69 : decode cX4_haveSeconds 69 = .ok (.iload 5, 2) := by decide +kernel
theorem dX4_haveSeconds_71 : decode cX4_haveSeconds 71 = .ok (.iconst 1, 1) := by decide +kernel
theorem dX4_haveSeconds_72 : decode cX4_haveSeconds 72 = .ok (.invokevirtual 37, 3) := by decide +kernel
theorem dX4_haveSeconds_75 : decode cX4_haveSeconds 75 = .ok (.iadd, 1) := by decide +kernel
theorem dX4_haveSeconds_76 : decode cX4_haveSeconds 76 = .ok (.iconst 2, 1) := by decide +kernel
theorem dX4_haveSeconds_77 : decode cX4_haveSeconds 77 = .ok (.iload_n 3, 1) := by decide +kernel
theorem dX4_haveSeconds_78 : decode cX4_haveSeconds 78 = .ok (.imul, 1) := by decide +kernel
theorem dX4_haveSeconds_79 : decode cX4_haveSeconds 79 = .ok (.if_icmp .lt 7, 3) := by decide +kernel
theorem dX4_haveSeconds_82 : decode cX4_haveSeconds 82 = .ok (.iconst 1, 1) := by decide +kernel
theorem dX4_haveSeconds_83 : decode cX4_haveSeconds 83 = .ok (.goto 4, 3) := by decide +kernel
theorem dX4_haveSeconds_86 : decode cX4_haveSeconds 86 = .ok (.iconst 0, 1) := by decide +kernel
theorem dX4_haveSeconds_87 : decode cX4_haveSeconds 87 = .ok (.ireturn, 1) := by decide +kernel
theorem dX4_waysFor_0 : decode cX4_waysFor 0 = .ok (.aload_n 0, 1) := by decide +kernel
theorem dX4_waysFor_1 : decode cX4_waysFor 1 = .ok (.iload_n 1, 1) := by decide +kernel
theorem dX4_waysFor_2 : decode cX4_waysFor 2 = .ok (.iconst 0, 1) := by decide +kernel
theorem dX4_waysFor_3 : decode cX4_waysFor 3 = .ok (.invokevirtual 37, 3) := by decide +kernel
theorem dX4_waysFor_6 : decode cX4_waysFor 6 = .ok (.iload_n 3, 1) := by decide +kernel
theorem dX4_waysFor_7 : decode cX4_waysFor 7 = .ok (.iadd, 1) := by decide +kernel
theorem dX4_waysFor_8 : decode cX4_waysFor 8 = .ok (.bipush 9, 2) := by decide +kernel
theorem dX4_waysFor_10 : decode cX4_waysFor 10 = .ok (.if_icmp .gt 7, 3) := by decide +kernel
theorem dX4_waysFor_13 : decode cX4_waysFor 13 = .ok (.iconst 1, 1) := by decide +kernel
theorem dX4_waysFor_14 : decode cX4_waysFor 14 = .ok (.goto 4, 3) := by decide +kernel
theorem dX4_waysFor_17 : decode cX4_waysFor 17 = .ok (.iconst 0, 1) := by decide +kernel
theorem dX4_waysFor_18 : decode cX4_waysFor 18 = .ok (.istore 7, 2) := by decide +kernel
theorem dX4_waysFor_20 : decode cX4_waysFor 20 = .ok (.iload 7, 2) := by decide +kernel
theorem dX4_waysFor_22 : decode cX4_waysFor 22 = .ok (.aload_n 0, 1) := by decide +kernel
theorem dX4_waysFor_23 : decode cX4_waysFor 23 = .ok (.iload_n 1, 1) := by decide +kernel
theorem dX4_waysFor_24 : decode cX4_waysFor 24 = .ok (.iload_n 2, 1) := by decide +kernel
theorem dX4_waysFor_25 : decode cX4_waysFor 25 = .ok (.iload_n 3, 1) := by decide +kernel
theorem dX4_waysFor_26 : decode cX4_waysFor 26 = .ok (.invokevirtual 47, 3) := by decide +kernel
theorem dX4_waysFor_29 : decode cX4_waysFor 29 = .ok (.ifCond .eq 7, 3) := by decide +kernel
theorem dX4_waysFor_32 : decode cX4_waysFor 32 = .ok (.iconst 2, 1) := by decide +kernel
theorem dX4_waysFor_33 : decode cX4_waysFor 33 = .ok (.goto 4, 3) := by decide +kernel
theorem dX4_waysFor_36 : decode cX4_waysFor 36 = .ok (.iconst 0, 1) := by decide +kernel
theorem dX4_waysFor_37 : decode cX4_waysFor 37 = .ok (.ior, 1) := by decide +kernel
theorem dX4_waysFor_38 : decode cX4_waysFor 38 = .ok (.istore 7, 2) := by decide +kernel
theorem dX4_waysFor_40 : decode cX4_waysFor 40 = .ok (.iload 7, 2) := by decide +kernel
theorem dX4_waysFor_42 : decode cX4_waysFor 42 = .ok (.iload 4, 2) := by decide +kernel
theorem dX4_waysFor_44 : decode cX4_waysFor 44 = .ok (.iload 6, 2) := by decide +kernel
theorem dX4_waysFor_46 : decode cX4_waysFor 46 = .ok (.iadd, 1) := by decide +kernel
theorem dX4_waysFor_47 : decode cX4_waysFor 47 = .ok (.aload_n 0, 1) := by decide +kernel
theorem dX4_waysFor_48 : decode cX4_waysFor 48 = .ok (.getfield 7, 3) := by decide +kernel
theorem dX4_waysFor_51 : decode cX4_waysFor 51 = .ok (.iconst 0, 1) := by decide +kernel
theorem dX4_waysFor_52 : decode cX4_waysFor 52 = .ok (.iaload, 1) := by decide +kernel
theorem dX4_waysFor_53 : decode cX4_waysFor 53 = .ok (.iload_n 3, 1) := by decide +kernel
theorem dX4_waysFor_54 : decode cX4_waysFor 54 = .ok (.imul, 1) := by decide +kernel
theorem dX4_waysFor_55 : decode cX4_waysFor 55 = .ok (.if_icmp .lt 7, 3) := by decide +kernel
theorem dX4_waysFor_58 : decode cX4_waysFor 58 = .ok (.iconst 4, 1) := by decide +kernel
theorem dX4_waysFor_59 : decode cX4_waysFor 59 = .ok (.goto 4, 3) := by decide +kernel
theorem dX4_waysFor_62 : decode cX4_waysFor 62 = .ok (.iconst 0, 1) := by decide +kernel
theorem dX4_waysFor_63 : decode cX4_waysFor 63 = .ok (.ior, 1) := by decide +kernel
theorem dX4_waysFor_64 : decode cX4_waysFor 64 = .ok (.istore 7, 2) := by decide +kernel
theorem dX4_waysFor_66 : decode cX4_waysFor 66 = .ok (.iload 7, 2) := by decide +kernel
theorem dX4_waysFor_68 : decode cX4_waysFor 68 = .ok (.aload_n 0, 1) := by decide +kernel
theorem dX4_waysFor_69 : decode cX4_waysFor 69 = .ok (.iload_n 1, 1) := by decide +kernel
theorem dX4_waysFor_70 : decode cX4_waysFor 70 = .ok (.iload 6, 2) := by decide +kernel
theorem dX4_waysFor_72 : decode cX4_waysFor 72 = .ok (.invokevirtual 50, 3) := by decide +kernel
theorem dX4_waysFor_75 : decode cX4_waysFor 75 = .ok (.ifCond .ne 13, 3) := by decide +kernel
theorem dX4_waysFor_78 : decode cX4_waysFor 78 = .ok (.aload_n 0, 1) := by decide +kernel
theorem dX4_waysFor_79 : decode cX4_waysFor 79 = .ok (.iload_n 2, 1) := by decide +kernel
theorem dX4_waysFor_80 : decode cX4_waysFor 80 = .ok (.iload 6, 2) := by decide +kernel
theorem dX4_waysFor_82 : decode cX4_waysFor 82 = .ok (.invokevirtual 50, 3) := by decide +kernel
theorem dX4_waysFor_85 : decode cX4_waysFor 85 = .ok (.ifCond .eq 8, 3) := by decide +kernel
theorem dX4_waysFor_88 : decode cX4_waysFor 88 = .ok (.bipush 8, 2) := by decide +kernel
theorem dX4_waysFor_90 : decode cX4_waysFor 90 = .ok (.goto 4, 3) := by decide +kernel
theorem dX4_waysFor_93 : decode cX4_waysFor 93 = .ok (.iconst 0, 1) := by decide +kernel
theorem dX4_waysFor_94 : decode cX4_waysFor 94 = .ok (.ior, 1) := by decide +kernel
theorem dX4_waysFor_95 : decode cX4_waysFor 95 = .ok (.istore 7, 2) := by decide +kernel
theorem dX4_waysFor_97 : decode cX4_waysFor 97 = .ok (.iload 7, 2) := by decide +kernel
theorem dX4_waysFor_99 : decode cX4_waysFor 99 = .ok (.aload_n 0, 1) := by decide +kernel
theorem dX4_waysFor_100 : decode cX4_waysFor 100 = .ok (.iload_n 1, 1) := by decide +kernel
theorem dX4_waysFor_101 : decode cX4_waysFor 101 = .ok (.iload_n 2, 1) := by decide +kernel
theorem dX4_waysFor_102 : decode cX4_waysFor 102 = .ok (.iload 5, 2) := by decide +kernel
theorem dX4_waysFor_104 : decode cX4_waysFor 104 = .ok (.iload 6, 2) := by decide +kernel
theorem dX4_waysFor_106 : decode cX4_waysFor 106 = .ok (.invokevirtual 54, 3) := by decide +kernel
theorem dX4_waysFor_109 : decode cX4_waysFor 109 = .ok (.ifCond .eq 8, 3) := by decide +kernel
theorem dX4_waysFor_112 : decode cX4_waysFor 112 = .ok (.bipush 16, 2) := by decide +kernel
theorem dX4_waysFor_114 : decode cX4_waysFor 114 = .ok (.goto 4, 3) := by decide +kernel
theorem dX4_waysFor_117 : decode cX4_waysFor 117 = .ok (.iconst 0, 1) := by decide +kernel
theorem dX4_waysFor_118 : decode cX4_waysFor 118 = .ok (.ior, 1) := by decide +kernel
theorem dX4_waysFor_119 : decode cX4_waysFor 119 = .ok (.istore 7, 2) := by decide +kernel
theorem dX4_waysFor_121 : decode cX4_waysFor 121 = .ok (.iload 7, 2) := by decide +kernel
theorem dX4_waysFor_123 : decode cX4_waysFor 123 = .ok (.aload_n 0, 1) := by decide +kernel
theorem dX4_waysFor_124 : decode cX4_waysFor 124 = .ok (.getfield 7, 3) := by decide +kernel
theorem dX4_waysFor_127 : decode cX4_waysFor 127 = .ok (.bipush 46, 2) := by decide +kernel
theorem dX4_waysFor_129 : decode cX4_waysFor 129 = .ok (.iaload, 1) := by decide +kernel
theorem dX4_waysFor_130 : decode cX4_waysFor 130 = .ok (.iand, 1) := by decide +kernel
theorem dX4_waysFor_131 : decode cX4_waysFor 131 = .ok (.ireturn, 1) := by decide +kernel
theorem dX4_since_0 : decode cX4_since 0 = .ok (.aload_n 0, 1) := by decide +kernel
theorem dX4_since_1 : decode cX4_since 1 = .ok (.getfield 7, 3) := by decide +kernel
theorem dX4_since_4 : decode cX4_since 4 = .ok (.iconst 4, 1) := by decide +kernel
theorem dX4_since_5 : decode cX4_since 5 = .ok (.iaload, 1) := by decide +kernel
theorem dX4_since_6 : decode cX4_since 6 = .ok (.aload_n 0, 1) := by decide +kernel
theorem dX4_since_7 : decode cX4_since 7 = .ok (.iload_n 1, 1) := by decide +kernel
theorem dX4_since_8 : decode cX4_since 8 = .ok (.iconst 3, 1) := by decide +kernel
theorem dX4_since_9 : decode cX4_since 9 = .ok (.invokevirtual 41, 3) := by decide +kernel
theorem dX4_since_12 : decode cX4_since 12 = .ok (.isub, 1) := by decide +kernel
theorem dX4_since_13 : decode cX4_since 13 = .ok (.ireturn, 1) := by decide +kernel
theorem dX4_waysOf_0 : decode cX4_waysOf 0 = .ok (.aload_n 0, 1) := by decide +kernel
theorem dX4_waysOf_1 : decode cX4_waysOf 1 = .ok (.iload_n 1, 1) := by decide +kernel
theorem dX4_waysOf_2 : decode cX4_waysOf 2 = .ok (.iconst 4, 1) := by decide +kernel
theorem dX4_waysOf_3 : decode cX4_waysOf 3 = .ok (.invokevirtual 41, 3) := by decide +kernel
theorem dX4_waysOf_6 : decode cX4_waysOf 6 = .ok (.ifCond .eq 7, 3) := by decide +kernel
theorem dX4_waysOf_9 : decode cX4_waysOf 9 = .ok (.iconst 0, 1) := by decide +kernel
theorem dX4_waysOf_10 : decode cX4_waysOf 10 = .ok (.goto 32, 3) := by decide +kernel
theorem dX4_waysOf_13 : decode cX4_waysOf 13 = .ok (.aload_n 0, 1) := by decide +kernel
theorem dX4_waysOf_14 : decode cX4_waysOf 14 = .ok (.aload_n 0, 1) := by decide +kernel
theorem dX4_waysOf_15 : decode cX4_waysOf 15 = .ok (.iload_n 1, 1) := by decide +kernel
theorem dX4_waysOf_16 : decode cX4_waysOf 16 = .ok (.iconst 0, 1) := by decide +kernel
theorem dX4_waysOf_17 : decode cX4_waysOf 17 = .ok (.invokevirtual 41, 3) := by decide +kernel
theorem dX4_waysOf_20 : decode cX4_waysOf 20 = .ok (.aload_n 0, 1) := by decide +kernel
theorem dX4_waysOf_21 : decode cX4_waysOf 21 = .ok (.iload_n 1, 1) := by decide +kernel
theorem dX4_waysOf_22 : decode cX4_waysOf 22 = .ok (.iconst 1, 1) := by decide +kernel
theorem dX4_waysOf_23 : decode cX4_waysOf 23 = .ok (.invokevirtual 41, 3) := by decide +kernel
theorem dX4_waysOf_26 : decode cX4_waysOf 26 = .ok (.aload_n 0, 1) := by decide +kernel
theorem dX4_waysOf_27 : decode cX4_waysOf 27 = .ok (.iload_n 1, 1) := by decide +kernel
theorem dX4_waysOf_28 : decode cX4_waysOf 28 = .ok (.iconst 2, 1) := by decide +kernel
theorem dX4_waysOf_29 : decode cX4_waysOf 29 = .ok (.invokevirtual 41, 3) := by decide +kernel
theorem dX4_waysOf_32 : decode cX4_waysOf 32 = .ok (.aload_n 0, 1) := by decide +kernel
theorem dX4_waysOf_33 : decode cX4_waysOf 33 = .ok (.iload_n 1, 1) := by decide +kernel
theorem dX4_waysOf_34 : decode cX4_waysOf 34 = .ok (.invokevirtual 58, 3) := by decide +kernel
theorem dX4_waysOf_37 : decode cX4_waysOf 37 = .ok (.iload_n 1, 1) := by decide +kernel
theorem dX4_waysOf_38 : decode cX4_waysOf 38 = .ok (.iload_n 2, 1) := by decide +kernel
theorem dX4_waysOf_39 : decode cX4_waysOf 39 = .ok (.invokevirtual 62, 3) := by decide +kernel
theorem dX4_waysOf_42 : decode cX4_waysOf 42 = .ok (.ireturn, 1) := by decide +kernel
theorem dX4_reason_0 : decode cX4_reason 0 = .ok (.aload_n 0, 1) := by decide +kernel
theorem dX4_reason_1 : decode cX4_reason 1 = .ok (.iload_n 1, 1) := by decide +kernel
theorem dX4_reason_2 : decode cX4_reason 2 = .ok (.iconst 4, 1) := by decide +kernel
theorem dX4_reason_3 : decode cX4_reason 3 = .ok (.invokevirtual 41, 3) := by decide +kernel
theorem dX4_reason_6 : decode cX4_reason 6 = .ok (.ifCond .eq 7, 3) := by decide +kernel
theorem dX4_reason_9 : decode cX4_reason 9 = .ok (.iconst 1, 1) := by decide +kernel
theorem dX4_reason_10 : decode cX4_reason 10 = .ok (.goto 37, 3) := by decide +kernel
theorem dX4_reason_13 : decode cX4_reason 13 = .ok (.aload_n 0, 1) := by decide +kernel
theorem dX4_reason_14 : decode cX4_reason 14 = .ok (.iload_n 1, 1) := by decide +kernel
theorem dX4_reason_15 : decode cX4_reason 15 = .ok (.iload_n 2, 1) := by decide +kernel
theorem dX4_reason_16 : decode cX4_reason 16 = .ok (.invokevirtual 66, 3) := by decide +kernel
theorem dX4_reason_19 : decode cX4_reason 19 = .ok (.ifCond .eq 7, 3) := by decide +kernel
theorem dX4_reason_22 : decode cX4_reason 22 = .ok (.iconst 2, 1) := by decide +kernel
theorem dX4_reason_23 : decode cX4_reason 23 = .ok (.goto 24, 3) := by decide +kernel
theorem dX4_reason_26 : decode cX4_reason 26 = .ok (.aload_n 0, 1) := by decide +kernel
theorem dX4_reason_27 : decode cX4_reason 27 = .ok (.iload_n 1, 1) := by decide +kernel
theorem dX4_reason_28 : decode cX4_reason 28 = .ok (.invokevirtual 58, 3) := by decide +kernel
theorem dX4_reason_31 : decode cX4_reason 31 = .ok (.iload_n 2, 1) := by decide +kernel
theorem dX4_reason_32 : decode cX4_reason 32 = .ok (.iadd, 1) := by decide +kernel
theorem dX4_reason_33 : decode cX4_reason 33 = .ok (.aload_n 0, 1) := by decide +kernel
theorem dX4_reason_34 : decode cX4_reason 34 = .ok (.getfield 7, 3) := by decide +kernel
theorem dX4_reason_37 : decode cX4_reason 37 = .ok (.iconst 1, 1) := by decide +kernel
theorem dX4_reason_38 : decode cX4_reason 38 = .ok (.iaload, 1) := by decide +kernel
theorem dX4_reason_39 : decode cX4_reason 39 = .ok (.if_icmp .ge 7, 3) := by decide +kernel
theorem dX4_reason_42 : decode cX4_reason 42 = .ok (.iconst 3, 1) := by decide +kernel
theorem dX4_reason_43 : decode cX4_reason 43 = .ok (.goto 4, 3) := by decide +kernel
theorem dX4_reason_46 : decode cX4_reason 46 = .ok (.iconst 0, 1) := by decide +kernel
theorem dX4_reason_47 : decode cX4_reason 47 = .ok (.ireturn, 1) := by decide +kernel
theorem dX4_skill_0 : decode cX4_skill 0 = .ok (.iconst 2, 1) := by decide +kernel
theorem dX4_skill_1 : decode cX4_skill 1 = .ok (.aload_n 0, 1) := by decide +kernel
theorem dX4_skill_2 : decode cX4_skill 2 = .ok (.iload_n 1, 1) := by decide +kernel
theorem dX4_skill_3 : decode cX4_skill 3 = .ok (.iconst 1, 1) := by decide +kernel
theorem dX4_skill_4 : decode cX4_skill 4 = .ok (.invokevirtual 37, 3) := by decide +kernel
theorem dX4_skill_7 : decode cX4_skill 7 = .ok (.imul, 1) := by decide +kernel
theorem dX4_skill_8 : decode cX4_skill 8 = .ok (.aload_n 0, 1) := by decide +kernel
theorem dX4_skill_9 : decode cX4_skill 9 = .ok (.iload_n 1, 1) := by decide +kernel
theorem dX4_skill_10 : decode cX4_skill 10 = .ok (.iconst 0, 1) := by decide +kernel
theorem dX4_skill_11 : decode cX4_skill 11 = .ok (.invokevirtual 37, 3) := by decide +kernel
theorem dX4_skill_14 : decode cX4_skill 14 = .ok (.iadd, 1) := by decide +kernel
theorem dX4_skill_15 : decode cX4_skill 15 = .ok (.ireturn, 1) := by decide +kernel
theorem dX4_winnerOf_0 : decode cX4_winnerOf 0 = .ok (.aload_n 0, 1) := by decide +kernel
theorem dX4_winnerOf_1 : decode cX4_winnerOf 1 = .ok (.iload_n 1, 1) := by decide +kernel
theorem dX4_winnerOf_2 : decode cX4_winnerOf 2 = .ok (.iconst 0, 1) := by decide +kernel
theorem dX4_winnerOf_3 : decode cX4_winnerOf 3 = .ok (.invokevirtual 41, 3) := by decide +kernel
theorem dX4_winnerOf_6 : decode cX4_winnerOf 6 = .ok (.istore_n 2, 1) := by decide +kernel
theorem dX4_winnerOf_7 : decode cX4_winnerOf 7 = .ok (.aload_n 0, 1) := by decide +kernel
theorem dX4_winnerOf_8 : decode cX4_winnerOf 8 = .ok (.iload_n 1, 1) := by decide +kernel
theorem dX4_winnerOf_9 : decode cX4_winnerOf 9 = .ok (.iconst 1, 1) := by decide +kernel
theorem dX4_winnerOf_10 : decode cX4_winnerOf 10 = .ok (.invokevirtual 41, 3) := by decide +kernel
theorem dX4_winnerOf_13 : decode cX4_winnerOf 13 = .ok (.istore_n 3, 1) := by decide +kernel
theorem dX4_winnerOf_14 : decode cX4_winnerOf 14 = .ok (.aload_n 0, 1) := by decide +kernel
theorem dX4_winnerOf_15 : decode cX4_winnerOf 15 = .ok (.iload_n 2, 1) := by decide +kernel
theorem dX4_winnerOf_16 : decode cX4_winnerOf 16 = .ok (.invokevirtual 69, 3) := by decide +kernel
theorem dX4_winnerOf_19 : decode cX4_winnerOf 19 = .ok (.aload_n 0, 1) := by decide +kernel
theorem dX4_winnerOf_20 : decode cX4_winnerOf 20 = .ok (.iload_n 3, 1) := by decide +kernel
theorem dX4_winnerOf_21 : decode cX4_winnerOf 21 = .ok (.invokevirtual 69, 3) := by decide +kernel
theorem dX4_winnerOf_24 : decode cX4_winnerOf 24 = .ok (.if_icmp .le 7, 3) := by decide +kernel
theorem dX4_winnerOf_27 : decode cX4_winnerOf 27 = .ok (.iload_n 2, 1) := by decide +kernel
theorem dX4_winnerOf_28 : decode cX4_winnerOf 28 = .ok (.goto 4, 3) := by decide +kernel
theorem dX4_winnerOf_31 : decode cX4_winnerOf 31 = .ok (.iload_n 3, 1) := by decide +kernel
theorem dX4_winnerOf_32 : decode cX4_winnerOf 32 = .ok (.ireturn, 1) := by decide +kernel
theorem dX4_tell_0 : decode cX4_tell 0 = .ok (.aload_n 0, 1) := by decide +kernel
theorem dX4_tell_1 : decode cX4_tell 1 = .ok (.getfield 7, 3) := by decide +kernel
theorem dX4_tell_4 : decode cX4_tell 4 = .ok (.sipush 144, 3) := by decide +kernel
theorem dX4_tell_7 : decode cX4_tell 7 = .ok (.dup2, 1) := by decide +kernel
theorem dX4_tell_8 : decode cX4_tell 8 = .ok (.iaload, 1) := by decide +kernel
theorem dX4_tell_9 : decode cX4_tell 9 = .ok (.aload_n 0, 1) := by decide +kernel
theorem dX4_tell_10 : decode cX4_tell 10 = .ok (.getfield 7, 3) := by decide +kernel
theorem dX4_tell_13 : decode cX4_tell 13 = .ok (.sipush 144, 3) := by decide +kernel
theorem dX4_tell_16 : decode cX4_tell 16 = .ok (.iaload, 1) := by decide +kernel
theorem dX4_tell_17 : decode cX4_tell 17 = .ok (.bipush 12, 2) := by decide +kernel
theorem dX4_tell_19 : decode cX4_tell 19 = .ok (.if_icmp .ge 7, 3) := by decide +kernel
theorem dX4_tell_22 : decode cX4_tell 22 = .ok (.iconst 1, 1) := by decide +kernel
theorem dX4_tell_23 : decode cX4_tell 23 = .ok (.goto 4, 3) := by decide +kernel
theorem dX4_tell_26 : decode cX4_tell 26 = .ok (.iconst 0, 1) := by decide +kernel
theorem dX4_tell_27 : decode cX4_tell 27 = .ok (.iadd, 1) := by decide +kernel
theorem dX4_tell_28 : decode cX4_tell 28 = .ok (.iastore, 1) := by decide +kernel
theorem dX4_tell_29 : decode cX4_tell 29 = .ok (.sipush 180, 3) := by decide +kernel
theorem dX4_tell_32 : decode cX4_tell 32 = .ok (.istore_n 3, 1) := by decide +kernel
theorem dX4_tell_33 : decode cX4_tell 33 = .ok (.iload_n 3, 1) := by decide +kernel
theorem dX4_tell_34 : decode cX4_tell 34 = .ok (.sipush 148, 3) := by decide +kernel
theorem dX4_tell_37 : decode cX4_tell 37 = .ok (.if_icmp .lt 23, 3) := by decide +kernel
theorem dX4_tell_40 : decode cX4_tell 40 = .ok (.aload_n 0, 1) := by decide +kernel
theorem dX4_tell_41 : decode cX4_tell 41 = .ok (.getfield 7, 3) := by decide +kernel
theorem dX4_tell_44 : decode cX4_tell 44 = .ok (.iload_n 3, 1) := by decide +kernel
theorem dX4_tell_45 : decode cX4_tell 45 = .ok (.aload_n 0, 1) := by decide +kernel
theorem dX4_tell_46 : decode cX4_tell 46 = .ok (.getfield 7, 3) := by decide +kernel
theorem dX4_tell_49 : decode cX4_tell 49 = .ok (.iload_n 3, 1) := by decide +kernel
theorem dX4_tell_50 : decode cX4_tell 50 = .ok (.iconst 3, 1) := by decide +kernel
theorem dX4_tell_51 : decode cX4_tell 51 = .ok (.isub, 1) := by decide +kernel
theorem dX4_tell_52 : decode cX4_tell 52 = .ok (.iaload, 1) := by decide +kernel
theorem dX4_tell_53 : decode cX4_tell 53 = .ok (.iastore, 1) := by decide +kernel
theorem dX4_tell_54 : decode cX4_tell 54 = .ok (.iinc 3 (-1), 3) := by decide +kernel
theorem dX4_tell_57 : decode cX4_tell 57 = .ok (.goto (-24), 3) := by decide +kernel
theorem dX4_tell_60 : decode cX4_tell 60 = .ok (.aload_n 0, 1) := by decide +kernel
theorem dX4_tell_61 : decode cX4_tell 61 = .ok (.getfield 7, 3) := by decide +kernel
theorem dX4_tell_64 : decode cX4_tell 64 = .ok (.sipush 145, 3) := by decide +kernel
theorem dX4_tell_67 : decode cX4_tell 67 = .ok (.iload_n 1, 1) := by decide +kernel
theorem dX4_tell_68 : decode cX4_tell 68 = .ok (.iastore, 1) := by decide +kernel
theorem dX4_tell_69 : decode cX4_tell 69 = .ok (.aload_n 0, 1) := by decide +kernel
theorem dX4_tell_70 : decode cX4_tell 70 = .ok (.getfield 7, 3) := by decide +kernel
theorem dX4_tell_73 : decode cX4_tell 73 = .ok (.sipush 146, 3) := by decide +kernel
theorem dX4_tell_76 : decode cX4_tell 76 = .ok (.aload_n 0, 1) := by decide +kernel
theorem dX4_tell_77 : decode cX4_tell 77 = .ok (.getfield 7, 3) := by decide +kernel
theorem dX4_tell_80 : decode cX4_tell 80 = .ok (.iconst 4, 1) := by decide +kernel
theorem dX4_tell_81 : decode cX4_tell 81 = .ok (.iaload, 1) := by decide +kernel
theorem dX4_tell_82 : decode cX4_tell 82 = .ok (.iastore, 1) := by decide +kernel
theorem dX4_tell_83 : decode cX4_tell 83 = .ok (.aload_n 0, 1) := by decide +kernel
theorem dX4_tell_84 : decode cX4_tell 84 = .ok (.getfield 7, 3) := by decide +kernel
theorem dX4_tell_87 : decode cX4_tell 87 = .ok (.sipush 147, 3) := by decide +kernel
theorem dX4_tell_90 : decode cX4_tell 90 = .ok (.iload_n 2, 1) := by decide +kernel
theorem dX4_tell_91 : decode cX4_tell 91 = .ok (.iastore, 1) := by decide +kernel
theorem dX4_tell_92 : decode cX4_tell 92 = .ok (.return_, 1) := by decide +kernel
theorem dX4_change_0 : decode cX4_change 0 = .ok (.aload_n 0, 1) := by decide +kernel
theorem dX4_change_1 : decode cX4_change 1 = .ok (.iload_n 1, 1) := by decide +kernel
theorem dX4_change_2 : decode cX4_change 2 = .ok (.iload_n 2, 1) := by decide +kernel
theorem dX4_change_3 : decode cX4_change 3 = .ok (.invokevirtual 37, 3) := by decide +kernel
theorem dX4_change_6 : decode cX4_change 6 = .ok (.iload_n 3, 1) := by decide +kernel
theorem dX4_change_7 : decode cX4_change 7 = .ok (.iadd, 1) := by decide +kernel
theorem dX4_change_8 : decode cX4_change 8 = .ok (.istore 4, 2) := by decide +kernel
theorem dX4_change_10 : decode cX4_change 10 = .ok (.aload_n 0, 1) := by decide +kernel
theorem dX4_change_11 : decode cX4_change 11 = .ok (.getfield 7, 3) := by decide +kernel
theorem dX4_change_14 : decode cX4_change 14 = .ok (.bipush 6, 2) := by decide +kernel
theorem dX4_change_16 : decode cX4_change 16 = .ok (.iconst 4, 1) := by decide +kernel
theorem dX4_change_17 : decode cX4_change 17 = .ok (.iload_n 1, 1) := by decide +kernel
theorem dX4_change_18 : decode cX4_change 18 = .ok (.imul, 1) := by decide +kernel
theorem dX4_change_19 : decode cX4_change 19 = .ok (.iadd, 1) := by decide +kernel
theorem dX4_change_20 : decode cX4_change 20 = .ok (.iload_n 2, 1) := by decide +kernel
theorem dX4_change_21 : decode cX4_change 21 = .ok (.iadd, 1) := by decide +kernel
theorem dX4_change_22 : decode cX4_change 22 = .ok (.iload 4, 2) := by decide +kernel
theorem dX4_change_24 : decode cX4_change 24 = .ok (.ifCond .ge 7, 3) := by decide +kernel
theorem dX4_change_27 : decode cX4_change 27 = .ok (.iconst 0, 1) := by decide +kernel
theorem dX4_change_28 : decode cX4_change 28 = .ok (.goto 17, 3) := by decide +kernel
theorem dX4_change_31 : decode cX4_change 31 = .ok (.iload 4, 2) := by decide +kernel
theorem dX4_change_33 : decode cX4_change 33 = .ok (.bipush 9, 2) := by decide +kernel
theorem dX4_change_35 : decode cX4_change 35 = .ok (.if_icmp .le 8, 3) := by decide +kernel
theorem dX4_change_38 : decode cX4_change 38 = .ok (.bipush 9, 2) := by decide +kernel
theorem dX4_change_40 : decode cX4_change 40 = .ok (.goto 5, 3) := by decide +kernel
theorem dX4_change_43 : decode cX4_change 43 = .ok (.iload 4, 2) := by decide +kernel
theorem dX4_change_45 : decode cX4_change 45 = .ok (.iastore, 1) := by decide +kernel
theorem dX4_change_46 : decode cX4_change 46 = .ok (.return_, 1) := by decide +kernel
theorem dX4_oath_0 : decode cX4_oath 0 = .ok (.aload_n 0, 1) := by decide +kernel
theorem dX4_oath_1 : decode cX4_oath 1 = .ok (.getfield 7, 3) := by decide +kernel
theorem dX4_oath_4 : decode cX4_oath 4 = .ok (.iconst 4, 1) := by decide +kernel
theorem dX4_oath_5 : decode cX4_oath 5 = .ok (.iaload, 1) := by decide +kernel
theorem dX4_oath_6 : decode cX4_oath 6 = .ok (.aload_n 0, 1) := by decide +kernel
theorem dX4_oath_7 : decode cX4_oath 7 = .ok (.getfield 7, 3) := by decide +kernel
theorem dX4_oath_10 : decode cX4_oath 10 = .ok (.iconst 2, 1) := by decide +kernel
theorem dX4_oath_11 : decode cX4_oath 11 = .ok (.iaload, 1) := by decide +kernel
theorem dX4_oath_12 : decode cX4_oath 12 = .ok (.iadd, 1) := by decide +kernel
theorem dX4_oath_13 : decode cX4_oath 13 = .ok (.istore_n 2, 1) := by decide +kernel
theorem dX4_oath_14 : decode cX4_oath 14 = .ok (.aload_n 0, 1) := by decide +kernel
theorem dX4_oath_15 : decode cX4_oath 15 = .ok (.getfield 7, 3) := by decide +kernel
theorem dX4_oath_18 : decode cX4_oath 18 = .ok (.bipush 6, 2) := by decide +kernel
theorem dX4_oath_20 : decode cX4_oath 20 = .ok (.iconst 4, 1) := by decide +kernel
theorem dX4_oath_21 : decode cX4_oath 21 = .ok (.iload_n 1, 1) := by decide +kernel
theorem dX4_oath_22 : decode cX4_oath 22 = .ok (.imul, 1) := by decide +kernel
theorem dX4_oath_23 : decode cX4_oath 23 = .ok (.iadd, 1) := by decide +kernel
theorem dX4_oath_24 : decode cX4_oath 24 = .ok (.iconst 3, 1) := by decide +kernel
theorem dX4_oath_25 : decode cX4_oath 25 = .ok (.iadd, 1) := by decide +kernel
theorem dX4_oath_26 : decode cX4_oath 26 = .ok (.iload_n 2, 1) := by decide +kernel
theorem dX4_oath_27 : decode cX4_oath 27 = .ok (.aload_n 0, 1) := by decide +kernel
theorem dX4_oath_28 : decode cX4_oath 28 = .ok (.iload_n 1, 1) := by decide +kernel
theorem dX4_oath_29 : decode cX4_oath 29 = .ok (.iconst 3, 1) := by decide +kernel
theorem dX4_oath_30 : decode cX4_oath 30 = .ok (.invokevirtual 37, 3) := by decide +kernel
theorem dX4_oath_33 : decode cX4_oath 33 = .ok (.if_icmp .le 7, 3) := by decide +kernel
theorem dX4_oath_36 : decode cX4_oath 36 = .ok (.iload_n 2, 1) := by decide +kernel
theorem dX4_oath_37 : decode cX4_oath 37 = .ok (.goto 9, 3) := by decide +kernel
theorem dX4_oath_40 : decode cX4_oath 40 = .ok (.aload_n 0, 1) := by decide +kernel
theorem dX4_oath_41 : decode cX4_oath 41 = .ok (.iload_n 1, 1) := by decide +kernel
theorem dX4_oath_42 : decode cX4_oath 42 = .ok (.iconst 3, 1) := by decide +kernel
theorem dX4_oath_43 : decode cX4_oath 43 = .ok (.invokevirtual 37, 3) := by decide +kernel
theorem dX4_oath_46 : decode cX4_oath 46 = .ok (.iastore, 1) := by decide +kernel
theorem dX4_oath_47 : decode cX4_oath 47 = .ok (.return_, 1) := by decide +kernel
theorem dX4_quarrelsThat_0 : decode cX4_quarrelsThat 0 = .ok (.iconst 0, 1) := by decide +kernel
theorem dX4_quarrelsThat_1 : decode cX4_quarrelsThat 1 = .ok (.istore_n 2, 1) := by decide +kernel
theorem dX4_quarrelsThat_2 : decode cX4_quarrelsThat 2 = .ok (.iconst 0, 1) := by decide +kernel
theorem dX4_quarrelsThat_3 : decode cX4_quarrelsThat 3 = .ok (.istore_n 3, 1) := by decide +kernel
theorem dX4_quarrelsThat_4 : decode cX4_quarrelsThat 4 = .ok (.iload_n 3, 1) := by decide +kernel
theorem dX4_quarrelsThat_5 : decode cX4_quarrelsThat 5 = .ok (.aload_n 0, 1) := by decide +kernel
theorem dX4_quarrelsThat_6 : decode cX4_quarrelsThat 6 = .ok (.getfield 7, 3) := by decide +kernel
theorem dX4_quarrelsThat_9 : decode cX4_quarrelsThat 9 = .ok (.bipush 47, 2) := by decide +kernel
theorem dX4_quarrelsThat_11 : decode cX4_quarrelsThat 11 = .ok (.iaload, 1) := by decide +kernel
theorem dX4_quarrelsThat_12 : decode cX4_quarrelsThat 12 = .ok (.if_icmp .ge 29, 3) := by decide +kernel
theorem dX4_quarrelsThat_15 : decode cX4_quarrelsThat 15 = .ok (.iload_n 2, 1) := by decide +kernel
theorem dX4_quarrelsThat_16 : decode cX4_quarrelsThat 16 = .ok (.aload_n 0, 1) := by decide +kernel
theorem dX4_quarrelsThat_17 : decode cX4_quarrelsThat 17 = .ok (.iload_n 3, 1) := by decide +kernel
theorem dX4_quarrelsThat_18 : decode cX4_quarrelsThat 18 = .ok (.iconst 4, 1) := by decide +kernel
theorem dX4_quarrelsThat_19 : decode cX4_quarrelsThat 19 = .ok (.invokevirtual 41, 3) := by decide +kernel
theorem dX4_quarrelsThat_22 : decode cX4_quarrelsThat 22 = .ok (.iload_n 1, 1) := by decide +kernel
theorem dX4_quarrelsThat_23 : decode cX4_quarrelsThat 23 = .ok (.if_icmp .ne 9, 3) := by decide +kernel
theorem dX4_quarrelsThat_26 : decode cX4_quarrelsThat 26 = .ok (.iconst 1, 1) := by decide +kernel
theorem dX4_quarrelsThat_27 : decode cX4_quarrelsThat 27 = .ok (.iload_n 3, 1) := by decide +kernel
theorem dX4_quarrelsThat_28 : decode cX4_quarrelsThat 28 = .ok (.ishl, 1) := by decide +kernel
theorem dX4_quarrelsThat_29 : decode cX4_quarrelsThat 29 = .ok (.goto 4, 3) := by decide +kernel
theorem dX4_quarrelsThat_32 : decode cX4_quarrelsThat 32 = .ok (.iconst 0, 1) := by decide +kernel
theorem dX4_quarrelsThat_33 : decode cX4_quarrelsThat 33 = .ok (.ior, 1) := by decide +kernel
theorem dX4_quarrelsThat_34 : decode cX4_quarrelsThat 34 = .ok (.istore_n 2, 1) := by decide +kernel
theorem dX4_quarrelsThat_35 : decode cX4_quarrelsThat 35 = .ok (.iinc 3 1, 3) := by decide +kernel
theorem dX4_quarrelsThat_38 : decode cX4_quarrelsThat 38 = .ok (.goto (-34), 3) := by decide +kernel
theorem dX4_quarrelsThat_41 : decode cX4_quarrelsThat 41 = .ok (.iload_n 2, 1) := by decide +kernel
theorem dX4_quarrelsThat_42 : decode cX4_quarrelsThat 42 = .ok (.ireturn, 1) := by decide +kernel
theorem dX4_size_0 : decode cX4_size 0 = .ok (.iconst 0, 1) := by decide +kernel
theorem dX4_size_1 : decode cX4_size 1 = .ok (.istore_n 1, 1) := by decide +kernel
theorem dX4_size_2 : decode cX4_size 2 = .ok (.iconst 0, 1) := by decide +kernel
theorem dX4_size_3 : decode cX4_size 3 = .ok (.istore_n 2, 1) := by decide +kernel
theorem dX4_size_4 : decode cX4_size 4 = .ok (.iload_n 2, 1) := by decide +kernel
theorem dX4_size_5 : decode cX4_size 5 = .ok (.bipush 16, 2) := by decide +kernel
theorem dX4_size_7 : decode cX4_size 7 = .ok (.if_icmp .ge 17, 3) := by decide +kernel
theorem dX4_size_10 : decode cX4_size 10 = .ok (.iload_n 1, 1) := by decide +kernel
theorem dX4_size_11 : decode cX4_size 11 = .ok (.iload_n 0, 1) := by decide +kernel
theorem dX4_size_12 : decode cX4_size 12 = .ok (.iload_n 2, 1) := by decide +kernel
theorem dX4_size_13 : decode cX4_size 13 = .ok (.ishr, 1) := by decide +kernel
theorem dX4_size_14 : decode cX4_size 14 = .ok (.iconst 1, 1) := by decide +kernel
theorem dX4_size_15 : decode cX4_size 15 = .ok (.iand, 1) := by decide +kernel
theorem dX4_size_16 : decode cX4_size 16 = .ok (.iadd, 1) := by decide +kernel
theorem dX4_size_17 : decode cX4_size 17 = .ok (.istore_n 1, 1) := by decide +kernel
theorem dX4_size_18 : decode cX4_size 18 = .ok (.iinc 2 1, 3) := by decide +kernel
theorem dX4_size_21 : decode cX4_size 21 = .ok (.goto (-17), 3) := by decide +kernel
theorem dX4_size_24 : decode cX4_size 24 = .ok (.iload_n 1, 1) := by decide +kernel
theorem dX4_size_25 : decode cX4_size 25 = .ok (.ireturn, 1) := by decide +kernel
theorem dX4_due_0 : decode cX4_due 0 = .ok (.iconst 0, 1) := by decide +kernel
theorem dX4_due_1 : decode cX4_due 1 = .ok (.istore_n 1, 1) := by decide +kernel
theorem dX4_due_2 : decode cX4_due 2 = .ok (.iconst 0, 1) := by decide +kernel
theorem dX4_due_3 : decode cX4_due 3 = .ok (.istore_n 2, 1) := by decide +kernel
theorem dX4_due_4 : decode cX4_due 4 = .ok (.iload_n 2, 1) := by decide +kernel
theorem dX4_due_5 : decode cX4_due 5 = .ok (.aload_n 0, 1) := by decide +kernel
theorem dX4_due_6 : decode cX4_due 6 = .ok (.getfield 7, 3) := by decide +kernel
theorem dX4_due_9 : decode cX4_due 9 = .ok (.bipush 47, 2) := by decide +kernel
theorem dX4_due_11 : decode cX4_due 11 = .ok (.iaload, 1) := by decide +kernel
theorem dX4_due_12 : decode cX4_due 12 = .ok (.if_icmp .ge 28, 3) := by decide +kernel
theorem dX4_due_15 : decode cX4_due 15 = .ok (.iload_n 1, 1) := by decide +kernel
theorem dX4_due_16 : decode cX4_due 16 = .ok (.aload_n 0, 1) := by decide +kernel
theorem dX4_due_17 : decode cX4_due 17 = .ok (.iload_n 2, 1) := by decide +kernel
theorem dX4_due_18 : decode cX4_due 18 = .ok (.iconst 0, 1) := by decide +kernel
theorem dX4_due_19 : decode cX4_due 19 = .ok (.invokevirtual 72, 3) := by decide +kernel
theorem dX4_due_22 : decode cX4_due 22 = .ok (.ifCond .ne 9, 3) := by decide +kernel
theorem dX4_due_25 : decode cX4_due 25 = .ok (.iconst 1, 1) := by decide +kernel
theorem dX4_due_26 : decode cX4_due 26 = .ok (.iload_n 2, 1) := by decide +kernel
theorem dX4_due_27 : decode cX4_due 27 = .ok (.ishl, 1) := by decide +kernel
theorem dX4_due_28 : decode cX4_due 28 = .ok (.goto 4, 3) := by decide +kernel
theorem dX4_due_31 : decode cX4_due 31 = .ok (.iconst 0, 1) := by decide +kernel
theorem dX4_due_32 : decode cX4_due 32 = .ok (.ior, 1) := by decide +kernel
theorem dX4_due_33 : decode cX4_due 33 = .ok (.istore_n 1, 1) := by decide +kernel
theorem dX4_due_34 : decode cX4_due 34 = .ok (.iinc 2 1, 3) := by decide +kernel
theorem dX4_due_37 : decode cX4_due 37 = .ok (.goto (-33), 3) := by decide +kernel
theorem dX4_due_40 : decode cX4_due 40 = .ok (.iload_n 1, 1) := by decide +kernel
theorem dX4_due_41 : decode cX4_due 41 = .ok (.ireturn, 1) := by decide +kernel
theorem dX4_comes_0 : decode cX4_comes 0 = .ok (.iload_n 1, 1) := by decide +kernel
theorem dX4_comes_1 : decode cX4_comes 1 = .ok (.iconst 0, 1) := by decide +kernel
theorem dX4_comes_2 : decode cX4_comes 2 = .ok (.bipush 9, 2) := by decide +kernel
theorem dX4_comes_4 : decode cX4_comes 4 = .ok (.invokestatic 33, 3) := by decide +kernel
theorem dX4_comes_7 : decode cX4_comes 7 = .ok (.ifCond .eq 13, 3) := by decide +kernel
theorem dX4_comes_10 : decode cX4_comes 10 = .ok (.iload_n 2, 1) := by decide +kernel
theorem dX4_comes_11 : decode cX4_comes 11 = .ok (.iconst 0, 1) := by decide +kernel
theorem dX4_comes_12 : decode cX4_comes 12 = .ok (.bipush 9, 2) := by decide +kernel
theorem dX4_comes_14 : decode cX4_comes 14 = .ok (.invokestatic 33, 3) := by decide +kernel
theorem dX4_comes_17 : decode cX4_comes 17 = .ok (.ifCond .ne 6, 3) := by decide +kernel
theorem dX4_comes_20 : decode cX4_comes 20 = .ok (.bipush (-2), 2) := by decide +kernel
theorem dX4_comes_22 : decode cX4_comes 22 = .ok (.ireturn, 1) := by decide +kernel
theorem dX4_comes_23 : decode cX4_comes 23 = .ok (.aload_n 0, 1) := by decide +kernel
theorem dX4_comes_24 : decode cX4_comes 24 = .ok (.getfield 7, 3) := by decide +kernel
theorem dX4_comes_27 : decode cX4_comes 27 = .ok (.iconst 5, 1) := by decide +kernel
theorem dX4_comes_28 : decode cX4_comes 28 = .ok (.iaload, 1) := by decide +kernel
theorem dX4_comes_29 : decode cX4_comes 29 = .ok (.bipush 10, 2) := by decide +kernel
theorem dX4_comes_31 : decode cX4_comes 31 = .ok (.if_icmp .ne 6, 3) := by decide +kernel
theorem dX4_comes_34 : decode cX4_comes 34 = .ok (.bipush (-4), 2) := by decide +kernel
theorem dX4_comes_36 : decode cX4_comes 36 = .ok (.ireturn, 1) := by decide +kernel
theorem dX4_comes_37 : decode cX4_comes 37 = .ok (.bipush 6, 2) := by decide +kernel
theorem dX4_comes_39 : decode cX4_comes 39 = .ok (.iconst 4, 1) := by decide +kernel
theorem dX4_comes_40 : decode cX4_comes 40 = .ok (.aload_n 0, 1) := by decide +kernel
theorem dX4_comes_41 : decode cX4_comes 41 = .ok (.getfield 7, 3) := by decide +kernel
theorem dX4_comes_44 : decode cX4_comes 44 = .ok (.iconst 5, 1) := by decide +kernel
theorem dX4_comes_45 : decode cX4_comes 45 = .ok (.iaload, 1) := by decide +kernel
theorem dX4_comes_46 : decode cX4_comes 46 = .ok (.imul, 1) := by decide +kernel
theorem dX4_comes_47 : decode cX4_comes 47 = .ok (.iadd, 1) := by decide +kernel
theorem dX4_comes_48 : decode cX4_comes 48 = .ok (.istore_n 3, 1) := by decide +kernel
theorem dX4_comes_49 : decode cX4_comes 49 = .ok (.aload_n 0, 1) := by decide +kernel
theorem dX4_comes_50 : decode cX4_comes 50 = .ok (.getfield 7, 3) := by decide +kernel
theorem dX4_comes_53 : decode cX4_comes 53 = .ok (.iload_n 3, 1) := by decide +kernel
theorem dX4_comes_54 : decode cX4_comes 54 = .ok (.iload_n 1, 1) := by decide +kernel
theorem dX4_comes_55 : decode cX4_comes 55 = .ok (.iastore, 1) := by decide +kernel
theorem dX4_comes_56 : decode cX4_comes 56 = .ok (.aload_n 0, 1) := by decide +kernel
theorem dX4_comes_57 : decode cX4_comes 57 = .ok (.getfield 7, 3) := by decide +kernel
theorem dX4_comes_60 : decode cX4_comes 60 = .ok (.iload_n 3, 1) := by decide +kernel
theorem dX4_comes_61 : decode cX4_comes 61 = .ok (.iconst 1, 1) := by decide +kernel
theorem dX4_comes_62 : decode cX4_comes 62 = .ok (.iadd, 1) := by decide +kernel
theorem dX4_comes_63 : decode cX4_comes 63 = .ok (.iload_n 2, 1) := by decide +kernel
theorem dX4_comes_64 : decode cX4_comes 64 = .ok (.iastore, 1) := by decide +kernel
theorem dX4_comes_65 : decode cX4_comes 65 = .ok (.aload_n 0, 1) := by decide +kernel
theorem dX4_comes_66 : decode cX4_comes 66 = .ok (.getfield 7, 3) := by decide +kernel
theorem dX4_comes_69 : decode cX4_comes 69 = .ok (.iload_n 3, 1) := by decide +kernel
theorem dX4_comes_70 : decode cX4_comes 70 = .ok (.iconst 2, 1) := by decide +kernel
theorem dX4_comes_71 : decode cX4_comes 71 = .ok (.iadd, 1) := by decide +kernel
theorem dX4_comes_72 : decode cX4_comes 72 = .ok (.bipush (-6), 2) := by decide +kernel
theorem dX4_comes_74 : decode cX4_comes 74 = .ok (.iastore, 1) := by decide +kernel
theorem dX4_comes_75 : decode cX4_comes 75 = .ok (.aload_n 0, 1) := by decide +kernel
theorem dX4_comes_76 : decode cX4_comes 76 = .ok (.getfield 7, 3) := by decide +kernel
theorem dX4_comes_79 : decode cX4_comes 79 = .ok (.iload_n 3, 1) := by decide +kernel
theorem dX4_comes_80 : decode cX4_comes 80 = .ok (.iconst 3, 1) := by decide +kernel
theorem dX4_comes_81 : decode cX4_comes 81 = .ok (.iadd, 1) := by decide +kernel
theorem dX4_comes_82 : decode cX4_comes 82 = .ok (.iconst 0, 1) := by decide +kernel
theorem dX4_comes_83 : decode cX4_comes 83 = .ok (.iastore, 1) := by decide +kernel
theorem dX4_comes_84 : decode cX4_comes 84 = .ok (.aload_n 0, 1) := by decide +kernel
theorem dX4_comes_85 : decode cX4_comes 85 = .ok (.getfield 7, 3) := by decide +kernel
theorem dX4_comes_88 : decode cX4_comes 88 = .ok (.iconst 5, 1) := by decide +kernel
theorem dX4_comes_89 : decode cX4_comes 89 = .ok (.dup2, 1) := by decide +kernel
theorem dX4_comes_90 : decode cX4_comes 90 = .ok (.iaload, 1) := by decide +kernel
theorem dX4_comes_91 : decode cX4_comes 91 = .ok (.iconst 1, 1) := by decide +kernel
theorem dX4_comes_92 : decode cX4_comes 92 = .ok (.iadd, 1) := by decide +kernel
theorem dX4_comes_93 : decode cX4_comes 93 = .ok (.iastore, 1) := by decide +kernel
theorem dX4_comes_94 : decode cX4_comes 94 = .ok (.aload_n 0, 1) := by decide +kernel
theorem dX4_comes_95 : decode cX4_comes 95 = .ok (.getfield 7, 3) := by decide +kernel
theorem dX4_comes_98 : decode cX4_comes 98 = .ok (.iconst 5, 1) := by decide +kernel
theorem dX4_comes_99 : decode cX4_comes 99 = .ok (.iaload, 1) := by decide +kernel
theorem dX4_comes_100 : decode cX4_comes 100 = .ok (.iconst 1, 1) := by decide +kernel
theorem dX4_comes_101 : decode cX4_comes 101 = .ok (.isub, 1) := by decide +kernel
theorem dX4_comes_102 : decode cX4_comes 102 = .ok (.ireturn, 1) := by decide +kernel
theorem dX4_takes_0 : decode cX4_takes 0 = .ok (.aload_n 0, 1) := by decide +kernel
theorem dX4_takes_1 : decode cX4_takes 1 = .ok (.iload_n 1, 1) := by decide +kernel
theorem dX4_takes_2 : decode cX4_takes 2 = .ok (.invokevirtual 75, 3) := by decide +kernel
theorem dX4_takes_5 : decode cX4_takes 5 = .ok (.ifCond .eq 11, 3) := by decide +kernel
theorem dX4_takes_8 : decode cX4_takes 8 = .ok (.aload_n 0, 1) := by decide +kernel
theorem dX4_takes_9 : decode cX4_takes 9 = .ok (.iload_n 2, 1) := by decide +kernel
theorem dX4_takes_10 : decode cX4_takes 10 = .ok (.invokevirtual 75, 3) := by decide +kernel
theorem dX4_takes_13 : decode cX4_takes 13 = .ok (.ifCond .ne 5, 3) := by decide +kernel
theorem dX4_takes_16 : decode cX4_takes 16 = .ok (.iconst (-1), 1) := by decide +kernel
theorem dX4_takes_17 : decode cX4_takes 17 = .ok (.ireturn, 1) := by decide +kernel
theorem dX4_takes_18 : decode cX4_takes 18 = .ok (.iload_n 1, 1) := by decide +kernel
theorem dX4_takes_19 : decode cX4_takes 19 = .ok (.iload_n 2, 1) := by decide +kernel
theorem dX4_takes_20 : decode cX4_takes 20 = .ok (.if_icmp .ne 6, 3) := by decide +kernel
theorem dX4_takes_23 : decode cX4_takes 23 = .ok (.bipush (-2), 2) := by decide +kernel
theorem dX4_takes_25 : decode cX4_takes 25 = .ok (.ireturn, 1) := by decide +kernel
theorem dX4_takes_26 : decode cX4_takes 26 = .ok (.aload_n 0, 1) := by decide +kernel
theorem dX4_takes_27 : decode cX4_takes 27 = .ok (.iload_n 1, 1) := by decide +kernel
theorem dX4_takes_28 : decode cX4_takes 28 = .ok (.iconst 2, 1) := by decide +kernel
theorem dX4_takes_29 : decode cX4_takes 29 = .ok (.invokevirtual 37, 3) := by decide +kernel
theorem dX4_takes_32 : decode cX4_takes 32 = .ok (.istore_n 3, 1) := by decide +kernel
theorem dX4_takes_33 : decode cX4_takes 33 = .ok (.aload_n 0, 1) := by decide +kernel
theorem dX4_takes_34 : decode cX4_takes 34 = .ok (.getfield 7, 3) := by decide +kernel
theorem dX4_takes_37 : decode cX4_takes 37 = .ok (.bipush 6, 2) := by decide +kernel
theorem dX4_takes_39 : decode cX4_takes 39 = .ok (.iconst 4, 1) := by decide +kernel
theorem dX4_takes_40 : decode cX4_takes 40 = .ok (.iload_n 1, 1) := by decide +kernel
theorem dX4_takes_41 : decode cX4_takes 41 = .ok (.imul, 1) := by decide +kernel
theorem dX4_takes_42 : decode cX4_takes 42 = .ok (.iadd, 1) := by decide +kernel
theorem dX4_takes_43 : decode cX4_takes 43 = .ok (.iconst 2, 1) := by decide +kernel
theorem dX4_takes_44 : decode cX4_takes 44 = .ok (.iadd, 1) := by decide +kernel
theorem dX4_takes_45 : decode cX4_takes 45 = .ok (.iload_n 2, 1) := by decide +kernel
theorem dX4_takes_46 : decode cX4_takes 46 = .ok (.iastore, 1) := by decide +kernel
theorem dX4_takes_47 : decode cX4_takes 47 = .ok (.iload_n 3, 1) := by decide +kernel
theorem dX4_takes_48 : decode cX4_takes 48 = .ok (.ireturn, 1) := by decide +kernel
theorem dX4_turns_0 : decode cX4_turns 0 = .ok (.iload_n 1, 1) := by decide +kernel
theorem dX4_turns_1 : decode cX4_turns 1 = .ok (.iconst 0, 1) := by decide +kernel
theorem dX4_turns_2 : decode cX4_turns 2 = .ok (.iconst 4, 1) := by decide +kernel
theorem dX4_turns_3 : decode cX4_turns 3 = .ok (.invokestatic 33, 3) := by decide +kernel
theorem dX4_turns_6 : decode cX4_turns 6 = .ok (.ifCond .ne 5, 3) := by decide +kernel
theorem dX4_turns_9 : decode cX4_turns 9 = .ok (.iconst (-1), 1) := by decide +kernel
theorem dX4_turns_10 : decode cX4_turns 10 = .ok (.ireturn, 1) := by decide +kernel
theorem dX4_turns_11 : decode cX4_turns 11 = .ok (.aload_n 0, 1) := by decide +kernel
theorem dX4_turns_12 : decode cX4_turns 12 = .ok (.getfield 7, 3) := by decide +kernel
theorem dX4_turns_15 : decode cX4_turns 15 = .ok (.bipush 46, 2) := by decide +kernel
theorem dX4_turns_17 : decode cX4_turns 17 = .ok (.dup2, 1) := by decide +kernel
theorem dX4_turns_18 : decode cX4_turns 18 = .ok (.iaload, 1) := by decide +kernel
theorem dX4_turns_19 : decode cX4_turns 19 = .ok (.iconst 1, 1) := by decide +kernel
theorem dX4_turns_20 : decode cX4_turns 20 = .ok (.iload_n 1, 1) := by decide +kernel
theorem dX4_turns_21 : decode cX4_turns 21 = .ok (.ishl, 1) := by decide +kernel
theorem dX4_turns_22 : decode cX4_turns 22 = .ok (.ixor, 1) := by decide +kernel
theorem dX4_turns_23 : decode cX4_turns 23 = .ok (.iastore, 1) := by decide +kernel
theorem dX4_turns_24 : decode cX4_turns 24 = .ok (.aload_n 0, 1) := by decide +kernel
theorem dX4_turns_25 : decode cX4_turns 25 = .ok (.getfield 7, 3) := by decide +kernel
theorem dX4_turns_28 : decode cX4_turns 28 = .ok (.bipush 46, 2) := by decide +kernel
theorem dX4_turns_30 : decode cX4_turns 30 = .ok (.iaload, 1) := by decide +kernel
theorem dX4_turns_31 : decode cX4_turns 31 = .ok (.ireturn, 1) := by decide +kernel
theorem dX4_offends_0 : decode cX4_offends 0 = .ok (.aload_n 0, 1) := by decide +kernel
theorem dX4_offends_1 : decode cX4_offends 1 = .ok (.iload_n 1, 1) := by decide +kernel
theorem dX4_offends_2 : decode cX4_offends 2 = .ok (.invokevirtual 75, 3) := by decide +kernel
theorem dX4_offends_5 : decode cX4_offends 5 = .ok (.ifCond .eq 11, 3) := by decide +kernel
theorem dX4_offends_8 : decode cX4_offends 8 = .ok (.aload_n 0, 1) := by decide +kernel
theorem dX4_offends_9 : decode cX4_offends 9 = .ok (.iload_n 2, 1) := by decide +kernel
theorem dX4_offends_10 : decode cX4_offends 10 = .ok (.invokevirtual 75, 3) := by decide +kernel
theorem dX4_offends_13 : decode cX4_offends 13 = .ok (.ifCond .ne 5, 3) := by decide +kernel
theorem dX4_offends_16 : decode cX4_offends 16 = .ok (.iconst (-1), 1) := by decide +kernel
theorem dX4_offends_17 : decode cX4_offends 17 = .ok (.ireturn, 1) := by decide +kernel
theorem dX4_offends_18 : decode cX4_offends 18 = .ok (.iload_n 1, 1) := by decide +kernel
theorem dX4_offends_19 : decode cX4_offends 19 = .ok (.iload_n 2, 1) := by decide +kernel
theorem dX4_offends_20 : decode cX4_offends 20 = .ok (.if_icmp .eq 13, 3) := by decide +kernel
theorem dX4_offends_23 : decode cX4_offends 23 = .ok (.iload_n 3, 1) := by decide +kernel
theorem dX4_offends_24 : decode cX4_offends 24 = .ok (.iconst 1, 1) := by decide +kernel
theorem dX4_offends_25 : decode cX4_offends 25 = .ok (.bipush 9, 2) := by decide +kernel
theorem dX4_offends_27 : decode cX4_offends 27 = .ok (.invokestatic 33, 3) := by decide +kernel
theorem dX4_offends_30 : decode cX4_offends 30 = .ok (.ifCond .ne 6, 3) := by decide +kernel
theorem dX4_offends_33 : decode cX4_offends 33 = .ok (.bipush (-2), 2) := by decide +kernel
theorem dX4_offends_35 : decode cX4_offends 35 = .ok (.ireturn, 1) := by decide +kernel
theorem dX4_offends_36 : decode cX4_offends 36 = .ok (.iconst 0, 1) := by decide +kernel
theorem dX4_offends_37 : decode cX4_offends 37 = .ok (.istore 4, 2) := by decide +kernel
theorem dX4_offends_39 : decode cX4_offends 39 = .ok (.iload 4, 2) := by decide +kernel
theorem dX4_offends_41 : decode cX4_offends 41 = .ok (.aload_n 0, 1) := by decide +kernel
theorem dX4_offends_42 : decode cX4_offends 42 = .ok (.getfield 7, 3) := by decide +kernel
theorem dX4_offends_45 : decode cX4_offends 45 = .ok (.bipush 47, 2) := by decide +kernel
theorem dX4_offends_47 : decode cX4_offends 47 = .ok (.iaload, 1) := by decide +kernel
theorem dX4_offends_48 : decode cX4_offends 48 = .ok (.if_icmp .ge 33, 3) := by decide +kernel
theorem dX4_offends_51 : decode cX4_offends 51 = .ok (.aload_n 0, 1) := by decide +kernel
theorem dX4_offends_52 : decode cX4_offends 52 = .ok (.iload 4, 2) := by decide +kernel
theorem dX4_offends_54 : decode cX4_offends 54 = .ok (.iload_n 1, 1) := by decide +kernel
theorem dX4_offends_55 : decode cX4_offends 55 = .ok (.iload_n 2, 1) := by decide +kernel
theorem dX4_offends_56 : decode cX4_offends 56 = .ok (.invokevirtual 44, 3) := by decide +kernel
theorem dX4_offends_59 : decode cX4_offends 59 = .ok (.ifCond .eq 16, 3) := by decide +kernel
theorem dX4_offends_62 : decode cX4_offends 62 = .ok (.aload_n 0, 1) := by decide +kernel
theorem dX4_offends_63 : decode cX4_offends 63 = .ok (.iload 4, 2) := by decide +kernel
theorem dX4_offends_65 : decode cX4_offends 65 = .ok (.iconst 4, 1) := by decide +kernel
theorem dX4_offends_66 : decode cX4_offends 66 = .ok (.invokevirtual 41, 3) := by decide +kernel
theorem dX4_offends_69 : decode cX4_offends 69 = .ok (.ifCond .ne 6, 3) := by decide +kernel
theorem dX4_offends_72 : decode cX4_offends 72 = .ok (.bipush (-5), 2) := by decide +kernel
theorem dX4_offends_74 : decode cX4_offends 74 = .ok (.ireturn, 1) := by decide +kernel
theorem dX4_offends_75 : decode cX4_offends 75 = .ok (.iinc 4 1, 3) := by decide +kernel
theorem dX4_offends_78 : decode cX4_offends 78 = .ok (.goto (-39), 3) := by decide +kernel
theorem dX4_offends_81 : decode cX4_offends 81 = .ok (.aload_n 0, 1) := by decide +kernel
theorem dX4_offends_82 : decode cX4_offends 82 = .ok (.getfield 7, 3) := by decide +kernel
theorem dX4_offends_85 : decode cX4_offends 85 = .ok (.bipush 47, 2) := by decide +kernel
theorem dX4_offends_87 : decode cX4_offends 87 = .ok (.iaload, 1) := by decide +kernel
theorem dX4_offends_88 : decode cX4_offends 88 = .ok (.bipush 12, 2) := by decide +kernel
theorem dX4_offends_90 : decode cX4_offends 90 = .ok (.if_icmp .ne 6, 3) := by decide +kernel
theorem dX4_offends_93 : decode cX4_offends 93 = .ok (.bipush (-4), 2) := by decide +kernel
theorem dX4_offends_95 : decode cX4_offends 95 = .ok (.ireturn, 1) := by decide +kernel
theorem dX4_offends_96 : decode cX4_offends 96 = .ok (.bipush 48, 2) := by decide +kernel
theorem dX4_offends_98 : decode cX4_offends 98 = .ok (.bipush 8, 2) := by decide +kernel
theorem dX4_offends_100 : decode cX4_offends 100 = .ok (.aload_n 0, 1) := by decide +kernel
theorem dX4_offends_101 : decode cX4_offends 101 = .ok (.getfield 7, 3) := by decide +kernel
theorem dX4_offends_104 : decode cX4_offends 104 = .ok (.bipush 47, 2) := by decide +kernel
theorem dX4_offends_106 : decode cX4_offends 106 = .ok (.iaload, 1) := by decide +kernel
theorem dX4_offends_107 : decode cX4_offends 107 = .ok (.imul, 1) := by decide +kernel
theorem dX4_offends_108 : decode cX4_offends 108 = .ok (.iadd, 1) := by decide +kernel
theorem dX4_offends_109 : decode cX4_offends 109 = .ok (.istore 4, 2) := by decide +kernel
theorem dX4_offends_111 : decode cX4_offends 111 = .ok (.aload_n 0, 1) := by decide +kernel
theorem dX4_offends_112 : decode cX4_offends 112 = .ok (.getfield 7, 3) := by decide +kernel
theorem dX4_offends_115 : decode cX4_offends 115 = .ok (.iload 4, 2) := by decide +kernel
theorem dX4_offends_117 : decode cX4_offends 117 = .ok (.iload_n 1, 1) := by decide +kernel
theorem dX4_offends_118 : decode cX4_offends 118 = .ok (.iastore, 1) := by decide +kernel
theorem dX4_offends_119 : decode cX4_offends 119 = .ok (.aload_n 0, 1) := by decide +kernel
theorem dX4_offends_120 : decode cX4_offends 120 = .ok (.getfield 7, 3) := by decide +kernel
theorem dX4_offends_123 : decode cX4_offends 123 = .ok (.iload 4, 2) := by decide +kernel
theorem dX4_offends_125 : decode cX4_offends 125 = .ok (.iconst 1, 1) := by decide +kernel
theorem dX4_offends_126 : decode cX4_offends 126 = .ok (.iadd, 1) := by decide +kernel
theorem dX4_offends_127 : decode cX4_offends 127 = .ok (.iload_n 2, 1) := by decide +kernel
theorem dX4_offends_128 : decode cX4_offends 128 = .ok (.iastore, 1) := by decide +kernel
theorem dX4_offends_129 : decode cX4_offends 129 = .ok (.aload_n 0, 1) := by decide +kernel
theorem dX4_offends_130 : decode cX4_offends 130 = .ok (.getfield 7, 3) := by decide +kernel
theorem dX4_offends_133 : decode cX4_offends 133 = .ok (.iload 4, 2) := by decide +kernel
theorem dX4_offends_135 : decode cX4_offends 135 = .ok (.iconst 2, 1) := by decide +kernel
theorem dX4_offends_136 : decode cX4_offends 136 = .ok (.iadd, 1) := by decide +kernel
theorem dX4_offends_137 : decode cX4_offends 137 = .ok (.iload_n 3, 1) := by decide +kernel
theorem dX4_offends_138 : decode cX4_offends 138 = .ok (.iastore, 1) := by decide +kernel
theorem dX4_offends_139 : decode cX4_offends 139 = .ok (.aload_n 0, 1) := by decide +kernel
theorem dX4_offends_140 : decode cX4_offends 140 = .ok (.getfield 7, 3) := by decide +kernel
theorem dX4_offends_143 : decode cX4_offends 143 = .ok (.iload 4, 2) := by decide +kernel
theorem dX4_offends_145 : decode cX4_offends 145 = .ok (.iconst 3, 1) := by decide +kernel
theorem dX4_offends_146 : decode cX4_offends 146 = .ok (.iadd, 1) := by decide +kernel
theorem dX4_offends_147 : decode cX4_offends 147 = .ok (.aload_n 0, 1) := by decide +kernel
theorem dX4_offends_148 : decode cX4_offends 148 = .ok (.getfield 7, 3) := by decide +kernel
theorem dX4_offends_151 : decode cX4_offends 151 = .ok (.iconst 4, 1) := by decide +kernel
theorem dX4_offends_152 : decode cX4_offends 152 = .ok (.iaload, 1) := by decide +kernel
theorem dX4_offends_153 : decode cX4_offends 153 = .ok (.iastore, 1) := by decide +kernel
theorem dX4_offends_154 : decode cX4_offends 154 = .ok (.aload_n 0, 1) := by decide +kernel
theorem dX4_offends_155 : decode cX4_offends 155 = .ok (.getfield 7, 3) := by decide +kernel
theorem dX4_offends_158 : decode cX4_offends 158 = .ok (.iload 4, 2) := by decide +kernel
theorem dX4_offends_160 : decode cX4_offends 160 = .ok (.iconst 4, 1) := by decide +kernel
theorem dX4_offends_161 : decode cX4_offends 161 = .ok (.iadd, 1) := by decide +kernel
theorem dX4_offends_162 : decode cX4_offends 162 = .ok (.iconst 0, 1) := by decide +kernel
theorem dX4_offends_163 : decode cX4_offends 163 = .ok (.iastore, 1) := by decide +kernel
theorem dX4_offends_164 : decode cX4_offends 164 = .ok (.aload_n 0, 1) := by decide +kernel
theorem dX4_offends_165 : decode cX4_offends 165 = .ok (.getfield 7, 3) := by decide +kernel
theorem dX4_offends_168 : decode cX4_offends 168 = .ok (.iload 4, 2) := by decide +kernel
theorem dX4_offends_170 : decode cX4_offends 170 = .ok (.iconst 5, 1) := by decide +kernel
theorem dX4_offends_171 : decode cX4_offends 171 = .ok (.iadd, 1) := by decide +kernel
theorem dX4_offends_172 : decode cX4_offends 172 = .ok (.bipush (-6), 2) := by decide +kernel
theorem dX4_offends_174 : decode cX4_offends 174 = .ok (.iastore, 1) := by decide +kernel
theorem dX4_offends_175 : decode cX4_offends 175 = .ok (.aload_n 0, 1) := by decide +kernel
theorem dX4_offends_176 : decode cX4_offends 176 = .ok (.getfield 7, 3) := by decide +kernel
theorem dX4_offends_179 : decode cX4_offends 179 = .ok (.iload 4, 2) := by decide +kernel
theorem dX4_offends_181 : decode cX4_offends 181 = .ok (.bipush 6, 2) := by decide +kernel
theorem dX4_offends_183 : decode cX4_offends 183 = .ok (.iadd, 1) := by decide +kernel
theorem dX4_offends_184 : decode cX4_offends 184 = .ok (.bipush (-6), 2) := by decide +kernel
theorem dX4_offends_186 : decode cX4_offends 186 = .ok (.iastore, 1) := by decide +kernel
theorem dX4_offends_187 : decode cX4_offends 187 = .ok (.aload_n 0, 1) := by decide +kernel
theorem dX4_offends_188 : decode cX4_offends 188 = .ok (.getfield 7, 3) := by decide +kernel
theorem dX4_offends_191 : decode cX4_offends 191 = .ok (.iload 4, 2) := by decide +kernel
theorem dX4_offends_193 : decode cX4_offends 193 = .ok (.bipush 7, 2) := by decide +kernel
theorem dX4_offends_195 : decode cX4_offends 195 = .ok (.iadd, 1) := by decide +kernel
theorem dX4_offends_196 : decode cX4_offends 196 = .ok (.iconst 0, 1) := by decide +kernel
theorem dX4_offends_197 : decode cX4_offends 197 = .ok (.iastore, 1) := by decide +kernel
theorem dX4_offends_198 : decode cX4_offends 198 = .ok (.aload_n 0, 1) := by decide +kernel
theorem dX4_offends_199 : decode cX4_offends 199 = .ok (.getfield 7, 3) := by decide +kernel
theorem dX4_offends_202 : decode cX4_offends 202 = .ok (.bipush 47, 2) := by decide +kernel
theorem dX4_offends_204 : decode cX4_offends 204 = .ok (.dup2, 1) := by decide +kernel
theorem dX4_offends_205 : decode cX4_offends 205 = .ok (.iaload, 1) := by decide +kernel
theorem dX4_offends_206 : decode cX4_offends 206 = .ok (.iconst 1, 1) := by decide +kernel
theorem dX4_offends_207 : decode cX4_offends 207 = .ok (.iadd, 1) := by decide +kernel
theorem dX4_offends_208 : decode cX4_offends 208 = .ok (.iastore, 1) := by decide +kernel
theorem dX4_offends_209 : decode cX4_offends 209 = .ok (.aload_n 0, 1) := by decide +kernel
theorem dX4_offends_210 : decode cX4_offends 210 = .ok (.iconst 0, 1) := by decide +kernel
theorem dX4_offends_211 : decode cX4_offends 211 = .ok (.aload_n 0, 1) := by decide +kernel
theorem dX4_offends_212 : decode cX4_offends 212 = .ok (.getfield 7, 3) := by decide +kernel
theorem dX4_offends_215 : decode cX4_offends 215 = .ok (.bipush 47, 2) := by decide +kernel
theorem dX4_offends_217 : decode cX4_offends 217 = .ok (.iaload, 1) := by decide +kernel
theorem dX4_offends_218 : decode cX4_offends 218 = .ok (.iconst 1, 1) := by decide +kernel
theorem dX4_offends_219 : decode cX4_offends 219 = .ok (.isub, 1) := by decide +kernel
theorem dX4_offends_220 : decode cX4_offends 220 = .ok (.invokevirtual 79, 3) := by decide +kernel
theorem dX4_offends_223 : decode cX4_offends 223 = .ok (.aload_n 0, 1) := by decide +kernel
theorem dX4_offends_224 : decode cX4_offends 224 = .ok (.getfield 7, 3) := by decide +kernel
theorem dX4_offends_227 : decode cX4_offends 227 = .ok (.bipush 47, 2) := by decide +kernel
theorem dX4_offends_229 : decode cX4_offends 229 = .ok (.iaload, 1) := by decide +kernel
theorem dX4_offends_230 : decode cX4_offends 230 = .ok (.iconst 1, 1) := by decide +kernel
theorem dX4_offends_231 : decode cX4_offends 231 = .ok (.isub, 1) := by decide +kernel
theorem dX4_offends_232 : decode cX4_offends 232 = .ok (.ireturn, 1) := by decide +kernel
theorem dX4_settles_0 : decode cX4_settles 0 = .ok (.aload_n 0, 1) := by decide +kernel
theorem dX4_settles_1 : decode cX4_settles 1 = .ok (.iload_n 1, 1) := by decide +kernel
theorem dX4_settles_2 : decode cX4_settles 2 = .ok (.invokevirtual 83, 3) := by decide +kernel
theorem dX4_settles_5 : decode cX4_settles 5 = .ok (.ifCond .eq 12, 3) := by decide +kernel
theorem dX4_settles_8 : decode cX4_settles 8 = .ok (.iload_n 2, 1) := by decide +kernel
theorem dX4_settles_9 : decode cX4_settles 9 = .ok (.iconst 0, 1) := by decide +kernel
theorem dX4_settles_10 : decode cX4_settles 10 = .ok (.iconst 4, 1) := by decide +kernel
theorem dX4_settles_11 : decode cX4_settles 11 = .ok (.invokestatic 33, 3) := by decide +kernel
theorem dX4_settles_14 : decode cX4_settles 14 = .ok (.ifCond .ne 5, 3) := by decide +kernel
theorem dX4_settles_17 : decode cX4_settles 17 = .ok (.iconst (-1), 1) := by decide +kernel
theorem dX4_settles_18 : decode cX4_settles 18 = .ok (.ireturn, 1) := by decide +kernel
theorem dX4_settles_19 : decode cX4_settles 19 = .ok (.aload_n 0, 1) := by decide +kernel
theorem dX4_settles_20 : decode cX4_settles 20 = .ok (.iload_n 1, 1) := by decide +kernel
theorem dX4_settles_21 : decode cX4_settles 21 = .ok (.iconst 0, 1) := by decide +kernel
theorem dX4_settles_22 : decode cX4_settles 22 = .ok (.invokevirtual 66, 3) := by decide +kernel
theorem dX4_settles_25 : decode cX4_settles 25 = .ok (.iload_n 2, 1) := by decide +kernel
theorem dX4_settles_26 : decode cX4_settles 26 = .ok (.ishr, 1) := by decide +kernel
theorem dX4_settles_27 : decode cX4_settles 27 = .ok (.iconst 1, 1) := by decide +kernel
theorem dX4_settles_28 : decode cX4_settles 28 = .ok (.iand, 1) := by decide +kernel
theorem dX4_settles_29 : decode cX4_settles 29 = .ok (.ifCond .ne 6, 3) := by decide +kernel
theorem dX4_settles_32 : decode cX4_settles 32 = .ok (.bipush (-5), 2) := by decide +kernel
theorem dX4_settles_34 : decode cX4_settles 34 = .ok (.ireturn, 1) := by decide +kernel
theorem dX4_settles_35 : decode cX4_settles 35 = .ok (.bipush 48, 2) := by decide +kernel
theorem dX4_settles_37 : decode cX4_settles 37 = .ok (.bipush 8, 2) := by decide +kernel
theorem dX4_settles_39 : decode cX4_settles 39 = .ok (.iload_n 1, 1) := by decide +kernel
theorem dX4_settles_40 : decode cX4_settles 40 = .ok (.imul, 1) := by decide +kernel
theorem dX4_settles_41 : decode cX4_settles 41 = .ok (.iadd, 1) := by decide +kernel
theorem dX4_settles_42 : decode cX4_settles 42 = .ok (.istore_n 3, 1) := by decide +kernel
theorem dX4_settles_43 : decode cX4_settles 43 = .ok (.aload_n 0, 1) := by decide +kernel
theorem dX4_settles_44 : decode cX4_settles 44 = .ok (.getfield 7, 3) := by decide +kernel
theorem dX4_settles_47 : decode cX4_settles 47 = .ok (.iload_n 3, 1) := by decide +kernel
theorem dX4_settles_48 : decode cX4_settles 48 = .ok (.iconst 4, 1) := by decide +kernel
theorem dX4_settles_49 : decode cX4_settles 49 = .ok (.iadd, 1) := by decide +kernel
theorem dX4_settles_50 : decode cX4_settles 50 = .ok (.iconst 1, 1) := by decide +kernel
theorem dX4_settles_51 : decode cX4_settles 51 = .ok (.iastore, 1) := by decide +kernel
theorem dX4_settles_52 : decode cX4_settles 52 = .ok (.aload_n 0, 1) := by decide +kernel
theorem dX4_settles_53 : decode cX4_settles 53 = .ok (.getfield 7, 3) := by decide +kernel
theorem dX4_settles_56 : decode cX4_settles 56 = .ok (.iload_n 3, 1) := by decide +kernel
theorem dX4_settles_57 : decode cX4_settles 57 = .ok (.iconst 5, 1) := by decide +kernel
theorem dX4_settles_58 : decode cX4_settles 58 = .ok (.iadd, 1) := by decide +kernel
theorem dX4_settles_59 : decode cX4_settles 59 = .ok (.iload_n 2, 1) := by decide +kernel
theorem dX4_settles_60 : decode cX4_settles 60 = .ok (.iastore, 1) := by decide +kernel
theorem dX4_settles_61 : decode cX4_settles 61 = .ok (.aload_n 0, 1) := by decide +kernel
theorem dX4_settles_62 : decode cX4_settles 62 = .ok (.getfield 7, 3) := by decide +kernel
theorem dX4_settles_65 : decode cX4_settles 65 = .ok (.iload_n 3, 1) := by decide +kernel
theorem dX4_settles_66 : decode cX4_settles 66 = .ok (.bipush 7, 2) := by decide +kernel
theorem dX4_settles_68 : decode cX4_settles 68 = .ok (.iadd, 1) := by decide +kernel
theorem dX4_settles_69 : decode cX4_settles 69 = .ok (.aload_n 0, 1) := by decide +kernel
theorem dX4_settles_70 : decode cX4_settles 70 = .ok (.getfield 7, 3) := by decide +kernel
theorem dX4_settles_73 : decode cX4_settles 73 = .ok (.iconst 4, 1) := by decide +kernel
theorem dX4_settles_74 : decode cX4_settles 74 = .ok (.iaload, 1) := by decide +kernel
theorem dX4_settles_75 : decode cX4_settles 75 = .ok (.iastore, 1) := by decide +kernel
theorem dX4_settles_76 : decode cX4_settles 76 = .ok (.iload_n 2, 1) := by decide +kernel
theorem dX4_settles_77 : decode cX4_settles 77 = .ok (.ifCond .ne 15, 3) := by decide +kernel
theorem dX4_settles_80 : decode cX4_settles 80 = .ok (.aload_n 0, 1) := by decide +kernel
theorem dX4_settles_81 : decode cX4_settles 81 = .ok (.aload_n 0, 1) := by decide +kernel
theorem dX4_settles_82 : decode cX4_settles 82 = .ok (.getfield 7, 3) := by decide +kernel
theorem dX4_settles_85 : decode cX4_settles 85 = .ok (.iload_n 3, 1) := by decide +kernel
theorem dX4_settles_86 : decode cX4_settles 86 = .ok (.iaload, 1) := by decide +kernel
theorem dX4_settles_87 : decode cX4_settles 87 = .ok (.iconst 0, 1) := by decide +kernel
theorem dX4_settles_88 : decode cX4_settles 88 = .ok (.iconst (-1), 1) := by decide +kernel
theorem dX4_settles_89 : decode cX4_settles 89 = .ok (.invokevirtual 86, 3) := by decide +kernel
theorem dX4_settles_92 : decode cX4_settles 92 = .ok (.iload_n 2, 1) := by decide +kernel
theorem dX4_settles_93 : decode cX4_settles 93 = .ok (.iconst 1, 1) := by decide +kernel
theorem dX4_settles_94 : decode cX4_settles 94 = .ok (.if_icmp .ne 39, 3) := by decide +kernel
theorem dX4_settles_97 : decode cX4_settles 97 = .ok (.aload_n 0, 1) := by decide +kernel
theorem dX4_settles_98 : decode cX4_settles 98 = .ok (.aload_n 0, 1) := by decide +kernel
theorem dX4_settles_99 : decode cX4_settles 99 = .ok (.aload_n 0, 1) := by decide +kernel
theorem dX4_settles_100 : decode cX4_settles 100 = .ok (.getfield 7, 3) := by decide +kernel
theorem dX4_settles_103 : decode cX4_settles 103 = .ok (.iload_n 3, 1) := by decide +kernel
theorem dX4_settles_104 : decode cX4_settles 104 = .ok (.iaload, 1) := by decide +kernel
theorem dX4_settles_105 : decode cX4_settles 105 = .ok (.iconst 2, 1) := by decide +kernel
theorem dX4_settles_106 : decode cX4_settles 106 = .ok (.invokevirtual 37, 3) := by decide +kernel
theorem dX4_settles_109 : decode cX4_settles 109 = .ok (.iconst 1, 1) := by decide +kernel
theorem dX4_settles_110 : decode cX4_settles 110 = .ok (.iconst 1, 1) := by decide +kernel
theorem dX4_settles_111 : decode cX4_settles 111 = .ok (.invokevirtual 86, 3) := by decide +kernel
theorem dX4_settles_114 : decode cX4_settles 114 = .ok (.aload_n 0, 1) := by decide +kernel
theorem dX4_settles_115 : decode cX4_settles 115 = .ok (.aload_n 0, 1) := by decide +kernel
theorem dX4_settles_116 : decode cX4_settles 116 = .ok (.aload_n 0, 1) := by decide +kernel
theorem dX4_settles_117 : decode cX4_settles 117 = .ok (.getfield 7, 3) := by decide +kernel
theorem dX4_settles_120 : decode cX4_settles 120 = .ok (.iload_n 3, 1) := by decide +kernel
theorem dX4_settles_121 : decode cX4_settles 121 = .ok (.iconst 1, 1) := by decide +kernel
theorem dX4_settles_122 : decode cX4_settles 122 = .ok (.iadd, 1) := by decide +kernel
theorem dX4_settles_123 : decode cX4_settles 123 = .ok (.iaload, 1) := by decide +kernel
theorem dX4_settles_124 : decode cX4_settles 124 = .ok (.iconst 2, 1) := by decide +kernel
theorem dX4_settles_125 : decode cX4_settles 125 = .ok (.invokevirtual 37, 3) := by decide +kernel
theorem dX4_settles_128 : decode cX4_settles 128 = .ok (.iconst 1, 1) := by decide +kernel
theorem dX4_settles_129 : decode cX4_settles 129 = .ok (.iconst 1, 1) := by decide +kernel
theorem dX4_settles_130 : decode cX4_settles 130 = .ok (.invokevirtual 86, 3) := by decide +kernel
theorem dX4_settles_133 : decode cX4_settles 133 = .ok (.aload_n 0, 1) := by decide +kernel
theorem dX4_settles_134 : decode cX4_settles 134 = .ok (.iconst 1, 1) := by decide +kernel
theorem dX4_settles_135 : decode cX4_settles 135 = .ok (.iload_n 1, 1) := by decide +kernel
theorem dX4_settles_136 : decode cX4_settles 136 = .ok (.invokevirtual 79, 3) := by decide +kernel
theorem dX4_settles_139 : decode cX4_settles 139 = .ok (.aload_n 0, 1) := by decide +kernel
theorem dX4_settles_140 : decode cX4_settles 140 = .ok (.iconst 0, 1) := by decide +kernel
theorem dX4_settles_141 : decode cX4_settles 141 = .ok (.invokevirtual 90, 3) := by decide +kernel
theorem dX4_settles_144 : decode cX4_settles 144 = .ok (.invokestatic 93, 3) := by decide +kernel
theorem dX4_settles_147 : decode cX4_settles 147 = .ok (.ireturn, 1) := by decide +kernel
theorem dX4_fights_0 : decode cX4_fights 0 = .ok (.aload_n 0, 1) := by decide +kernel
theorem dX4_fights_1 : decode cX4_fights 1 = .ok (.iload_n 1, 1) := by decide +kernel
theorem dX4_fights_2 : decode cX4_fights 2 = .ok (.invokevirtual 83, 3) := by decide +kernel
theorem dX4_fights_5 : decode cX4_fights 5 = .ok (.ifCond .ne 5, 3) := by decide +kernel
theorem dX4_fights_8 : decode cX4_fights 8 = .ok (.iconst (-1), 1) := by decide +kernel
theorem dX4_fights_9 : decode cX4_fights 9 = .ok (.ireturn, 1) := by decide +kernel
theorem dX4_fights_10 : decode cX4_fights 10 = .ok (.aload_n 0, 1) := by decide +kernel
theorem dX4_fights_11 : decode cX4_fights 11 = .ok (.iload_n 1, 1) := by decide +kernel
theorem dX4_fights_12 : decode cX4_fights 12 = .ok (.iconst 0, 1) := by decide +kernel
theorem dX4_fights_13 : decode cX4_fights 13 = .ok (.invokevirtual 72, 3) := by decide +kernel
theorem dX4_fights_16 : decode cX4_fights 16 = .ok (.ifCond .eq 6, 3) := by decide +kernel
theorem dX4_fights_19 : decode cX4_fights 19 = .ok (.bipush (-5), 2) := by decide +kernel
theorem dX4_fights_21 : decode cX4_fights 21 = .ok (.ireturn, 1) := by decide +kernel
theorem dX4_fights_22 : decode cX4_fights 22 = .ok (.bipush 48, 2) := by decide +kernel
theorem dX4_fights_24 : decode cX4_fights 24 = .ok (.bipush 8, 2) := by decide +kernel
theorem dX4_fights_26 : decode cX4_fights 26 = .ok (.iload_n 1, 1) := by decide +kernel
theorem dX4_fights_27 : decode cX4_fights 27 = .ok (.imul, 1) := by decide +kernel
theorem dX4_fights_28 : decode cX4_fights 28 = .ok (.iadd, 1) := by decide +kernel
theorem dX4_fights_29 : decode cX4_fights 29 = .ok (.istore_n 2, 1) := by decide +kernel
theorem dX4_fights_30 : decode cX4_fights 30 = .ok (.aload_n 0, 1) := by decide +kernel
theorem dX4_fights_31 : decode cX4_fights 31 = .ok (.iload_n 1, 1) := by decide +kernel
theorem dX4_fights_32 : decode cX4_fights 32 = .ok (.invokevirtual 96, 3) := by decide +kernel
theorem dX4_fights_35 : decode cX4_fights 35 = .ok (.istore_n 3, 1) := by decide +kernel
theorem dX4_fights_36 : decode cX4_fights 36 = .ok (.aload_n 0, 1) := by decide +kernel
theorem dX4_fights_37 : decode cX4_fights 37 = .ok (.getfield 7, 3) := by decide +kernel
theorem dX4_fights_40 : decode cX4_fights 40 = .ok (.iload_n 2, 1) := by decide +kernel
theorem dX4_fights_41 : decode cX4_fights 41 = .ok (.iaload, 1) := by decide +kernel
theorem dX4_fights_42 : decode cX4_fights 42 = .ok (.aload_n 0, 1) := by decide +kernel
theorem dX4_fights_43 : decode cX4_fights 43 = .ok (.getfield 7, 3) := by decide +kernel
theorem dX4_fights_46 : decode cX4_fights 46 = .ok (.iload_n 2, 1) := by decide +kernel
theorem dX4_fights_47 : decode cX4_fights 47 = .ok (.iconst 1, 1) := by decide +kernel
theorem dX4_fights_48 : decode cX4_fights 48 = .ok (.iadd, 1) := by decide +kernel
theorem dX4_fights_49 : decode cX4_fights 49 = .ok (.iaload, 1) := by decide +kernel
theorem dX4_fights_50 : decode cX4_fights 50 = .ok (.iadd, 1) := by decide +kernel
theorem dX4_fights_51 : decode cX4_fights 51 = .ok (.iload_n 3, 1) := by decide +kernel
theorem dX4_fights_52 : decode cX4_fights 52 = .ok (.isub, 1) := by decide +kernel
theorem dX4_fights_53 : decode cX4_fights 53 = .ok (.istore 4, 2) := by decide +kernel
theorem dX4_fights_55 : decode cX4_fights 55 = .ok (.aload_n 0, 1) := by decide +kernel
theorem dX4_fights_56 : decode cX4_fights 56 = .ok (.getfield 7, 3) := by decide +kernel
theorem dX4_fights_59 : decode cX4_fights 59 = .ok (.iload_n 2, 1) := by decide +kernel
theorem dX4_fights_60 : decode cX4_fights 60 = .ok (.iconst 4, 1) := by decide +kernel
theorem dX4_fights_61 : decode cX4_fights 61 = .ok (.iadd, 1) := by decide +kernel
theorem dX4_fights_62 : decode cX4_fights 62 = .ok (.iconst 2, 1) := by decide +kernel
theorem dX4_fights_63 : decode cX4_fights 63 = .ok (.iastore, 1) := by decide +kernel
theorem dX4_fights_64 : decode cX4_fights 64 = .ok (.aload_n 0, 1) := by decide +kernel
theorem dX4_fights_65 : decode cX4_fights 65 = .ok (.getfield 7, 3) := by decide +kernel
theorem dX4_fights_68 : decode cX4_fights 68 = .ok (.iload_n 2, 1) := by decide +kernel
theorem dX4_fights_69 : decode cX4_fights 69 = .ok (.bipush 6, 2) := by decide +kernel
theorem dX4_fights_71 : decode cX4_fights 71 = .ok (.iadd, 1) := by decide +kernel
theorem dX4_fights_72 : decode cX4_fights 72 = .ok (.iload_n 3, 1) := by decide +kernel
theorem dX4_fights_73 : decode cX4_fights 73 = .ok (.iastore, 1) := by decide +kernel
theorem dX4_fights_74 : decode cX4_fights 74 = .ok (.aload_n 0, 1) := by decide +kernel
theorem dX4_fights_75 : decode cX4_fights 75 = .ok (.iload_n 3, 1) := by decide +kernel
theorem dX4_fights_76 : decode cX4_fights 76 = .ok (.iconst 0, 1) := by decide +kernel
theorem dX4_fights_77 : decode cX4_fights 77 = .ok (.iconst 1, 1) := by decide +kernel
theorem dX4_fights_78 : decode cX4_fights 78 = .ok (.invokevirtual 86, 3) := by decide +kernel
theorem dX4_fights_81 : decode cX4_fights 81 = .ok (.aload_n 0, 1) := by decide +kernel
theorem dX4_fights_82 : decode cX4_fights 82 = .ok (.iload 4, 2) := by decide +kernel
theorem dX4_fights_84 : decode cX4_fights 84 = .ok (.iconst 0, 1) := by decide +kernel
theorem dX4_fights_85 : decode cX4_fights 85 = .ok (.bipush (-2), 2) := by decide +kernel
theorem dX4_fights_87 : decode cX4_fights 87 = .ok (.invokevirtual 86, 3) := by decide +kernel
theorem dX4_fights_90 : decode cX4_fights 90 = .ok (.aload_n 0, 1) := by decide +kernel
theorem dX4_fights_91 : decode cX4_fights 91 = .ok (.iload_n 3, 1) := by decide +kernel
theorem dX4_fights_92 : decode cX4_fights 92 = .ok (.invokevirtual 99, 3) := by decide +kernel
theorem dX4_fights_95 : decode cX4_fights 95 = .ok (.aload_n 0, 1) := by decide +kernel
theorem dX4_fights_96 : decode cX4_fights 96 = .ok (.iload 4, 2) := by decide +kernel
theorem dX4_fights_98 : decode cX4_fights 98 = .ok (.invokevirtual 99, 3) := by decide +kernel
theorem dX4_fights_101 : decode cX4_fights 101 = .ok (.aload_n 0, 1) := by decide +kernel
theorem dX4_fights_102 : decode cX4_fights 102 = .ok (.iconst 2, 1) := by decide +kernel
theorem dX4_fights_103 : decode cX4_fights 103 = .ok (.iload_n 1, 1) := by decide +kernel
theorem dX4_fights_104 : decode cX4_fights 104 = .ok (.invokevirtual 79, 3) := by decide +kernel
theorem dX4_fights_107 : decode cX4_fights 107 = .ok (.iload_n 3, 1) := by decide +kernel
theorem dX4_fights_108 : decode cX4_fights 108 = .ok (.ireturn, 1) := by decide +kernel
theorem dX4_swears_0 : decode cX4_swears 0 = .ok (.aload_n 0, 1) := by decide +kernel
theorem dX4_swears_1 : decode cX4_swears 1 = .ok (.iload_n 1, 1) := by decide +kernel
theorem dX4_swears_2 : decode cX4_swears 2 = .ok (.invokevirtual 75, 3) := by decide +kernel
theorem dX4_swears_5 : decode cX4_swears 5 = .ok (.ifCond .ne 5, 3) := by decide +kernel
theorem dX4_swears_8 : decode cX4_swears 8 = .ok (.iconst (-1), 1) := by decide +kernel
theorem dX4_swears_9 : decode cX4_swears 9 = .ok (.ireturn, 1) := by decide +kernel
theorem dX4_swears_10 : decode cX4_swears 10 = .ok (.aload_n 0, 1) := by decide +kernel
theorem dX4_swears_11 : decode cX4_swears 11 = .ok (.iload_n 1, 1) := by decide +kernel
theorem dX4_swears_12 : decode cX4_swears 12 = .ok (.iconst 0, 1) := by decide +kernel
theorem dX4_swears_13 : decode cX4_swears 13 = .ok (.invokevirtual 50, 3) := by decide +kernel
theorem dX4_swears_16 : decode cX4_swears 16 = .ok (.ifCond .eq 6, 3) := by decide +kernel
theorem dX4_swears_19 : decode cX4_swears 19 = .ok (.bipush (-5), 2) := by decide +kernel
theorem dX4_swears_21 : decode cX4_swears 21 = .ok (.ireturn, 1) := by decide +kernel
theorem dX4_swears_22 : decode cX4_swears 22 = .ok (.aload_n 0, 1) := by decide +kernel
theorem dX4_swears_23 : decode cX4_swears 23 = .ok (.iload_n 1, 1) := by decide +kernel
theorem dX4_swears_24 : decode cX4_swears 24 = .ok (.invokevirtual 99, 3) := by decide +kernel
theorem dX4_swears_27 : decode cX4_swears 27 = .ok (.aload_n 0, 1) := by decide +kernel
theorem dX4_swears_28 : decode cX4_swears 28 = .ok (.iconst 3, 1) := by decide +kernel
theorem dX4_swears_29 : decode cX4_swears 29 = .ok (.iload_n 1, 1) := by decide +kernel
theorem dX4_swears_30 : decode cX4_swears 30 = .ok (.invokevirtual 79, 3) := by decide +kernel
theorem dX4_swears_33 : decode cX4_swears 33 = .ok (.aload_n 0, 1) := by decide +kernel
theorem dX4_swears_34 : decode cX4_swears 34 = .ok (.iload_n 1, 1) := by decide +kernel
theorem dX4_swears_35 : decode cX4_swears 35 = .ok (.iconst 3, 1) := by decide +kernel
theorem dX4_swears_36 : decode cX4_swears 36 = .ok (.invokevirtual 37, 3) := by decide +kernel
theorem dX4_swears_39 : decode cX4_swears 39 = .ok (.ireturn, 1) := by decide +kernel
theorem dX4_passes_0 : decode cX4_passes 0 = .ok (.iload_n 1, 1) := by decide +kernel
theorem dX4_passes_1 : decode cX4_passes 1 = .ok (.iconst 1, 1) := by decide +kernel
theorem dX4_passes_2 : decode cX4_passes 2 = .ok (.bipush 99, 2) := by decide +kernel
theorem dX4_passes_4 : decode cX4_passes 4 = .ok (.invokestatic 33, 3) := by decide +kernel
theorem dX4_passes_7 : decode cX4_passes 7 = .ok (.ifCond .ne 6, 3) := by decide +kernel
theorem dX4_passes_10 : decode cX4_passes 10 = .ok (.bipush (-2), 2) := by decide +kernel
theorem dX4_passes_12 : decode cX4_passes 12 = .ok (.ireturn, 1) := by decide +kernel
theorem dX4_passes_13 : decode cX4_passes 13 = .ok (.aload_n 0, 1) := by decide +kernel
theorem dX4_passes_14 : decode cX4_passes 14 = .ok (.getfield 7, 3) := by decide +kernel
theorem dX4_passes_17 : decode cX4_passes 17 = .ok (.iconst 4, 1) := by decide +kernel
theorem dX4_passes_18 : decode cX4_passes 18 = .ok (.iaload, 1) := by decide +kernel
theorem dX4_passes_19 : decode cX4_passes 19 = .ok (.iload_n 1, 1) := by decide +kernel
theorem dX4_passes_20 : decode cX4_passes 20 = .ok (.iadd, 1) := by decide +kernel
theorem dX4_passes_21 : decode cX4_passes 21 = .ok (.sipush 9999, 3) := by decide +kernel
theorem dX4_passes_24 : decode cX4_passes 24 = .ok (.if_icmp .le 6, 3) := by decide +kernel
theorem dX4_passes_27 : decode cX4_passes 27 = .ok (.bipush (-5), 2) := by decide +kernel
theorem dX4_passes_29 : decode cX4_passes 29 = .ok (.ireturn, 1) := by decide +kernel
theorem dX4_passes_30 : decode cX4_passes 30 = .ok (.aload_n 0, 1) := by decide +kernel
theorem dX4_passes_31 : decode cX4_passes 31 = .ok (.getfield 7, 3) := by decide +kernel
theorem dX4_passes_34 : decode cX4_passes 34 = .ok (.iconst 4, 1) := by decide +kernel
theorem dX4_passes_35 : decode cX4_passes 35 = .ok (.dup2, 1) := by decide +kernel
theorem dX4_passes_36 : decode cX4_passes 36 = .ok (.iaload, 1) := by decide +kernel
theorem dX4_passes_37 : decode cX4_passes 37 = .ok (.iload_n 1, 1) := by decide +kernel
theorem dX4_passes_38 : decode cX4_passes 38 = .ok (.iadd, 1) := by decide +kernel
theorem dX4_passes_39 : decode cX4_passes 39 = .ok (.iastore, 1) := by decide +kernel
theorem dX4_passes_40 : decode cX4_passes 40 = .ok (.aload_n 0, 1) := by decide +kernel
theorem dX4_passes_41 : decode cX4_passes 41 = .ok (.invokevirtual 103, 3) := by decide +kernel
theorem dX4_passes_44 : decode cX4_passes 44 = .ok (.invokestatic 93, 3) := by decide +kernel
theorem dX4_passes_47 : decode cX4_passes 47 = .ok (.ireturn, 1) := by decide +kernel
theorem dX4_set_0 : decode cX4_set 0 = .ok (.iload_n 1, 1) := by decide +kernel
theorem dX4_set_1 : decode cX4_set 1 = .ok (.ifCond .eq 8, 3) := by decide +kernel
theorem dX4_set_4 : decode cX4_set 4 = .ok (.iload_n 1, 1) := by decide +kernel
theorem dX4_set_5 : decode cX4_set 5 = .ok (.iconst 2, 1) := by decide +kernel
theorem dX4_set_6 : decode cX4_set 6 = .ok (.if_icmp .ne 7, 3) := by decide +kernel
theorem dX4_set_9 : decode cX4_set 9 = .ok (.iconst 1, 1) := by decide +kernel
theorem dX4_set_10 : decode cX4_set 10 = .ok (.goto 4, 3) := by decide +kernel
theorem dX4_set_13 : decode cX4_set 13 = .ok (.iconst 0, 1) := by decide +kernel
theorem dX4_set_14 : decode cX4_set 14 = .ok (.istore_n 3, 1) := by decide +kernel
theorem dX4_set_15 : decode cX4_set 15 = .ok (.iload_n 1, 1) := by decide +kernel
theorem dX4_set_16 : decode cX4_set 16 = .ok (.ifCond .ne 8, 3) := by decide +kernel
theorem dX4_set_19 : decode cX4_set 19 = .ok (.bipush 48, 2) := by decide +kernel
theorem dX4_set_21 : decode cX4_set 21 = .ok (.goto 27, 3) := by decide +kernel
theorem dX4_set_24 : decode cX4_set 24 = .ok (.iload_n 1, 1) := by decide +kernel
theorem dX4_set_25 : decode cX4_set 25 = .ok (.iconst 1, 1) := by decide +kernel
theorem dX4_set_26 : decode cX4_set 26 = .ok (.if_icmp .ne 8, 3) := by decide +kernel
theorem dX4_set_29 : decode cX4_set 29 = .ok (.bipush 99, 2) := by decide +kernel
theorem dX4_set_31 : decode cX4_set 31 = .ok (.goto 17, 3) := by decide +kernel
theorem dX4_set_34 : decode cX4_set 34 = .ok (.iload_n 1, 1) := by decide +kernel
theorem dX4_set_35 : decode cX4_set 35 = .ok (.iconst 2, 1) := by decide +kernel
theorem dX4_set_36 : decode cX4_set 36 = .ok (.if_icmp .ne 9, 3) := by decide +kernel
theorem dX4_set_39 : decode cX4_set 39 = .ok (.sipush 200, 3) := by decide +kernel
theorem dX4_set_42 : decode cX4_set 42 = .ok (.goto 6, 3) := by decide +kernel
theorem dX4_set_45 : decode cX4_set 45 = .ok (.sipush 400, 3) := by decide +kernel
theorem dX4_set_48 : decode cX4_set 48 = .ok (.istore 4, 2) := by decide +kernel
theorem dX4_set_50 : decode cX4_set 50 = .ok (.iload_n 1, 1) := by decide +kernel
theorem dX4_set_51 : decode cX4_set 51 = .ok (.iconst 0, 1) := by decide +kernel
theorem dX4_set_52 : decode cX4_set 52 = .ok (.iconst 3, 1) := by decide +kernel
theorem dX4_set_53 : decode cX4_set 53 = .ok (.invokestatic 33, 3) := by decide +kernel
theorem dX4_set_56 : decode cX4_set 56 = .ok (.ifCond .eq 13, 3) := by decide +kernel
theorem dX4_set_59 : decode cX4_set 59 = .ok (.iload_n 2, 1) := by decide +kernel
theorem dX4_set_60 : decode cX4_set 60 = .ok (.iload_n 3, 1) := by decide +kernel
theorem dX4_set_61 : decode cX4_set 61 = .ok (.iload 4, 2) := by decide +kernel
theorem dX4_set_63 : decode cX4_set 63 = .ok (.invokestatic 33, 3) := by decide +kernel
theorem dX4_set_66 : decode cX4_set 66 = .ok (.ifCond .ne 6, 3) := by decide +kernel
theorem dX4_set_69 : decode cX4_set 69 = .ok (.bipush (-2), 2) := by decide +kernel
theorem dX4_set_71 : decode cX4_set 71 = .ok (.ireturn, 1) := by decide +kernel
theorem dX4_set_72 : decode cX4_set 72 = .ok (.aload_n 0, 1) := by decide +kernel
theorem dX4_set_73 : decode cX4_set 73 = .ok (.invokevirtual 107, 3) := by decide +kernel
theorem dX4_set_76 : decode cX4_set 76 = .ok (.aload_n 0, 1) := by decide +kernel
theorem dX4_set_77 : decode cX4_set 77 = .ok (.getfield 7, 3) := by decide +kernel
theorem dX4_set_80 : decode cX4_set 80 = .ok (.iload_n 1, 1) := by decide +kernel
theorem dX4_set_81 : decode cX4_set 81 = .ok (.iaload, 1) := by decide +kernel
theorem dX4_set_82 : decode cX4_set 82 = .ok (.istore 5, 2) := by decide +kernel
theorem dX4_set_84 : decode cX4_set 84 = .ok (.aload_n 0, 1) := by decide +kernel
theorem dX4_set_85 : decode cX4_set 85 = .ok (.getfield 7, 3) := by decide +kernel
theorem dX4_set_88 : decode cX4_set 88 = .ok (.iload_n 1, 1) := by decide +kernel
theorem dX4_set_89 : decode cX4_set 89 = .ok (.iload_n 2, 1) := by decide +kernel
theorem dX4_set_90 : decode cX4_set 90 = .ok (.iastore, 1) := by decide +kernel
theorem dX4_set_91 : decode cX4_set 91 = .ok (.aload_n 0, 1) := by decide +kernel
theorem dX4_set_92 : decode cX4_set 92 = .ok (.iload 5, 2) := by decide +kernel
theorem dX4_set_94 : decode cX4_set 94 = .ok (.invokevirtual 110, 3) := by decide +kernel
theorem dX4_set_97 : decode cX4_set 97 = .ok (.ireturn, 1) := by decide +kernel
theorem dX4_person_0 : decode cX4_person 0 = .ok (.aload_n 0, 1) := by decide +kernel
theorem dX4_person_1 : decode cX4_person 1 = .ok (.invokevirtual 107, 3) := by decide +kernel
theorem dX4_person_4 : decode cX4_person 4 = .ok (.aload_n 0, 1) := by decide +kernel
theorem dX4_person_5 : decode cX4_person 5 = .ok (.aload_n 0, 1) := by decide +kernel
theorem dX4_person_6 : decode cX4_person 6 = .ok (.iload_n 1, 1) := by decide +kernel
theorem dX4_person_7 : decode cX4_person 7 = .ok (.iload_n 2, 1) := by decide +kernel
theorem dX4_person_8 : decode cX4_person 8 = .ok (.invokevirtual 113, 3) := by decide +kernel
theorem dX4_person_11 : decode cX4_person 11 = .ok (.invokevirtual 110, 3) := by decide +kernel
theorem dX4_person_14 : decode cX4_person 14 = .ok (.ireturn, 1) := by decide +kernel
theorem dX4_second_0 : decode cX4_second 0 = .ok (.aload_n 0, 1) := by decide +kernel
theorem dX4_second_1 : decode cX4_second 1 = .ok (.invokevirtual 107, 3) := by decide +kernel
theorem dX4_second_4 : decode cX4_second 4 = .ok (.aload_n 0, 1) := by decide +kernel
theorem dX4_second_5 : decode cX4_second 5 = .ok (.aload_n 0, 1) := by decide +kernel
theorem dX4_second_6 : decode cX4_second 6 = .ok (.iload_n 1, 1) := by decide +kernel
theorem dX4_second_7 : decode cX4_second 7 = .ok (.iload_n 2, 1) := by decide +kernel
theorem dX4_second_8 : decode cX4_second 8 = .ok (.invokevirtual 116, 3) := by decide +kernel
theorem dX4_second_11 : decode cX4_second 11 = .ok (.invokevirtual 110, 3) := by decide +kernel
theorem dX4_second_14 : decode cX4_second 14 = .ok (.ireturn, 1) := by decide +kernel
theorem dX4_allow_0 : decode cX4_allow 0 = .ok (.aload_n 0, 1) := by decide +kernel
theorem dX4_allow_1 : decode cX4_allow 1 = .ok (.invokevirtual 107, 3) := by decide +kernel
theorem dX4_allow_4 : decode cX4_allow 4 = .ok (.aload_n 0, 1) := by decide +kernel
theorem dX4_allow_5 : decode cX4_allow 5 = .ok (.aload_n 0, 1) := by decide +kernel
theorem dX4_allow_6 : decode cX4_allow 6 = .ok (.iload_n 1, 1) := by decide +kernel
theorem dX4_allow_7 : decode cX4_allow 7 = .ok (.invokevirtual 119, 3) := by decide +kernel
theorem dX4_allow_10 : decode cX4_allow 10 = .ok (.invokevirtual 110, 3) := by decide +kernel
theorem dX4_allow_13 : decode cX4_allow 13 = .ok (.ireturn, 1) := by decide +kernel
theorem dX4_insult_0 : decode cX4_insult 0 = .ok (.aload_n 0, 1) := by decide +kernel
theorem dX4_insult_1 : decode cX4_insult 1 = .ok (.invokevirtual 107, 3) := by decide +kernel
theorem dX4_insult_4 : decode cX4_insult 4 = .ok (.aload_n 0, 1) := by decide +kernel
theorem dX4_insult_5 : decode cX4_insult 5 = .ok (.aload_n 0, 1) := by decide +kernel
theorem dX4_insult_6 : decode cX4_insult 6 = .ok (.iload_n 1, 1) := by decide +kernel
theorem dX4_insult_7 : decode cX4_insult 7 = .ok (.iload_n 2, 1) := by decide +kernel
theorem dX4_insult_8 : decode cX4_insult 8 = .ok (.iload_n 3, 1) := by decide +kernel
theorem dX4_insult_9 : decode cX4_insult 9 = .ok (.invokevirtual 122, 3) := by decide +kernel
theorem dX4_insult_12 : decode cX4_insult 12 = .ok (.invokevirtual 110, 3) := by decide +kernel
theorem dX4_insult_15 : decode cX4_insult 15 = .ok (.ireturn, 1) := by decide +kernel
theorem dX4_settle_0 : decode cX4_settle 0 = .ok (.aload_n 0, 1) := by decide +kernel
theorem dX4_settle_1 : decode cX4_settle 1 = .ok (.invokevirtual 107, 3) := by decide +kernel
theorem dX4_settle_4 : decode cX4_settle 4 = .ok (.aload_n 0, 1) := by decide +kernel
theorem dX4_settle_5 : decode cX4_settle 5 = .ok (.aload_n 0, 1) := by decide +kernel
theorem dX4_settle_6 : decode cX4_settle 6 = .ok (.iload_n 1, 1) := by decide +kernel
theorem dX4_settle_7 : decode cX4_settle 7 = .ok (.iload_n 2, 1) := by decide +kernel
theorem dX4_settle_8 : decode cX4_settle 8 = .ok (.invokevirtual 126, 3) := by decide +kernel

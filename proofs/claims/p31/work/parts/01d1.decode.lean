theorem dX0_init_0 : decode cX0_init 0 = .ok (.aload_n 0, 1) := by decide +kernel
theorem dX0_init_1 : decode cX0_init 1 = .ok (.invokespecial 3, 3) := by decide +kernel
theorem dX0_init_4 : decode cX0_init 4 = .ok (.aload_n 0, 1) := by decide +kernel
theorem dX0_init_5 : decode cX0_init 5 = .ok (.bipush 7, 2) := by decide +kernel
theorem dX0_init_7 : decode cX0_init 7 = .ok (.anewarray 9, 3) := by decide +kernel
theorem dX0_init_10 : decode cX0_init 10 = .ok (.putfield 11, 3) := by decide +kernel
theorem dX0_init_13 : decode cX0_init 13 = .ok (.aload_n 0, 1) := by decide +kernel
theorem dX0_init_14 : decode cX0_init 14 = .ok (.iconst 0, 1) := by decide +kernel
theorem dX0_init_15 : decode cX0_init 15 = .ok (.putfield 15, 3) := by decide +kernel
theorem dX0_init_18 : decode cX0_init 18 = .ok (.aload_n 0, 1) := by decide +kernel
theorem dX0_init_19 : decode cX0_init 19 = .ok (.iconst 0, 1) := by decide +kernel
theorem dX0_init_20 : decode cX0_init 20 = .ok (.putfield 19, 3) := by decide +kernel
theorem dX0_init_23 : decode cX0_init 23 = .ok (.iconst 0, 1) := by decide +kernel
theorem dX0_init_24 : decode cX0_init 24 = .ok (.istore_n 1, 1) := by decide +kernel
theorem dX0_init_25 : decode cX0_init 25 = .ok (.iload_n 1, 1) := by decide +kernel
theorem dX0_init_26 : decode cX0_init 26 = .ok (.aload_n 0, 1) := by decide +kernel
theorem dX0_init_27 : decode cX0_init 27 = .ok (.getfield 11, 3) := by decide +kernel
theorem dX0_init_30 : decode cX0_init 30 = .ok (.arraylength, 1) := by decide +kernel
theorem dX0_init_31 : decode cX0_init 31 = .ok (.if_icmp .ge 22, 3) := by decide +kernel
theorem dX0_init_34 : decode cX0_init 34 = .ok (.aload_n 0, 1) := by decide +kernel
theorem dX0_init_35 : decode cX0_init 35 = .ok (.getfield 11, 3) := by decide +kernel
theorem dX0_init_38 : decode cX0_init 38 = .ok (.iload_n 1, 1) := by decide +kernel
theorem dX0_init_39 : decode cX0_init 39 = .ok (.new 9, 3) := by decide +kernel
theorem dX0_init_42 : decode cX0_init 42 = .ok (.dup, 1) := by decide +kernel
theorem dX0_init_43 : decode cX0_init 43 = .ok (.invokespecial 22, 3) := by decide +kernel
theorem dX0_init_46 : decode cX0_init 46 = .ok (.aastore, 1) := by decide +kernel
theorem dX0_init_47 : decode cX0_init 47 = .ok (.iinc 1 1, 3) := by decide +kernel
theorem dX0_init_50 : decode cX0_init 50 = .ok (.goto (-25), 3) := by decide +kernel
theorem dX0_init_53 : decode cX0_init 53 = .ok (.return_, 1) := by decide +kernel
theorem dX0_note_0 : decode cX0_note 0 = .ok (.aload_n 0, 1) := by decide +kernel
theorem dX0_note_1 : decode cX0_note 1 = .ok (.aload_n 0, 1) := by decide +kernel
theorem dX0_note_2 : decode cX0_note 2 = .ok (.getfield 19, 3) := by decide +kernel
theorem dX0_note_5 : decode cX0_note 5 = .ok (.invokevirtual 23, 3) := by decide +kernel
theorem dX0_note_8 : decode cX0_note 8 = .ok (.astore_n 2, 1) := by decide +kernel
theorem dX0_note_9 : decode cX0_note 9 = .ok (.aload_n 2, 1) := by decide +kernel
theorem dX0_note_10 : decode cX0_note 10 = .ok (.ifnull 8, 3) := by decide +kernel
theorem dX0_note_13 : decode cX0_note 13 = .ok (.aload_n 2, 1) := by decide +kernel
theorem dX0_note_14 : decode cX0_note 14 = .ok (.aload_n 1, 1) := by decide +kernel
theorem dX0_note_15 : decode cX0_note 15 = .ok (.invokevirtual 27, 3) := by decide +kernel
theorem dX0_note_18 : decode cX0_note 18 = .ok (.return_, 1) := by decide +kernel
theorem dX0_keepUnlessError_0 : decode cX0_keepUnlessError 0 = .ok (.iload_n 1, 1) := by decide +kernel
theorem dX0_keepUnlessError_1 : decode cX0_keepUnlessError 1 = .ok (.invokestatic 31, 3) := by decide +kernel
theorem dX0_keepUnlessError_4 : decode cX0_keepUnlessError 4 = .ok (.ifCond .eq 5, 3) := by decide +kernel
theorem dX0_keepUnlessError_7 : decode cX0_keepUnlessError 7 = .ok (.iload_n 1, 1) := by decide +kernel
theorem dX0_keepUnlessError_8 : decode cX0_keepUnlessError 8 = .ok (.ireturn, 1) := by decide +kernel
theorem dX0_keepUnlessError_9 : decode cX0_keepUnlessError 9 = .ok (.aload_n 0, 1) := by decide +kernel
theorem dX0_keepUnlessError_10 : decode cX0_keepUnlessError 10 = .ok (.getfield 19, 3) := by decide +kernel
theorem dX0_keepUnlessError_13 : decode cX0_keepUnlessError 13 = .ok (.bipush 6, 2) := by decide +kernel
theorem dX0_keepUnlessError_15 : decode cX0_keepUnlessError 15 = .ok (.if_icmp .ge 16, 3) := by decide +kernel
theorem dX0_keepUnlessError_18 : decode cX0_keepUnlessError 18 = .ok (.aload_n 0, 1) := by decide +kernel
theorem dX0_keepUnlessError_19 : decode cX0_keepUnlessError 19 = .ok (.dup, 1) := by decide +kernel
theorem dX0_keepUnlessError_20 : decode cX0_keepUnlessError 20 = .ok (.getfield 19, 3) := by decide +kernel
theorem dX0_keepUnlessError_23 : decode cX0_keepUnlessError 23 = .ok (.iconst 1, 1) := by decide +kernel
theorem dX0_keepUnlessError_24 : decode cX0_keepUnlessError 24 = .ok (.iadd, 1) := by decide +kernel
theorem dX0_keepUnlessError_25 : decode cX0_keepUnlessError 25 = .ok (.putfield 19, 3) := by decide +kernel
theorem dX0_keepUnlessError_28 : decode cX0_keepUnlessError 28 = .ok (.goto 12, 3) := by decide +kernel
theorem dX0_keepUnlessError_31 : decode cX0_keepUnlessError 31 = .ok (.aload_n 0, 1) := by decide +kernel
theorem dX0_keepUnlessError_32 : decode cX0_keepUnlessError 32 = .ok (.aload_n 0, 1) := by decide +kernel
theorem dX0_keepUnlessError_33 : decode cX0_keepUnlessError 33 = .ok (.iconst 1, 1) := by decide +kernel
theorem dX0_keepUnlessError_34 : decode cX0_keepUnlessError 34 = .ok (.invokevirtual 37, 3) := by decide +kernel
theorem dX0_keepUnlessError_37 : decode cX0_keepUnlessError 37 = .ok (.putfield 15, 3) := by decide +kernel
theorem dX0_keepUnlessError_40 : decode cX0_keepUnlessError 40 = .ok (.iload_n 1, 1) := by decide +kernel
theorem dX0_keepUnlessError_41 : decode cX0_keepUnlessError 41 = .ok (.ireturn, 1) := by decide +kernel
theorem dX0_goBack_0 : decode cX0_goBack 0 = .ok (.aload_n 0, 1) := by decide +kernel
theorem dX0_goBack_1 : decode cX0_goBack 1 = .ok (.aload_n 0, 1) := by decide +kernel
theorem dX0_goBack_2 : decode cX0_goBack 2 = .ok (.getfield 19, 3) := by decide +kernel
theorem dX0_goBack_5 : decode cX0_goBack 5 = .ok (.iconst 1, 1) := by decide +kernel
theorem dX0_goBack_6 : decode cX0_goBack 6 = .ok (.isub, 1) := by decide +kernel
theorem dX0_goBack_7 : decode cX0_goBack 7 = .ok (.invokevirtual 23, 3) := by decide +kernel
theorem dX0_goBack_10 : decode cX0_goBack 10 = .ok (.astore_n 2, 1) := by decide +kernel
theorem dX0_goBack_11 : decode cX0_goBack 11 = .ok (.aload_n 0, 1) := by decide +kernel
theorem dX0_goBack_12 : decode cX0_goBack 12 = .ok (.getfield 19, 3) := by decide +kernel
theorem dX0_goBack_15 : decode cX0_goBack 15 = .ok (.ifCond .eq 7, 3) := by decide +kernel
theorem dX0_goBack_18 : decode cX0_goBack 18 = .ok (.aload_n 2, 1) := by decide +kernel
theorem dX0_goBack_19 : decode cX0_goBack 19 = .ok (.ifnonnull 5, 3) := by decide +kernel
theorem dX0_goBack_22 : decode cX0_goBack 22 = .ok (.iconst 0, 1) := by decide +kernel
theorem dX0_goBack_23 : decode cX0_goBack 23 = .ok (.ireturn, 1) := by decide +kernel
theorem dX0_goBack_24 : decode cX0_goBack 24 = .ok (.aload_n 1, 1) := by decide +kernel
theorem dX0_goBack_25 : decode cX0_goBack 25 = .ok (.aload_n 2, 1) := by decide +kernel
theorem dX0_goBack_26 : decode cX0_goBack 26 = .ok (.invokevirtual 27, 3) := by decide +kernel
theorem dX0_goBack_29 : decode cX0_goBack 29 = .ok (.aload_n 0, 1) := by decide +kernel
theorem dX0_goBack_30 : decode cX0_goBack 30 = .ok (.dup, 1) := by decide +kernel
theorem dX0_goBack_31 : decode cX0_goBack 31 = .ok (.getfield 19, 3) := by decide +kernel
theorem dX0_goBack_34 : decode cX0_goBack 34 = .ok (.iconst 1, 1) := by decide +kernel
theorem dX0_goBack_35 : decode cX0_goBack 35 = .ok (.isub, 1) := by decide +kernel
theorem dX0_goBack_36 : decode cX0_goBack 36 = .ok (.putfield 19, 3) := by decide +kernel
theorem dX0_goBack_39 : decode cX0_goBack 39 = .ok (.iconst 1, 1) := by decide +kernel
theorem dX0_goBack_40 : decode cX0_goBack 40 = .ok (.ireturn, 1) := by decide +kernel
theorem dX0_stateAt_0 : decode cX0_stateAt 0 = .ok (.aload_n 0, 1) := by decide +kernel
theorem dX0_stateAt_1 : decode cX0_stateAt 1 = .ok (.iload_n 1, 1) := by decide +kernel
theorem dX0_stateAt_2 : decode cX0_stateAt 2 = .ok (.invokevirtual 37, 3) := by decide +kernel
theorem dX0_stateAt_5 : decode cX0_stateAt 5 = .ok (.istore_n 2, 1) := by decide +kernel
theorem dX0_stateAt_6 : decode cX0_stateAt 6 = .ok (.iload_n 2, 1) := by decide +kernel
theorem dX0_stateAt_7 : decode cX0_stateAt 7 = .ok (.ifCond .lt 21, 3) := by decide +kernel
theorem dX0_stateAt_10 : decode cX0_stateAt 10 = .ok (.iload_n 2, 1) := by decide +kernel
theorem dX0_stateAt_11 : decode cX0_stateAt 11 = .ok (.aload_n 0, 1) := by decide +kernel
theorem dX0_stateAt_12 : decode cX0_stateAt 12 = .ok (.getfield 11, 3) := by decide +kernel
theorem dX0_stateAt_15 : decode cX0_stateAt 15 = .ok (.arraylength, 1) := by decide +kernel
theorem dX0_stateAt_16 : decode cX0_stateAt 16 = .ok (.if_icmp .ge 12, 3) := by decide +kernel
theorem dX0_stateAt_19 : decode cX0_stateAt 19 = .ok (.aload_n 0, 1) := by decide +kernel
theorem dX0_stateAt_20 : decode cX0_stateAt 20 = .ok (.getfield 11, 3) := by decide +kernel
theorem dX0_stateAt_23 : decode cX0_stateAt 23 = .ok (.iload_n 2, 1) := by decide +kernel
theorem dX0_stateAt_24 : decode cX0_stateAt 24 = .ok (.aaload, 1) := by decide +kernel
theorem dX0_stateAt_25 : decode cX0_stateAt 25 = .ok (.goto 4, 3) := by decide +kernel
theorem dX0_stateAt_28 : decode cX0_stateAt 28 = .ok (.aconst_null, 1) := by decide +kernel
theorem dX0_stateAt_29 : decode cX0_stateAt 29 = .ok (.areturn, 1) := by decide +kernel
theorem dX0_placeOf_0 : decode cX0_placeOf 0 = .ok (.aload_n 0, 1) := by decide +kernel
theorem dX0_placeOf_1 : decode cX0_placeOf 1 = .ok (.getfield 15, 3) := by decide +kernel
theorem dX0_placeOf_4 : decode cX0_placeOf 4 = .ok (.iload_n 1, 1) := by decide +kernel
theorem dX0_placeOf_5 : decode cX0_placeOf 5 = .ok (.iadd, 1) := by decide +kernel
theorem dX0_placeOf_6 : decode cX0_placeOf 6 = .ok (.bipush 7, 2) := by decide +kernel
theorem dX0_placeOf_8 : decode cX0_placeOf 8 = .ok (.invokestatic 41, 3) := by decide +kernel
theorem dX0_placeOf_11 : decode cX0_placeOf 11 = .ok (.ireturn, 1) := by decide +kernel
theorem dX1_init_0 : decode cX1_init 0 = .ok (.aload_n 0, 1) := by decide +kernel
theorem dX1_init_1 : decode cX1_init 1 = .ok (.invokespecial 3, 3) := by decide +kernel
theorem dX1_init_4 : decode cX1_init 4 = .ok (.aload_n 0, 1) := by decide +kernel
theorem dX1_init_5 : decode cX1_init 5 = .ok (.bipush 80, 2) := by decide +kernel
theorem dX1_init_7 : decode cX1_init 7 = .ok (.newarray .int, 2) := by decide +kernel
theorem dX1_init_9 : decode cX1_init 9 = .ok (.putfield 11, 3) := by decide +kernel
theorem dX1_init_12 : decode cX1_init 12 = .ok (.aload_n 0, 1) := by decide +kernel
theorem dX1_init_13 : decode cX1_init 13 = .ok (.iconst 0, 1) := by decide +kernel
theorem dX1_init_14 : decode cX1_init 14 = .ok (.putfield 15, 3) := by decide +kernel
theorem dX1_init_17 : decode cX1_init 17 = .ok (.aload_n 0, 1) := by decide +kernel
theorem dX1_init_18 : decode cX1_init 18 = .ok (.iconst 0, 1) := by decide +kernel
theorem dX1_init_19 : decode cX1_init 19 = .ok (.putfield 19, 3) := by decide +kernel
theorem dX1_init_22 : decode cX1_init 22 = .ok (.aload_n 0, 1) := by decide +kernel
theorem dX1_init_23 : decode cX1_init 23 = .ok (.iconst 0, 1) := by decide +kernel
theorem dX1_init_24 : decode cX1_init 24 = .ok (.putfield 22, 3) := by decide +kernel
theorem dX1_init_27 : decode cX1_init 27 = .ok (.aload_n 0, 1) := by decide +kernel
theorem dX1_init_28 : decode cX1_init 28 = .ok (.iconst 3, 1) := by decide +kernel
theorem dX1_init_29 : decode cX1_init 29 = .ok (.newarray .int, 2) := by decide +kernel
theorem dX1_init_31 : decode cX1_init 31 = .ok (.putfield 25, 3) := by decide +kernel
theorem dX1_init_34 : decode cX1_init 34 = .ok (.aload_n 0, 1) := by decide +kernel
theorem dX1_init_35 : decode cX1_init 35 = .ok (.iconst 0, 1) := by decide +kernel
theorem dX1_init_36 : decode cX1_init 36 = .ok (.putfield 28, 3) := by decide +kernel
theorem dX1_init_39 : decode cX1_init 39 = .ok (.return_, 1) := by decide +kernel
theorem dX2_init_0 : decode cX2_init 0 = .ok (.aload_n 0, 1) := by decide +kernel
theorem dX2_init_1 : decode cX2_init 1 = .ok (.invokespecial 5, 3) := by decide +kernel
theorem dX2_init_4 : decode cX2_init 4 = .ok (.aload_n 0, 1) := by decide +kernel
theorem dX2_init_5 : decode cX2_init 5 = .ok (.iconst 0, 1) := by decide +kernel
theorem dX2_init_6 : decode cX2_init 6 = .ok (.putfield 11, 3) := by decide +kernel
theorem dX2_init_9 : decode cX2_init 9 = .ok (.aload_n 0, 1) := by decide +kernel
theorem dX2_init_10 : decode cX2_init 10 = .ok (.bipush 31, 2) := by decide +kernel
theorem dX2_init_12 : decode cX2_init 12 = .ok (.putfield 15, 3) := by decide +kernel
theorem dX2_init_15 : decode cX2_init 15 = .ok (.aload_n 0, 1) := by decide +kernel
theorem dX2_init_16 : decode cX2_init 16 = .ok (.iconst 0, 1) := by decide +kernel
theorem dX2_init_17 : decode cX2_init 17 = .ok (.putfield 18, 3) := by decide +kernel
theorem dX2_init_20 : decode cX2_init 20 = .ok (.aload_n 0, 1) := by decide +kernel
theorem dX2_init_21 : decode cX2_init 21 = .ok (.iconst 0, 1) := by decide +kernel
theorem dX2_init_22 : decode cX2_init 22 = .ok (.putfield 21, 3) := by decide +kernel
theorem dX2_init_25 : decode cX2_init 25 = .ok (.aload_n 0, 1) := by decide +kernel
theorem dX2_init_26 : decode cX2_init 26 = .ok (.iconst 0, 1) := by decide +kernel
theorem dX2_init_27 : decode cX2_init 27 = .ok (.putfield 24, 3) := by decide +kernel
theorem dX2_init_30 : decode cX2_init 30 = .ok (.aload_n 0, 1) := by decide +kernel
theorem dX2_init_31 : decode cX2_init 31 = .ok (.sipush 176, 3) := by decide +kernel
theorem dX2_init_34 : decode cX2_init 34 = .ok (.newarray .int, 2) := by decide +kernel
theorem dX2_init_36 : decode cX2_init 36 = .ok (.putfield 27, 3) := by decide +kernel
theorem dX2_init_39 : decode cX2_init 39 = .ok (.aload_n 0, 1) := by decide +kernel
theorem dX2_init_40 : decode cX2_init 40 = .ok (.iconst 0, 1) := by decide +kernel
theorem dX2_init_41 : decode cX2_init 41 = .ok (.iconst 0, 1) := by decide +kernel
theorem dX2_init_42 : decode cX2_init 42 = .ok (.bipush 12, 2) := by decide +kernel
theorem dX2_init_44 : decode cX2_init 44 = .ok (.invokevirtual 31, 3) := by decide +kernel
theorem dX2_init_47 : decode cX2_init 47 = .ok (.aload_n 0, 1) := by decide +kernel
theorem dX2_init_48 : decode cX2_init 48 = .ok (.iconst 0, 1) := by decide +kernel
theorem dX2_init_49 : decode cX2_init 49 = .ok (.iconst 1, 1) := by decide +kernel
theorem dX2_init_50 : decode cX2_init 50 = .ok (.bipush 24, 2) := by decide +kernel
theorem dX2_init_52 : decode cX2_init 52 = .ok (.invokevirtual 31, 3) := by decide +kernel
theorem dX2_init_55 : decode cX2_init 55 = .ok (.aload_n 0, 1) := by decide +kernel
theorem dX2_init_56 : decode cX2_init 56 = .ok (.iconst 0, 1) := by decide +kernel
theorem dX2_init_57 : decode cX2_init 57 = .ok (.iconst 2, 1) := by decide +kernel
theorem dX2_init_58 : decode cX2_init 58 = .ok (.bipush 72, 2) := by decide +kernel
theorem dX2_init_60 : decode cX2_init 60 = .ok (.invokevirtual 31, 3) := by decide +kernel
theorem dX2_init_63 : decode cX2_init 63 = .ok (.aload_n 0, 1) := by decide +kernel
theorem dX2_init_64 : decode cX2_init 64 = .ok (.iconst 0, 1) := by decide +kernel
theorem dX2_init_65 : decode cX2_init 65 = .ok (.iconst 3, 1) := by decide +kernel
theorem dX2_init_66 : decode cX2_init 66 = .ok (.bipush 100, 2) := by decide +kernel
theorem dX2_init_68 : decode cX2_init 68 = .ok (.invokevirtual 31, 3) := by decide +kernel
theorem dX2_init_71 : decode cX2_init 71 = .ok (.return_, 1) := by decide +kernel
theorem dX2_read_0 : decode cX2_read 0 = .ok (.iload_n 1, 1) := by decide +kernel
theorem dX2_read_1 : decode cX2_read 1 = .ok (.iload_n 2, 1) := by decide +kernel
theorem dX2_read_2 : decode cX2_read 2 = .ok (.iadd, 1) := by decide +kernel
theorem dX2_read_3 : decode cX2_read 3 = .ok (.istore_n 3, 1) := by decide +kernel
theorem dX2_read_4 : decode cX2_read 4 = .ok (.iload_n 3, 1) := by decide +kernel
theorem dX2_read_5 : decode cX2_read 5 = .ok (.ifCond .lt 21, 3) := by decide +kernel
theorem dX2_read_8 : decode cX2_read 8 = .ok (.iload_n 3, 1) := by decide +kernel
theorem dX2_read_9 : decode cX2_read 9 = .ok (.aload_n 0, 1) := by decide +kernel
theorem dX2_read_10 : decode cX2_read 10 = .ok (.getfield 27, 3) := by decide +kernel
theorem dX2_read_13 : decode cX2_read 13 = .ok (.arraylength, 1) := by decide +kernel
theorem dX2_read_14 : decode cX2_read 14 = .ok (.if_icmp .ge 12, 3) := by decide +kernel
theorem dX2_read_17 : decode cX2_read 17 = .ok (.aload_n 0, 1) := by decide +kernel
theorem dX2_read_18 : decode cX2_read 18 = .ok (.getfield 27, 3) := by decide +kernel
theorem dX2_read_21 : decode cX2_read 21 = .ok (.iload_n 3, 1) := by decide +kernel
theorem dX2_read_22 : decode cX2_read 22 = .ok (.iaload, 1) := by decide +kernel
theorem dX2_read_23 : decode cX2_read 23 = .ok (.goto 4, 3) := by decide +kernel
theorem dX2_read_26 : decode cX2_read 26 = .ok (.iconst 0, 1) := by decide +kernel
theorem dX2_read_27 : decode cX2_read 27 = .ok (.ireturn, 1) := by decide +kernel
theorem dX2_write_0 : decode cX2_write 0 = .ok (.iload_n 1, 1) := by decide +kernel
theorem dX2_write_1 : decode cX2_write 1 = .ok (.iload_n 2, 1) := by decide +kernel
theorem dX2_write_2 : decode cX2_write 2 = .ok (.iadd, 1) := by decide +kernel
theorem dX2_write_3 : decode cX2_write 3 = .ok (.istore 4, 2) := by decide +kernel
theorem dX2_write_5 : decode cX2_write 5 = .ok (.iload 4, 2) := by decide +kernel
theorem dX2_write_7 : decode cX2_write 7 = .ok (.ifCond .lt 21, 3) := by decide +kernel
theorem dX2_write_10 : decode cX2_write 10 = .ok (.iload 4, 2) := by decide +kernel
theorem dX2_write_12 : decode cX2_write 12 = .ok (.aload_n 0, 1) := by decide +kernel
theorem dX2_write_13 : decode cX2_write 13 = .ok (.getfield 27, 3) := by decide +kernel
theorem dX2_write_16 : decode cX2_write 16 = .ok (.arraylength, 1) := by decide +kernel
theorem dX2_write_17 : decode cX2_write 17 = .ok (.if_icmp .ge 11, 3) := by decide +kernel
theorem dX2_write_20 : decode cX2_write 20 = .ok (.aload_n 0, 1) := by decide +kernel
theorem dX2_write_21 : decode cX2_write 21 = .ok (.getfield 27, 3) := by decide +kernel
theorem dX2_write_24 : decode cX2_write 24 = .ok (.iload 4, 2) := by decide +kernel
theorem dX2_write_26 : decode cX2_write 26 = .ok (.iload_n 3, 1) := by decide +kernel
theorem dX2_write_27 : decode cX2_write 27 = .ok (.iastore, 1) := by decide +kernel
theorem dX2_write_28 : decode cX2_write 28 = .ok (.return_, 1) := by decide +kernel
theorem dX2_become_0 : decode cX2_become 0 = .ok (.aload_n 0, 1) := by decide +kernel
theorem dX2_become_1 : decode cX2_become 1 = .ok (.aload_n 1, 1) := by decide +kernel
theorem dX2_become_2 : decode cX2_become 2 = .ok (.getfield 11, 3) := by decide +kernel
theorem dX2_become_5 : decode cX2_become 5 = .ok (.putfield 11, 3) := by decide +kernel
theorem dX2_become_8 : decode cX2_become 8 = .ok (.aload_n 0, 1) := by decide +kernel
theorem dX2_become_9 : decode cX2_become 9 = .ok (.aload_n 1, 1) := by decide +kernel
theorem dX2_become_10 : decode cX2_become 10 = .ok (.getfield 15, 3) := by decide +kernel
theorem dX2_become_13 : decode cX2_become 13 = .ok (.putfield 15, 3) := by decide +kernel
theorem dX2_become_16 : decode cX2_become 16 = .ok (.aload_n 0, 1) := by decide +kernel
theorem dX2_become_17 : decode cX2_become 17 = .ok (.aload_n 1, 1) := by decide +kernel
theorem dX2_become_18 : decode cX2_become 18 = .ok (.getfield 18, 3) := by decide +kernel
theorem dX2_become_21 : decode cX2_become 21 = .ok (.putfield 18, 3) := by decide +kernel
theorem dX2_become_24 : decode cX2_become 24 = .ok (.aload_n 0, 1) := by decide +kernel
theorem dX2_become_25 : decode cX2_become 25 = .ok (.aload_n 1, 1) := by decide +kernel
theorem dX2_become_26 : decode cX2_become 26 = .ok (.getfield 21, 3) := by decide +kernel
theorem dX2_become_29 : decode cX2_become 29 = .ok (.putfield 21, 3) := by decide +kernel
theorem dX2_become_32 : decode cX2_become 32 = .ok (.aload_n 0, 1) := by decide +kernel
theorem dX2_become_33 : decode cX2_become 33 = .ok (.aload_n 1, 1) := by decide +kernel
theorem dX2_become_34 : decode cX2_become 34 = .ok (.getfield 24, 3) := by decide +kernel
theorem dX2_become_37 : decode cX2_become 37 = .ok (.putfield 24, 3) := by decide +kernel
theorem dX2_become_40 : decode cX2_become 40 = .ok (.aload_n 1, 1) := by decide +kernel
theorem dX2_become_41 : decode cX2_become 41 = .ok (.getfield 27, 3) := by decide +kernel
theorem dX2_become_44 : decode cX2_become 44 = .ok (.iconst 0, 1) := by decide +kernel
theorem dX2_become_45 : decode cX2_become 45 = .ok (.aload_n 0, 1) := by decide +kernel
theorem dX2_become_46 : decode cX2_become 46 = .ok (.getfield 27, 3) := by decide +kernel
theorem dX2_become_49 : decode cX2_become 49 = .ok (.iconst 0, 1) := by decide +kernel
theorem dX2_become_50 : decode cX2_become 50 = .ok (.aload_n 1, 1) := by decide +kernel
theorem dX2_become_51 : decode cX2_become 51 = .ok (.getfield 27, 3) := by decide +kernel
theorem dX2_become_54 : decode cX2_become 54 = .ok (.arraylength, 1) := by decide +kernel
theorem dX2_become_55 : decode cX2_become 55 = .ok (.aload_n 0, 1) := by decide +kernel
theorem dX2_become_56 : decode cX2_become 56 = .ok (.getfield 27, 3) := by decide +kernel
theorem dX2_become_59 : decode cX2_become 59 = .ok (.arraylength, 1) := by decide +kernel
theorem dX2_become_60 : decode cX2_become 60 = .ok (.invokestatic 35, 3) := by decide +kernel
theorem dX2_become_63 : decode cX2_become 63 = .ok (.invokestatic 41, 3) := by decide +kernel
theorem dX2_become_66 : decode cX2_become 66 = .ok (.return_, 1) := by decide +kernel
theorem dX2_hasPerson_0 : decode cX2_hasPerson 0 = .ok (.iload_n 1, 1) := by decide +kernel
theorem dX2_hasPerson_1 : decode cX2_hasPerson 1 = .ok (.ifCond .lt 15, 3) := by decide +kernel
theorem dX2_hasPerson_4 : decode cX2_hasPerson 4 = .ok (.iload_n 1, 1) := by decide +kernel
theorem dX2_hasPerson_5 : decode cX2_hasPerson 5 = .ok (.aload_n 0, 1) := by decide +kernel
theorem dX2_hasPerson_6 : decode cX2_hasPerson 6 = .ok (.getfield 18, 3) := by decide +kernel
theorem dX2_hasPerson_9 : decode cX2_hasPerson 9 = .ok (.if_icmp .ge 7, 3) := by decide +kernel
theorem dX2_hasPerson_12 : decode cX2_hasPerson 12 = .ok (.iconst 1, 1) := by decide +kernel
theorem dX2_hasPerson_13 : decode cX2_hasPerson 13 = .ok (.goto 4, 3) := by decide +kernel
theorem dX2_hasPerson_16 : decode cX2_hasPerson 16 = .ok (.iconst 0, 1) := by decide +kernel
theorem dX2_hasPerson_17 : decode cX2_hasPerson 17 = .ok (.ireturn, 1) := by decide +kernel
theorem dX2_hasQuarrel_0 : decode cX2_hasQuarrel 0 = .ok (.iload_n 1, 1) := by decide +kernel
theorem dX2_hasQuarrel_1 : decode cX2_hasQuarrel 1 = .ok (.ifCond .lt 15, 3) := by decide +kernel
theorem dX2_hasQuarrel_4 : decode cX2_hasQuarrel 4 = .ok (.iload_n 1, 1) := by decide +kernel
theorem dX2_hasQuarrel_5 : decode cX2_hasQuarrel 5 = .ok (.aload_n 0, 1) := by decide +kernel
theorem dX2_hasQuarrel_6 : decode cX2_hasQuarrel 6 = .ok (.getfield 21, 3) := by decide +kernel
theorem dX2_hasQuarrel_9 : decode cX2_hasQuarrel 9 = .ok (.if_icmp .ge 7, 3) := by decide +kernel
theorem dX2_hasQuarrel_12 : decode cX2_hasQuarrel 12 = .ok (.iconst 1, 1) := by decide +kernel
theorem dX2_hasQuarrel_13 : decode cX2_hasQuarrel 13 = .ok (.goto 4, 3) := by decide +kernel
theorem dX2_hasQuarrel_16 : decode cX2_hasQuarrel 16 = .ok (.iconst 0, 1) := by decide +kernel
theorem dX2_hasQuarrel_17 : decode cX2_hasQuarrel 17 = .ok (.ireturn, 1) := by decide +kernel
theorem dX2_isOpen_0 : decode cX2_isOpen 0 = .ok (.aload_n 0, 1) := by decide +kernel
theorem dX2_isOpen_1 : decode cX2_isOpen 1 = .ok (.bipush 92, 2) := by decide +kernel
theorem dX2_isOpen_3 : decode cX2_isOpen 3 = .ok (.iload_n 1, 1) := by decide +kernel
theorem dX2_isOpen_4 : decode cX2_isOpen 4 = .ok (.invokevirtual 47, 3) := by decide +kernel
theorem dX2_isOpen_7 : decode cX2_isOpen 7 = .ok (.ifCond .ne 7, 3) := by decide +kernel
theorem dX2_isOpen_10 : decode cX2_isOpen 10 = .ok (.iconst 1, 1) := by decide +kernel
theorem dX2_isOpen_11 : decode cX2_isOpen 11 = .ok (.goto 4, 3) := by decide +kernel
theorem dX2_isOpen_14 : decode cX2_isOpen 14 = .ok (.iconst 0, 1) := by decide +kernel
theorem dX2_isOpen_15 : decode cX2_isOpen 15 = .ok (.ireturn, 1) := by decide +kernel
theorem dX2_allows_0 : decode cX2_allows 0 = .ok (.aload_n 0, 1) := by decide +kernel
theorem dX2_allows_1 : decode cX2_allows 1 = .ok (.getfield 15, 3) := by decide +kernel
theorem dX2_allows_4 : decode cX2_allows 4 = .ok (.iconst 1, 1) := by decide +kernel
theorem dX2_allows_5 : decode cX2_allows 5 = .ok (.iload_n 1, 1) := by decide +kernel
theorem dX2_allows_6 : decode cX2_allows 6 = .ok (.ishl, 1) := by decide +kernel
theorem dX2_allows_7 : decode cX2_allows 7 = .ok (.iand, 1) := by decide +kernel
theorem dX2_allows_8 : decode cX2_allows 8 = .ok (.ifCond .eq 7, 3) := by decide +kernel
theorem dX2_allows_11 : decode cX2_allows 11 = .ok (.iconst 1, 1) := by decide +kernel
theorem dX2_allows_12 : decode cX2_allows 12 = .ok (.goto 4, 3) := by decide +kernel
theorem dX2_allows_15 : decode cX2_allows 15 = .ok (.iconst 0, 1) := by decide +kernel
theorem dX2_allows_16 : decode cX2_allows 16 = .ok (.ireturn, 1) := by decide +kernel
theorem dX2_hoursSince_0 : decode cX2_hoursSince 0 = .ok (.aload_n 0, 1) := by decide +kernel
theorem dX2_hoursSince_1 : decode cX2_hoursSince 1 = .ok (.getfield 11, 3) := by decide +kernel
theorem dX2_hoursSince_4 : decode cX2_hoursSince 4 = .ok (.aload_n 0, 1) := by decide +kernel
theorem dX2_hoursSince_5 : decode cX2_hoursSince 5 = .ok (.bipush 80, 2) := by decide +kernel
theorem dX2_hoursSince_7 : decode cX2_hoursSince 7 = .ok (.iload_n 1, 1) := by decide +kernel
theorem dX2_hoursSince_8 : decode cX2_hoursSince 8 = .ok (.invokevirtual 47, 3) := by decide +kernel
theorem dX2_hoursSince_11 : decode cX2_hoursSince 11 = .ok (.isub, 1) := by decide +kernel
theorem dX2_hoursSince_12 : decode cX2_hoursSince 12 = .ok (.ireturn, 1) := by decide +kernel
theorem dX2_oathLeft_0 : decode cX2_oathLeft 0 = .ok (.iconst 0, 1) := by decide +kernel
theorem dX2_oathLeft_1 : decode cX2_oathLeft 1 = .ok (.aload_n 0, 1) := by decide +kernel
theorem dX2_oathLeft_2 : decode cX2_oathLeft 2 = .ok (.bipush 34, 2) := by decide +kernel
theorem dX2_oathLeft_4 : decode cX2_oathLeft 4 = .ok (.iload_n 1, 1) := by decide +kernel
theorem dX2_oathLeft_5 : decode cX2_oathLeft 5 = .ok (.invokevirtual 47, 3) := by decide +kernel
theorem dX2_oathLeft_8 : decode cX2_oathLeft 8 = .ok (.aload_n 0, 1) := by decide +kernel
theorem dX2_oathLeft_9 : decode cX2_oathLeft 9 = .ok (.getfield 11, 3) := by decide +kernel
theorem dX2_oathLeft_12 : decode cX2_oathLeft 12 = .ok (.isub, 1) := by decide +kernel
theorem dX2_oathLeft_13 : decode cX2_oathLeft 13 = .ok (.invokestatic 50, 3) := by decide +kernel
theorem dX2_oathLeft_16 : decode cX2_oathLeft 16 = .ok (.ireturn, 1) := by decide +kernel
theorem dX2_isPoints_0 : decode cX2_isPoints 0 = .ok (.iload_n 0, 1) := by decide +kernel
theorem dX2_isPoints_1 : decode cX2_isPoints 1 = .ok (.ifCond .lt 13, 3) := by decide +kernel
theorem dX2_isPoints_4 : decode cX2_isPoints 4 = .ok (.iload_n 0, 1) := by decide +kernel
theorem dX2_isPoints_5 : decode cX2_isPoints 5 = .ok (.bipush 9, 2) := by decide +kernel
theorem dX2_isPoints_7 : decode cX2_isPoints 7 = .ok (.if_icmp .gt 7, 3) := by decide +kernel
theorem dX2_isPoints_10 : decode cX2_isPoints 10 = .ok (.iconst 1, 1) := by decide +kernel
theorem dX2_isPoints_11 : decode cX2_isPoints 11 = .ok (.goto 4, 3) := by decide +kernel
theorem dX2_isPoints_14 : decode cX2_isPoints 14 = .ok (.iconst 0, 1) := by decide +kernel
theorem dX2_isPoints_15 : decode cX2_isPoints 15 = .ok (.ireturn, 1) := by decide +kernel
theorem dX2_isRank_0 : decode cX2_isRank 0 = .ok (.iload_n 0, 1) := by decide +kernel
theorem dX2_isRank_1 : decode cX2_isRank 1 = .ok (.iconst 1, 1) := by decide +kernel
theorem dX2_isRank_2 : decode cX2_isRank 2 = .ok (.if_icmp .lt 13, 3) := by decide +kernel
theorem dX2_isRank_5 : decode cX2_isRank 5 = .ok (.iload_n 0, 1) := by decide +kernel
theorem dX2_isRank_6 : decode cX2_isRank 6 = .ok (.bipush 9, 2) := by decide +kernel
theorem dX2_isRank_8 : decode cX2_isRank 8 = .ok (.if_icmp .gt 7, 3) := by decide +kernel
theorem dX2_isRank_11 : decode cX2_isRank 11 = .ok (.iconst 1, 1) := by decide +kernel
theorem dX2_isRank_12 : decode cX2_isRank 12 = .ok (.goto 4, 3) := by decide +kernel
theorem dX2_isRank_15 : decode cX2_isRank 15 = .ok (.iconst 0, 1) := by decide +kernel
theorem dX2_isRank_16 : decode cX2_isRank 16 = .ok (.ireturn, 1) := by decide +kernel
theorem dX2_areThese_0 : decode cX2_areThese 0 = .ok (.iload_n 0, 1) := by decide +kernel
theorem dX2_areThese_1 : decode cX2_areThese 1 = .ok (.iload_n 2, 1) := by decide +kernel
theorem dX2_areThese_2 : decode cX2_areThese 2 = .ok (.if_icmp .ne 8, 3) := by decide +kernel
theorem dX2_areThese_5 : decode cX2_areThese 5 = .ok (.iload_n 1, 1) := by decide +kernel
theorem dX2_areThese_6 : decode cX2_areThese 6 = .ok (.iload_n 3, 1) := by decide +kernel
theorem dX2_areThese_7 : decode cX2_areThese 7 = .ok (.if_icmp .eq 13, 3) := by decide +kernel
theorem dX2_areThese_10 : decode cX2_areThese 10 = .ok (.iload_n 0, 1) := by decide +kernel
theorem dX2_areThese_11 : decode cX2_areThese 11 = .ok (.iload_n 3, 1) := by decide +kernel
theorem dX2_areThese_12 : decode cX2_areThese 12 = .ok (.if_icmp .ne 12, 3) := by decide +kernel
theorem dX2_areThese_15 : decode cX2_areThese 15 = .ok (.iload_n 1, 1) := by decide +kernel
theorem dX2_areThese_16 : decode cX2_areThese 16 = .ok (.iload_n 2, 1) := by decide +kernel
theorem dX2_areThese_17 : decode cX2_areThese 17 = .ok (.if_icmp .ne 7, 3) := by decide +kernel
theorem dX2_areThese_20 : decode cX2_areThese 20 = .ok (.iconst 1, 1) := by decide +kernel
theorem dX2_areThese_21 : decode cX2_areThese 21 = .ok (.goto 4, 3) := by decide +kernel
theorem dX2_areThese_24 : decode cX2_areThese 24 = .ok (.iconst 0, 1) := by decide +kernel
theorem dX2_areThese_25 : decode cX2_areThese 25 = .ok (.ireturn, 1) := by decide +kernel
theorem dX2_changeSetting_0 : decode cX2_changeSetting 0 = .ok (.iload_n 1, 1) := by decide +kernel
theorem dX2_changeSetting_1 : decode cX2_changeSetting 1 = .ok (.ifCond .lt 19, 3) := by decide +kernel
theorem dX2_changeSetting_4 : decode cX2_changeSetting 4 = .ok (.iload_n 1, 1) := by decide +kernel
theorem dX2_changeSetting_5 : decode cX2_changeSetting 5 = .ok (.getstatic 53, 3) := by decide +kernel
theorem dX2_changeSetting_8 : decode cX2_changeSetting 8 = .ok (.arraylength, 1) := by decide +kernel
theorem dX2_changeSetting_9 : decode cX2_changeSetting 9 = .ok (.if_icmp .ge 11, 3) := by decide +kernel
theorem dX2_changeSetting_12 : decode cX2_changeSetting 12 = .ok (.iload_n 1, 1) := by decide +kernel
theorem dX2_changeSetting_13 : decode cX2_changeSetting 13 = .ok (.getstatic 56, 3) := by decide +kernel
theorem dX2_changeSetting_16 : decode cX2_changeSetting 16 = .ok (.arraylength, 1) := by decide +kernel
theorem dX2_changeSetting_17 : decode cX2_changeSetting 17 = .ok (.if_icmp .lt 6, 3) := by decide +kernel
theorem dX2_changeSetting_20 : decode cX2_changeSetting 20 = .ok (.bipush (-2), 2) := by decide +kernel
theorem dX2_changeSetting_22 : decode cX2_changeSetting 22 = .ok (.ireturn, 1) := by decide +kernel
theorem dX2_changeSetting_23 : decode cX2_changeSetting 23 = .ok (.iload_n 2, 1) := by decide +kernel
theorem dX2_changeSetting_24 : decode cX2_changeSetting 24 = .ok (.getstatic 53, 3) := by decide +kernel
theorem dX2_changeSetting_27 : decode cX2_changeSetting 27 = .ok (.iload_n 1, 1) := by decide +kernel
theorem dX2_changeSetting_28 : decode cX2_changeSetting 28 = .ok (.iaload, 1) := by decide +kernel
theorem dX2_changeSetting_29 : decode cX2_changeSetting 29 = .ok (.if_icmp .lt 12, 3) := by decide +kernel
theorem dX2_changeSetting_32 : decode cX2_changeSetting 32 = .ok (.iload_n 2, 1) := by decide +kernel
theorem dX2_changeSetting_33 : decode cX2_changeSetting 33 = .ok (.getstatic 56, 3) := by decide +kernel
theorem dX2_changeSetting_36 : decode cX2_changeSetting 36 = .ok (.iload_n 1, 1) := by decide +kernel
theorem dX2_changeSetting_37 : decode cX2_changeSetting 37 = .ok (.iaload, 1) := by decide +kernel
theorem dX2_changeSetting_38 : decode cX2_changeSetting 38 = .ok (.if_icmp .le 6, 3) := by decide +kernel
theorem dX2_changeSetting_41 : decode cX2_changeSetting 41 = .ok (.bipush (-2), 2) := by decide +kernel
theorem dX2_changeSetting_43 : decode cX2_changeSetting 43 = .ok (.ireturn, 1) := by decide +kernel
theorem dX2_changeSetting_44 : decode cX2_changeSetting 44 = .ok (.aload_n 0, 1) := by decide +kernel
theorem dX2_changeSetting_45 : decode cX2_changeSetting 45 = .ok (.iconst 0, 1) := by decide +kernel
theorem dX2_changeSetting_46 : decode cX2_changeSetting 46 = .ok (.iload_n 1, 1) := by decide +kernel
theorem dX2_changeSetting_47 : decode cX2_changeSetting 47 = .ok (.invokevirtual 47, 3) := by decide +kernel
theorem dX2_changeSetting_50 : decode cX2_changeSetting 50 = .ok (.istore_n 3, 1) := by decide +kernel
theorem dX2_changeSetting_51 : decode cX2_changeSetting 51 = .ok (.aload_n 0, 1) := by decide +kernel
theorem dX2_changeSetting_52 : decode cX2_changeSetting 52 = .ok (.iconst 0, 1) := by decide +kernel
theorem dX2_changeSetting_53 : decode cX2_changeSetting 53 = .ok (.iload_n 1, 1) := by decide +kernel
theorem dX2_changeSetting_54 : decode cX2_changeSetting 54 = .ok (.iload_n 2, 1) := by decide +kernel
theorem dX2_changeSetting_55 : decode cX2_changeSetting 55 = .ok (.invokevirtual 31, 3) := by decide +kernel
theorem dX2_changeSetting_58 : decode cX2_changeSetting 58 = .ok (.iload_n 3, 1) := by decide +kernel
theorem dX2_changeSetting_59 : decode cX2_changeSetting 59 = .ok (.ireturn, 1) := by decide +kernel
theorem dX2_addPerson_0 : decode cX2_addPerson 0 = .ok (.iload_n 1, 1) := by decide +kernel
theorem dX2_addPerson_1 : decode cX2_addPerson 1 = .ok (.invokestatic 59, 3) := by decide +kernel
theorem dX2_addPerson_4 : decode cX2_addPerson 4 = .ok (.ifCond .eq 10, 3) := by decide +kernel
theorem dX2_addPerson_7 : decode cX2_addPerson 7 = .ok (.iload_n 2, 1) := by decide +kernel
theorem dX2_addPerson_8 : decode cX2_addPerson 8 = .ok (.invokestatic 59, 3) := by decide +kernel
theorem dX2_addPerson_11 : decode cX2_addPerson 11 = .ok (.ifCond .ne 6, 3) := by decide +kernel
theorem dX2_addPerson_14 : decode cX2_addPerson 14 = .ok (.bipush (-2), 2) := by decide +kernel
theorem dX2_addPerson_16 : decode cX2_addPerson 16 = .ok (.ireturn, 1) := by decide +kernel
theorem dX2_addPerson_17 : decode cX2_addPerson 17 = .ok (.aload_n 0, 1) := by decide +kernel
theorem dX2_addPerson_18 : decode cX2_addPerson 18 = .ok (.getfield 18, 3) := by decide +kernel
theorem dX2_addPerson_21 : decode cX2_addPerson 21 = .ok (.bipush 10, 2) := by decide +kernel
theorem dX2_addPerson_23 : decode cX2_addPerson 23 = .ok (.if_icmp .lt 6, 3) := by decide +kernel
theorem dX2_addPerson_26 : decode cX2_addPerson 26 = .ok (.bipush (-4), 2) := by decide +kernel
theorem dX2_addPerson_28 : decode cX2_addPerson 28 = .ok (.ireturn, 1) := by decide +kernel
theorem dX2_addPerson_29 : decode cX2_addPerson 29 = .ok (.aload_n 0, 1) := by decide +kernel
theorem dX2_addPerson_30 : decode cX2_addPerson 30 = .ok (.getfield 18, 3) := by decide +kernel
theorem dX2_addPerson_33 : decode cX2_addPerson 33 = .ok (.istore_n 3, 1) := by decide +kernel
theorem dX2_addPerson_34 : decode cX2_addPerson 34 = .ok (.aload_n 0, 1) := by decide +kernel
theorem dX2_addPerson_35 : decode cX2_addPerson 35 = .ok (.iconst 4, 1) := by decide +kernel
theorem dX2_addPerson_36 : decode cX2_addPerson 36 = .ok (.iload_n 3, 1) := by decide +kernel
theorem dX2_addPerson_37 : decode cX2_addPerson 37 = .ok (.iload_n 1, 1) := by decide +kernel
theorem dX2_addPerson_38 : decode cX2_addPerson 38 = .ok (.invokevirtual 31, 3) := by decide +kernel
theorem dX2_addPerson_41 : decode cX2_addPerson 41 = .ok (.aload_n 0, 1) := by decide +kernel
theorem dX2_addPerson_42 : decode cX2_addPerson 42 = .ok (.bipush 14, 2) := by decide +kernel
theorem dX2_addPerson_44 : decode cX2_addPerson 44 = .ok (.iload_n 3, 1) := by decide +kernel
theorem dX2_addPerson_45 : decode cX2_addPerson 45 = .ok (.iload_n 2, 1) := by decide +kernel
theorem dX2_addPerson_46 : decode cX2_addPerson 46 = .ok (.invokevirtual 31, 3) := by decide +kernel
theorem dX2_addPerson_49 : decode cX2_addPerson 49 = .ok (.aload_n 0, 1) := by decide +kernel
theorem dX2_addPerson_50 : decode cX2_addPerson 50 = .ok (.bipush 24, 2) := by decide +kernel
theorem dX2_addPerson_52 : decode cX2_addPerson 52 = .ok (.iload_n 3, 1) := by decide +kernel
theorem dX2_addPerson_53 : decode cX2_addPerson 53 = .ok (.bipush (-6), 2) := by decide +kernel
theorem dX2_addPerson_55 : decode cX2_addPerson 55 = .ok (.invokevirtual 31, 3) := by decide +kernel
theorem dX2_addPerson_58 : decode cX2_addPerson 58 = .ok (.aload_n 0, 1) := by decide +kernel
theorem dX2_addPerson_59 : decode cX2_addPerson 59 = .ok (.bipush 34, 2) := by decide +kernel
theorem dX2_addPerson_61 : decode cX2_addPerson 61 = .ok (.iload_n 3, 1) := by decide +kernel
theorem dX2_addPerson_62 : decode cX2_addPerson 62 = .ok (.iconst 0, 1) := by decide +kernel
theorem dX2_addPerson_63 : decode cX2_addPerson 63 = .ok (.invokevirtual 31, 3) := by decide +kernel
theorem dX2_addPerson_66 : decode cX2_addPerson 66 = .ok (.aload_n 0, 1) := by decide +kernel
theorem dX2_addPerson_67 : decode cX2_addPerson 67 = .ok (.dup, 1) := by decide +kernel
theorem dX2_addPerson_68 : decode cX2_addPerson 68 = .ok (.getfield 18, 3) := by decide +kernel
theorem dX2_addPerson_71 : decode cX2_addPerson 71 = .ok (.iconst 1, 1) := by decide +kernel
theorem dX2_addPerson_72 : decode cX2_addPerson 72 = .ok (.iadd, 1) := by decide +kernel
theorem dX2_addPerson_73 : decode cX2_addPerson 73 = .ok (.putfield 18, 3) := by decide +kernel
theorem dX2_addPerson_76 : decode cX2_addPerson 76 = .ok (.iload_n 3, 1) := by decide +kernel
theorem dX2_addPerson_77 : decode cX2_addPerson 77 = .ok (.ireturn, 1) := by decide +kernel
theorem dX2_takeSecond_0 : decode cX2_takeSecond 0 = .ok (.aload_n 0, 1) := by decide +kernel
theorem dX2_takeSecond_1 : decode cX2_takeSecond 1 = .ok (.iload_n 1, 1) := by decide +kernel
theorem dX2_takeSecond_2 : decode cX2_takeSecond 2 = .ok (.invokevirtual 63, 3) := by decide +kernel
theorem dX2_takeSecond_5 : decode cX2_takeSecond 5 = .ok (.ifCond .eq 11, 3) := by decide +kernel
theorem dX2_takeSecond_8 : decode cX2_takeSecond 8 = .ok (.aload_n 0, 1) := by decide +kernel
theorem dX2_takeSecond_9 : decode cX2_takeSecond 9 = .ok (.iload_n 2, 1) := by decide +kernel
theorem dX2_takeSecond_10 : decode cX2_takeSecond 10 = .ok (.invokevirtual 63, 3) := by decide +kernel
theorem dX2_takeSecond_13 : decode cX2_takeSecond 13 = .ok (.ifCond .ne 5, 3) := by decide +kernel
theorem dX2_takeSecond_16 : decode cX2_takeSecond 16 = .ok (.iconst (-1), 1) := by decide +kernel
theorem dX2_takeSecond_17 : decode cX2_takeSecond 17 = .ok (.ireturn, 1) := by decide +kernel
theorem dX2_takeSecond_18 : decode cX2_takeSecond 18 = .ok (.iload_n 1, 1) := by decide +kernel
theorem dX2_takeSecond_19 : decode cX2_takeSecond 19 = .ok (.iload_n 2, 1) := by decide +kernel
theorem dX2_takeSecond_20 : decode cX2_takeSecond 20 = .ok (.if_icmp .ne 6, 3) := by decide +kernel
theorem dX2_takeSecond_23 : decode cX2_takeSecond 23 = .ok (.bipush (-2), 2) := by decide +kernel
theorem dX2_takeSecond_25 : decode cX2_takeSecond 25 = .ok (.ireturn, 1) := by decide +kernel
theorem dX2_takeSecond_26 : decode cX2_takeSecond 26 = .ok (.aload_n 0, 1) := by decide +kernel
theorem dX2_takeSecond_27 : decode cX2_takeSecond 27 = .ok (.bipush 24, 2) := by decide +kernel
theorem dX2_takeSecond_29 : decode cX2_takeSecond 29 = .ok (.iload_n 1, 1) := by decide +kernel
theorem dX2_takeSecond_30 : decode cX2_takeSecond 30 = .ok (.invokevirtual 47, 3) := by decide +kernel
theorem dX2_takeSecond_33 : decode cX2_takeSecond 33 = .ok (.istore_n 3, 1) := by decide +kernel
theorem dX2_takeSecond_34 : decode cX2_takeSecond 34 = .ok (.aload_n 0, 1) := by decide +kernel
theorem dX2_takeSecond_35 : decode cX2_takeSecond 35 = .ok (.bipush 24, 2) := by decide +kernel
theorem dX2_takeSecond_37 : decode cX2_takeSecond 37 = .ok (.iload_n 1, 1) := by decide +kernel
theorem dX2_takeSecond_38 : decode cX2_takeSecond 38 = .ok (.iload_n 2, 1) := by decide +kernel
theorem dX2_takeSecond_39 : decode cX2_takeSecond 39 = .ok (.invokevirtual 31, 3) := by decide +kernel
theorem dX2_takeSecond_42 : decode cX2_takeSecond 42 = .ok (.iload_n 3, 1) := by decide +kernel
theorem dX2_takeSecond_43 : decode cX2_takeSecond 43 = .ok (.ireturn, 1) := by decide +kernel
theorem dX2_allowOrBar_0 : decode cX2_allowOrBar 0 = .ok (.iload_n 1, 1) := by decide +kernel
theorem dX2_allowOrBar_1 : decode cX2_allowOrBar 1 = .ok (.ifCond .lt 8, 3) := by decide +kernel
theorem dX2_allowOrBar_4 : decode cX2_allowOrBar 4 = .ok (.iload_n 1, 1) := by decide +kernel
theorem dX2_allowOrBar_5 : decode cX2_allowOrBar 5 = .ok (.iconst 5, 1) := by decide +kernel
theorem dX2_allowOrBar_6 : decode cX2_allowOrBar 6 = .ok (.if_icmp .lt 5, 3) := by decide +kernel
theorem dX2_allowOrBar_9 : decode cX2_allowOrBar 9 = .ok (.iconst (-1), 1) := by decide +kernel
theorem dX2_allowOrBar_10 : decode cX2_allowOrBar 10 = .ok (.ireturn, 1) := by decide +kernel
theorem dX2_allowOrBar_11 : decode cX2_allowOrBar 11 = .ok (.aload_n 0, 1) := by decide +kernel
theorem dX2_allowOrBar_12 : decode cX2_allowOrBar 12 = .ok (.dup, 1) := by decide +kernel
theorem dX2_allowOrBar_13 : decode cX2_allowOrBar 13 = .ok (.getfield 15, 3) := by decide +kernel
theorem dX2_allowOrBar_16 : decode cX2_allowOrBar 16 = .ok (.iconst 1, 1) := by decide +kernel
theorem dX2_allowOrBar_17 : decode cX2_allowOrBar 17 = .ok (.iload_n 1, 1) := by decide +kernel
theorem dX2_allowOrBar_18 : decode cX2_allowOrBar 18 = .ok (.ishl, 1) := by decide +kernel
theorem dX2_allowOrBar_19 : decode cX2_allowOrBar 19 = .ok (.ixor, 1) := by decide +kernel
theorem dX2_allowOrBar_20 : decode cX2_allowOrBar 20 = .ok (.putfield 15, 3) := by decide +kernel
theorem dX2_allowOrBar_23 : decode cX2_allowOrBar 23 = .ok (.aload_n 0, 1) := by decide +kernel
theorem dX2_allowOrBar_24 : decode cX2_allowOrBar 24 = .ok (.getfield 15, 3) := by decide +kernel
theorem dX2_allowOrBar_27 : decode cX2_allowOrBar 27 = .ok (.ireturn, 1) := by decide +kernel
theorem dX2_errorOfInsult_0 : decode cX2_errorOfInsult 0 = .ok (.aload_n 0, 1) := by decide +kernel
theorem dX2_errorOfInsult_1 : decode cX2_errorOfInsult 1 = .ok (.iload_n 1, 1) := by decide +kernel
theorem dX2_errorOfInsult_2 : decode cX2_errorOfInsult 2 = .ok (.invokevirtual 63, 3) := by decide +kernel
theorem dX2_errorOfInsult_5 : decode cX2_errorOfInsult 5 = .ok (.ifCond .eq 11, 3) := by decide +kernel
theorem dX2_errorOfInsult_8 : decode cX2_errorOfInsult 8 = .ok (.aload_n 0, 1) := by decide +kernel
theorem dX2_errorOfInsult_9 : decode cX2_errorOfInsult 9 = .ok (.iload_n 2, 1) := by decide +kernel
theorem dX2_errorOfInsult_10 : decode cX2_errorOfInsult 10 = .ok (.invokevirtual 63, 3) := by decide +kernel
theorem dX2_errorOfInsult_13 : decode cX2_errorOfInsult 13 = .ok (.ifCond .ne 5, 3) := by decide +kernel
theorem dX2_errorOfInsult_16 : decode cX2_errorOfInsult 16 = .ok (.iconst (-1), 1) := by decide +kernel
theorem dX2_errorOfInsult_17 : decode cX2_errorOfInsult 17 = .ok (.ireturn, 1) := by decide +kernel
theorem dX2_errorOfInsult_18 : decode cX2_errorOfInsult 18 = .ok (.iload_n 1, 1) := by decide +kernel
theorem dX2_errorOfInsult_19 : decode cX2_errorOfInsult 19 = .ok (.iload_n 2, 1) := by decide +kernel
theorem dX2_errorOfInsult_20 : decode cX2_errorOfInsult 20 = .ok (.if_icmp .eq 10, 3) := by decide +kernel
theorem dX2_errorOfInsult_23 : decode cX2_errorOfInsult 23 = .ok (.iload_n 3, 1) := by decide +kernel
theorem dX2_errorOfInsult_24 : decode cX2_errorOfInsult 24 = .ok (.invokestatic 66, 3) := by decide +kernel
theorem dX2_errorOfInsult_27 : decode cX2_errorOfInsult 27 = .ok (.ifCond .ne 8, 3) := by decide +kernel
theorem dX2_errorOfInsult_30 : decode cX2_errorOfInsult 30 = .ok (.bipush (-2), 2) := by decide +kernel
theorem dX2_errorOfInsult_32 : decode cX2_errorOfInsult 32 = .ok (.goto 4, 3) := by decide +kernel
theorem dX2_errorOfInsult_35 : decode cX2_errorOfInsult 35 = .ok (.iconst 0, 1) := by decide +kernel
theorem dX2_errorOfInsult_36 : decode cX2_errorOfInsult 36 = .ok (.ireturn, 1) := by decide +kernel
theorem dX2_haveOpenQuarrel_0 : decode cX2_haveOpenQuarrel 0 = .ok (.iconst 0, 1) := by decide +kernel
theorem dX2_haveOpenQuarrel_1 : decode cX2_haveOpenQuarrel 1 = .ok (.istore_n 3, 1) := by decide +kernel
theorem dX2_haveOpenQuarrel_2 : decode cX2_haveOpenQuarrel 2 = .ok (.iload_n 3, 1) := by decide +kernel
theorem dX2_haveOpenQuarrel_3 : decode cX2_haveOpenQuarrel 3 = .ok (.aload_n 0, 1) := by decide +kernel
theorem dX2_haveOpenQuarrel_4 : decode cX2_haveOpenQuarrel 4 = .ok (.getfield 21, 3) := by decide +kernel
theorem dX2_haveOpenQuarrel_7 : decode cX2_haveOpenQuarrel 7 = .ok (.if_icmp .ge 41, 3) := by decide +kernel
theorem dX2_haveOpenQuarrel_10 : decode cX2_haveOpenQuarrel 10 = .ok (.aload_n 0, 1) := by decide +kernel
theorem dX2_haveOpenQuarrel_11 : decode cX2_haveOpenQuarrel 11 = .ok (.iload_n 3, 1) := by decide +kernel
theorem dX2_haveOpenQuarrel_12 : decode cX2_haveOpenQuarrel 12 = .ok (.invokevirtual 69, 3) := by decide +kernel
theorem dX2_haveOpenQuarrel_15 : decode cX2_haveOpenQuarrel 15 = .ok (.ifCond .eq 27, 3) := by decide +kernel
theorem dX2_haveOpenQuarrel_18 : decode cX2_haveOpenQuarrel 18 = .ok (.iload_n 1, 1) := by decide +kernel
theorem dX2_haveOpenQuarrel_19 : decode cX2_haveOpenQuarrel 19 = .ok (.iload_n 2, 1) := by decide +kernel
theorem dX2_haveOpenQuarrel_20 : decode cX2_haveOpenQuarrel 20 = .ok (.aload_n 0, 1) := by decide +kernel
theorem dX2_haveOpenQuarrel_21 : decode cX2_haveOpenQuarrel 21 = .ok (.bipush 44, 2) := by decide +kernel
theorem dX2_haveOpenQuarrel_23 : decode cX2_haveOpenQuarrel 23 = .ok (.iload_n 3, 1) := by decide +kernel
theorem dX2_haveOpenQuarrel_24 : decode cX2_haveOpenQuarrel 24 = .ok (.invokevirtual 47, 3) := by decide +kernel
theorem dX2_haveOpenQuarrel_27 : decode cX2_haveOpenQuarrel 27 = .ok (.aload_n 0, 1) := by decide +kernel
theorem dX2_haveOpenQuarrel_28 : decode cX2_haveOpenQuarrel 28 = .ok (.bipush 56, 2) := by decide +kernel
theorem dX2_haveOpenQuarrel_30 : decode cX2_haveOpenQuarrel 30 = .ok (.iload_n 3, 1) := by decide +kernel
theorem dX2_haveOpenQuarrel_31 : decode cX2_haveOpenQuarrel 31 = .ok (.invokevirtual 47, 3) := by decide +kernel
theorem dX2_haveOpenQuarrel_34 : decode cX2_haveOpenQuarrel 34 = .ok (.invokestatic 72, 3) := by decide +kernel
theorem dX2_haveOpenQuarrel_37 : decode cX2_haveOpenQuarrel 37 = .ok (.ifCond .eq 5, 3) := by decide +kernel
theorem dX2_haveOpenQuarrel_40 : decode cX2_haveOpenQuarrel 40 = .ok (.iconst 1, 1) := by decide +kernel
theorem dX2_haveOpenQuarrel_41 : decode cX2_haveOpenQuarrel 41 = .ok (.ireturn, 1) := by decide +kernel
theorem dX2_haveOpenQuarrel_42 : decode cX2_haveOpenQuarrel 42 = .ok (.iinc 3 1, 3) := by decide +kernel
theorem dX2_haveOpenQuarrel_45 : decode cX2_haveOpenQuarrel 45 = .ok (.goto (-43), 3) := by decide +kernel
theorem dX2_haveOpenQuarrel_48 : decode cX2_haveOpenQuarrel 48 = .ok (.iconst 0, 1) := by decide +kernel
theorem dX2_haveOpenQuarrel_49 : decode cX2_haveOpenQuarrel 49 = .ok (.ireturn, 1) := by decide +kernel
theorem dX2_addQuarrel_0 : decode cX2_addQuarrel 0 = .ok (.aload_n 0, 1) := by decide +kernel
theorem dX2_addQuarrel_1 : decode cX2_addQuarrel 1 = .ok (.iload_n 1, 1) := by decide +kernel
theorem dX2_addQuarrel_2 : decode cX2_addQuarrel 2 = .ok (.iload_n 2, 1) := by decide +kernel
theorem dX2_addQuarrel_3 : decode cX2_addQuarrel 3 = .ok (.iload_n 3, 1) := by decide +kernel
theorem dX2_addQuarrel_4 : decode cX2_addQuarrel 4 = .ok (.invokevirtual 76, 3) := by decide +kernel
theorem dX2_addQuarrel_7 : decode cX2_addQuarrel 7 = .ok (.istore 4, 2) := by decide +kernel
theorem dX2_addQuarrel_9 : decode cX2_addQuarrel 9 = .ok (.iload 4, 2) := by decide +kernel
theorem dX2_addQuarrel_11 : decode cX2_addQuarrel 11 = .ok (.ifCond .eq 6, 3) := by decide +kernel
theorem dX2_addQuarrel_14 : decode cX2_addQuarrel 14 = .ok (.iload 4, 2) := by decide +kernel
theorem dX2_addQuarrel_16 : decode cX2_addQuarrel 16 = .ok (.ireturn, 1) := by decide +kernel
theorem dX2_addQuarrel_17 : decode cX2_addQuarrel 17 = .ok (.aload_n 0, 1) := by decide +kernel
theorem dX2_addQuarrel_18 : decode cX2_addQuarrel 18 = .ok (.iload_n 1, 1) := by decide +kernel
theorem dX2_addQuarrel_19 : decode cX2_addQuarrel 19 = .ok (.iload_n 2, 1) := by decide +kernel
theorem dX2_addQuarrel_20 : decode cX2_addQuarrel 20 = .ok (.invokevirtual 80, 3) := by decide +kernel
theorem dX2_addQuarrel_23 : decode cX2_addQuarrel 23 = .ok (.ifCond .eq 6, 3) := by decide +kernel
theorem dX2_addQuarrel_26 : decode cX2_addQuarrel 26 = .ok (.bipush (-5), 2) := by decide +kernel
theorem dX2_addQuarrel_28 : decode cX2_addQuarrel 28 = .ok (.ireturn, 1) := by decide +kernel
theorem dX2_addQuarrel_29 : decode cX2_addQuarrel 29 = .ok (.aload_n 0, 1) := by decide +kernel
theorem dX2_addQuarrel_30 : decode cX2_addQuarrel 30 = .ok (.getfield 21, 3) := by decide +kernel
theorem dX2_addQuarrel_33 : decode cX2_addQuarrel 33 = .ok (.bipush 12, 2) := by decide +kernel
theorem dX2_addQuarrel_35 : decode cX2_addQuarrel 35 = .ok (.if_icmp .lt 6, 3) := by decide +kernel
theorem dX2_addQuarrel_38 : decode cX2_addQuarrel 38 = .ok (.bipush (-4), 2) := by decide +kernel
theorem dX2_addQuarrel_40 : decode cX2_addQuarrel 40 = .ok (.ireturn, 1) := by decide +kernel
theorem dX2_addQuarrel_41 : decode cX2_addQuarrel 41 = .ok (.aload_n 0, 1) := by decide +kernel
theorem dX2_addQuarrel_42 : decode cX2_addQuarrel 42 = .ok (.getfield 21, 3) := by decide +kernel
theorem dX2_addQuarrel_45 : decode cX2_addQuarrel 45 = .ok (.istore 5, 2) := by decide +kernel
theorem dX2_addQuarrel_47 : decode cX2_addQuarrel 47 = .ok (.aload_n 0, 1) := by decide +kernel
theorem dX2_addQuarrel_48 : decode cX2_addQuarrel 48 = .ok (.bipush 44, 2) := by decide +kernel
theorem dX2_addQuarrel_50 : decode cX2_addQuarrel 50 = .ok (.iload 5, 2) := by decide +kernel
theorem dX2_addQuarrel_52 : decode cX2_addQuarrel 52 = .ok (.iload_n 1, 1) := by decide +kernel
theorem dX2_addQuarrel_53 : decode cX2_addQuarrel 53 = .ok (.invokevirtual 31, 3) := by decide +kernel
theorem dX2_addQuarrel_56 : decode cX2_addQuarrel 56 = .ok (.aload_n 0, 1) := by decide +kernel
theorem dX2_addQuarrel_57 : decode cX2_addQuarrel 57 = .ok (.bipush 56, 2) := by decide +kernel
theorem dX2_addQuarrel_59 : decode cX2_addQuarrel 59 = .ok (.iload 5, 2) := by decide +kernel
theorem dX2_addQuarrel_61 : decode cX2_addQuarrel 61 = .ok (.iload_n 2, 1) := by decide +kernel
theorem dX2_addQuarrel_62 : decode cX2_addQuarrel 62 = .ok (.invokevirtual 31, 3) := by decide +kernel
theorem dX2_addQuarrel_65 : decode cX2_addQuarrel 65 = .ok (.aload_n 0, 1) := by decide +kernel
theorem dX2_addQuarrel_66 : decode cX2_addQuarrel 66 = .ok (.bipush 68, 2) := by decide +kernel
theorem dX2_addQuarrel_68 : decode cX2_addQuarrel 68 = .ok (.iload 5, 2) := by decide +kernel
theorem dX2_addQuarrel_70 : decode cX2_addQuarrel 70 = .ok (.iload_n 3, 1) := by decide +kernel
theorem dX2_addQuarrel_71 : decode cX2_addQuarrel 71 = .ok (.invokevirtual 31, 3) := by decide +kernel
theorem dX2_addQuarrel_74 : decode cX2_addQuarrel 74 = .ok (.aload_n 0, 1) := by decide +kernel
theorem dX2_addQuarrel_75 : decode cX2_addQuarrel 75 = .ok (.bipush 80, 2) := by decide +kernel
theorem dX2_addQuarrel_77 : decode cX2_addQuarrel 77 = .ok (.iload 5, 2) := by decide +kernel
theorem dX2_addQuarrel_79 : decode cX2_addQuarrel 79 = .ok (.aload_n 0, 1) := by decide +kernel
theorem dX2_addQuarrel_80 : decode cX2_addQuarrel 80 = .ok (.getfield 11, 3) := by decide +kernel
theorem dX2_addQuarrel_83 : decode cX2_addQuarrel 83 = .ok (.invokevirtual 31, 3) := by decide +kernel
theorem dX2_addQuarrel_86 : decode cX2_addQuarrel 86 = .ok (.aload_n 0, 1) := by decide +kernel
theorem dX2_addQuarrel_87 : decode cX2_addQuarrel 87 = .ok (.bipush 92, 2) := by decide +kernel
theorem dX2_addQuarrel_89 : decode cX2_addQuarrel 89 = .ok (.iload 5, 2) := by decide +kernel
theorem dX2_addQuarrel_91 : decode cX2_addQuarrel 91 = .ok (.iconst 0, 1) := by decide +kernel
theorem dX2_addQuarrel_92 : decode cX2_addQuarrel 92 = .ok (.invokevirtual 31, 3) := by decide +kernel
theorem dX2_addQuarrel_95 : decode cX2_addQuarrel 95 = .ok (.aload_n 0, 1) := by decide +kernel
theorem dX2_addQuarrel_96 : decode cX2_addQuarrel 96 = .ok (.bipush 104, 2) := by decide +kernel
theorem dX2_addQuarrel_98 : decode cX2_addQuarrel 98 = .ok (.iload 5, 2) := by decide +kernel
theorem dX2_addQuarrel_100 : decode cX2_addQuarrel 100 = .ok (.bipush (-6), 2) := by decide +kernel
theorem dX2_addQuarrel_102 : decode cX2_addQuarrel 102 = .ok (.invokevirtual 31, 3) := by decide +kernel
theorem dX2_addQuarrel_105 : decode cX2_addQuarrel 105 = .ok (.aload_n 0, 1) := by decide +kernel
theorem dX2_addQuarrel_106 : decode cX2_addQuarrel 106 = .ok (.bipush 116, 2) := by decide +kernel
theorem dX2_addQuarrel_108 : decode cX2_addQuarrel 108 = .ok (.iload 5, 2) := by decide +kernel
theorem dX2_addQuarrel_110 : decode cX2_addQuarrel 110 = .ok (.iconst 0, 1) := by decide +kernel
theorem dX2_addQuarrel_111 : decode cX2_addQuarrel 111 = .ok (.invokevirtual 31, 3) := by decide +kernel
theorem dX2_addQuarrel_114 : decode cX2_addQuarrel 114 = .ok (.aload_n 0, 1) := by decide +kernel
theorem dX2_addQuarrel_115 : decode cX2_addQuarrel 115 = .ok (.sipush 128, 3) := by decide +kernel
theorem dX2_addQuarrel_118 : decode cX2_addQuarrel 118 = .ok (.iload 5, 2) := by decide +kernel
theorem dX2_addQuarrel_120 : decode cX2_addQuarrel 120 = .ok (.bipush (-6), 2) := by decide +kernel
theorem dX2_addQuarrel_122 : decode cX2_addQuarrel 122 = .ok (.invokevirtual 31, 3) := by decide +kernel
theorem dX2_addQuarrel_125 : decode cX2_addQuarrel 125 = .ok (.aload_n 0, 1) := by decide +kernel
theorem dX2_addQuarrel_126 : decode cX2_addQuarrel 126 = .ok (.dup, 1) := by decide +kernel
theorem dX2_addQuarrel_127 : decode cX2_addQuarrel 127 = .ok (.getfield 21, 3) := by decide +kernel
theorem dX2_addQuarrel_130 : decode cX2_addQuarrel 130 = .ok (.iconst 1, 1) := by decide +kernel
theorem dX2_addQuarrel_131 : decode cX2_addQuarrel 131 = .ok (.iadd, 1) := by decide +kernel
theorem dX2_addQuarrel_132 : decode cX2_addQuarrel 132 = .ok (.putfield 21, 3) := by decide +kernel
theorem dX2_addQuarrel_135 : decode cX2_addQuarrel 135 = .ok (.aload_n 0, 1) := by decide +kernel
theorem dX2_addQuarrel_136 : decode cX2_addQuarrel 136 = .ok (.iconst 0, 1) := by decide +kernel
theorem dX2_addQuarrel_137 : decode cX2_addQuarrel 137 = .ok (.iload 5, 2) := by decide +kernel
theorem dX2_addQuarrel_139 : decode cX2_addQuarrel 139 = .ok (.invokevirtual 84, 3) := by decide +kernel
theorem dX2_addQuarrel_142 : decode cX2_addQuarrel 142 = .ok (.iload 5, 2) := by decide +kernel
theorem dX2_addQuarrel_144 : decode cX2_addQuarrel 144 = .ok (.ireturn, 1) := by decide +kernel
theorem dX2_settleBy_0 : decode cX2_settleBy 0 = .ok (.aload_n 0, 1) := by decide +kernel
theorem dX2_settleBy_1 : decode cX2_settleBy 1 = .ok (.iload_n 1, 1) := by decide +kernel
theorem dX2_settleBy_2 : decode cX2_settleBy 2 = .ok (.invokevirtual 88, 3) := by decide +kernel
theorem dX2_settleBy_5 : decode cX2_settleBy 5 = .ok (.ifCond .eq 12, 3) := by decide +kernel
theorem dX2_settleBy_8 : decode cX2_settleBy 8 = .ok (.iload_n 2, 1) := by decide +kernel
theorem dX2_settleBy_9 : decode cX2_settleBy 9 = .ok (.ifCond .lt 8, 3) := by decide +kernel
theorem dX2_settleBy_12 : decode cX2_settleBy 12 = .ok (.iload_n 2, 1) := by decide +kernel
theorem dX2_settleBy_13 : decode cX2_settleBy 13 = .ok (.iconst 5, 1) := by decide +kernel
theorem dX2_settleBy_14 : decode cX2_settleBy 14 = .ok (.if_icmp .lt 5, 3) := by decide +kernel
theorem dX2_settleBy_17 : decode cX2_settleBy 17 = .ok (.iconst (-1), 1) := by decide +kernel
theorem dX2_settleBy_18 : decode cX2_settleBy 18 = .ok (.ireturn, 1) := by decide +kernel
theorem dX2_settleBy_19 : decode cX2_settleBy 19 = .ok (.aload_n 0, 1) := by decide +kernel
theorem dX2_settleBy_20 : decode cX2_settleBy 20 = .ok (.iload_n 1, 1) := by decide +kernel
theorem dX2_settleBy_21 : decode cX2_settleBy 21 = .ok (.invokevirtual 91, 3) := by decide +kernel
theorem dX2_settleBy_24 : decode cX2_settleBy 24 = .ok (.iconst 1, 1) := by decide +kernel
theorem dX2_settleBy_25 : decode cX2_settleBy 25 = .ok (.iload_n 2, 1) := by decide +kernel
theorem dX2_settleBy_26 : decode cX2_settleBy 26 = .ok (.ishl, 1) := by decide +kernel
theorem dX2_settleBy_27 : decode cX2_settleBy 27 = .ok (.iand, 1) := by decide +kernel
theorem dX2_settleBy_28 : decode cX2_settleBy 28 = .ok (.ifCond .ne 6, 3) := by decide +kernel
theorem dX2_settleBy_31 : decode cX2_settleBy 31 = .ok (.bipush (-5), 2) := by decide +kernel
theorem dX2_settleBy_33 : decode cX2_settleBy 33 = .ok (.ireturn, 1) := by decide +kernel
theorem dX2_settleBy_34 : decode cX2_settleBy 34 = .ok (.iload_n 2, 1) := by decide +kernel
theorem dX2_settleBy_35 : decode cX2_settleBy 35 = .ok (.ifCond .ne 19, 3) := by decide +kernel
theorem dX2_settleBy_38 : decode cX2_settleBy 38 = .ok (.aload_n 0, 1) := by decide +kernel
theorem dX2_settleBy_39 : decode cX2_settleBy 39 = .ok (.iconst 4, 1) := by decide +kernel
theorem dX2_settleBy_40 : decode cX2_settleBy 40 = .ok (.aload_n 0, 1) := by decide +kernel
theorem dX2_settleBy_41 : decode cX2_settleBy 41 = .ok (.bipush 44, 2) := by decide +kernel
theorem dX2_settleBy_43 : decode cX2_settleBy 43 = .ok (.iload_n 1, 1) := by decide +kernel
theorem dX2_settleBy_44 : decode cX2_settleBy 44 = .ok (.invokevirtual 47, 3) := by decide +kernel
theorem dX2_settleBy_47 : decode cX2_settleBy 47 = .ok (.iconst (-1), 1) := by decide +kernel
theorem dX2_settleBy_48 : decode cX2_settleBy 48 = .ok (.invokevirtual 95, 3) := by decide +kernel
theorem dX2_settleBy_51 : decode cX2_settleBy 51 = .ok (.goto 48, 3) := by decide +kernel
theorem dX2_settleBy_54 : decode cX2_settleBy 54 = .ok (.iload_n 2, 1) := by decide +kernel
theorem dX2_settleBy_55 : decode cX2_settleBy 55 = .ok (.iconst 1, 1) := by decide +kernel
theorem dX2_settleBy_56 : decode cX2_settleBy 56 = .ok (.if_icmp .ne 43, 3) := by decide +kernel
theorem dX2_settleBy_59 : decode cX2_settleBy 59 = .ok (.aload_n 0, 1) := by decide +kernel
theorem dX2_settleBy_60 : decode cX2_settleBy 60 = .ok (.bipush 14, 2) := by decide +kernel
theorem dX2_settleBy_62 : decode cX2_settleBy 62 = .ok (.aload_n 0, 1) := by decide +kernel
theorem dX2_settleBy_63 : decode cX2_settleBy 63 = .ok (.bipush 24, 2) := by decide +kernel
theorem dX2_settleBy_65 : decode cX2_settleBy 65 = .ok (.aload_n 0, 1) := by decide +kernel
theorem dX2_settleBy_66 : decode cX2_settleBy 66 = .ok (.bipush 44, 2) := by decide +kernel
theorem dX2_settleBy_68 : decode cX2_settleBy 68 = .ok (.iload_n 1, 1) := by decide +kernel
theorem dX2_settleBy_69 : decode cX2_settleBy 69 = .ok (.invokevirtual 47, 3) := by decide +kernel
theorem dX2_settleBy_72 : decode cX2_settleBy 72 = .ok (.invokevirtual 47, 3) := by decide +kernel
theorem dX2_settleBy_75 : decode cX2_settleBy 75 = .ok (.iconst 1, 1) := by decide +kernel
theorem dX2_settleBy_76 : decode cX2_settleBy 76 = .ok (.invokevirtual 95, 3) := by decide +kernel
theorem dX2_settleBy_79 : decode cX2_settleBy 79 = .ok (.aload_n 0, 1) := by decide +kernel
theorem dX2_settleBy_80 : decode cX2_settleBy 80 = .ok (.bipush 14, 2) := by decide +kernel
theorem dX2_settleBy_82 : decode cX2_settleBy 82 = .ok (.aload_n 0, 1) := by decide +kernel
theorem dX2_settleBy_83 : decode cX2_settleBy 83 = .ok (.bipush 24, 2) := by decide +kernel
theorem dX2_settleBy_85 : decode cX2_settleBy 85 = .ok (.aload_n 0, 1) := by decide +kernel
theorem dX2_settleBy_86 : decode cX2_settleBy 86 = .ok (.bipush 56, 2) := by decide +kernel
theorem dX2_settleBy_88 : decode cX2_settleBy 88 = .ok (.iload_n 1, 1) := by decide +kernel
theorem dX2_settleBy_89 : decode cX2_settleBy 89 = .ok (.invokevirtual 47, 3) := by decide +kernel
theorem dX2_settleBy_92 : decode cX2_settleBy 92 = .ok (.invokevirtual 47, 3) := by decide +kernel
theorem dX2_settleBy_95 : decode cX2_settleBy 95 = .ok (.iconst 1, 1) := by decide +kernel
theorem dX2_settleBy_96 : decode cX2_settleBy 96 = .ok (.invokevirtual 95, 3) := by decide +kernel
theorem dX2_settleBy_99 : decode cX2_settleBy 99 = .ok (.aload_n 0, 1) := by decide +kernel
theorem dX2_settleBy_100 : decode cX2_settleBy 100 = .ok (.bipush 92, 2) := by decide +kernel
theorem dX2_settleBy_102 : decode cX2_settleBy 102 = .ok (.iload_n 1, 1) := by decide +kernel
theorem dX2_settleBy_103 : decode cX2_settleBy 103 = .ok (.iconst 1, 1) := by decide +kernel
theorem dX2_settleBy_104 : decode cX2_settleBy 104 = .ok (.invokevirtual 31, 3) := by decide +kernel
theorem dX2_settleBy_107 : decode cX2_settleBy 107 = .ok (.aload_n 0, 1) := by decide +kernel
theorem dX2_settleBy_108 : decode cX2_settleBy 108 = .ok (.bipush 104, 2) := by decide +kernel
theorem dX2_settleBy_110 : decode cX2_settleBy 110 = .ok (.iload_n 1, 1) := by decide +kernel
theorem dX2_settleBy_111 : decode cX2_settleBy 111 = .ok (.iload_n 2, 1) := by decide +kernel
theorem dX2_settleBy_112 : decode cX2_settleBy 112 = .ok (.invokevirtual 31, 3) := by decide +kernel
theorem dX2_settleBy_115 : decode cX2_settleBy 115 = .ok (.aload_n 0, 1) := by decide +kernel
theorem dX2_settleBy_116 : decode cX2_settleBy 116 = .ok (.bipush 116, 2) := by decide +kernel
theorem dX2_settleBy_118 : decode cX2_settleBy 118 = .ok (.iload_n 1, 1) := by decide +kernel
theorem dX2_settleBy_119 : decode cX2_settleBy 119 = .ok (.aload_n 0, 1) := by decide +kernel
theorem dX2_settleBy_120 : decode cX2_settleBy 120 = .ok (.getfield 11, 3) := by decide +kernel
theorem dX2_settleBy_123 : decode cX2_settleBy 123 = .ok (.invokevirtual 31, 3) := by decide +kernel
theorem dX2_settleBy_126 : decode cX2_settleBy 126 = .ok (.aload_n 0, 1) := by decide +kernel
theorem dX2_settleBy_127 : decode cX2_settleBy 127 = .ok (.iconst 1, 1) := by decide +kernel
theorem dX2_settleBy_128 : decode cX2_settleBy 128 = .ok (.iload_n 1, 1) := by decide +kernel
theorem dX2_settleBy_129 : decode cX2_settleBy 129 = .ok (.invokevirtual 84, 3) := by decide +kernel
theorem dX2_settleBy_132 : decode cX2_settleBy 132 = .ok (.aload_n 0, 1) := by decide +kernel
theorem dX2_settleBy_133 : decode cX2_settleBy 133 = .ok (.bipush 92, 2) := by decide +kernel
theorem dX2_settleBy_135 : decode cX2_settleBy 135 = .ok (.iconst 0, 1) := by decide +kernel
theorem dX2_settleBy_136 : decode cX2_settleBy 136 = .ok (.invokevirtual 98, 3) := by decide +kernel
theorem dX2_settleBy_139 : decode cX2_settleBy 139 = .ok (.ireturn, 1) := by decide +kernel
theorem dX2_duel_0 : decode cX2_duel 0 = .ok (.aload_n 0, 1) := by decide +kernel
theorem dX2_duel_1 : decode cX2_duel 1 = .ok (.iload_n 1, 1) := by decide +kernel
theorem dX2_duel_2 : decode cX2_duel 2 = .ok (.invokevirtual 88, 3) := by decide +kernel
theorem dX2_duel_5 : decode cX2_duel 5 = .ok (.ifCond .ne 5, 3) := by decide +kernel
theorem dX2_duel_8 : decode cX2_duel 8 = .ok (.iconst (-1), 1) := by decide +kernel
theorem dX2_duel_9 : decode cX2_duel 9 = .ok (.ireturn, 1) := by decide +kernel
theorem dX2_duel_10 : decode cX2_duel 10 = .ok (.aload_n 0, 1) := by decide +kernel
theorem dX2_duel_11 : decode cX2_duel 11 = .ok (.iload_n 1, 1) := by decide +kernel
theorem dX2_duel_12 : decode cX2_duel 12 = .ok (.aload_n 0, 1) := by decide +kernel
theorem dX2_duel_13 : decode cX2_duel 13 = .ok (.iload_n 1, 1) := by decide +kernel
theorem dX2_duel_14 : decode cX2_duel 14 = .ok (.invokevirtual 91, 3) := by decide +kernel
theorem dX2_duel_17 : decode cX2_duel 17 = .ok (.invokevirtual 101, 3) := by decide +kernel
theorem dX2_duel_20 : decode cX2_duel 20 = .ok (.ifCond .eq 6, 3) := by decide +kernel
theorem dX2_duel_23 : decode cX2_duel 23 = .ok (.bipush (-5), 2) := by decide +kernel
theorem dX2_duel_25 : decode cX2_duel 25 = .ok (.ireturn, 1) := by decide +kernel
theorem dX2_duel_26 : decode cX2_duel 26 = .ok (.aload_n 0, 1) := by decide +kernel
theorem dX2_duel_27 : decode cX2_duel 27 = .ok (.bipush 44, 2) := by decide +kernel
theorem dX2_duel_29 : decode cX2_duel 29 = .ok (.iload_n 1, 1) := by decide +kernel
theorem dX2_duel_30 : decode cX2_duel 30 = .ok (.invokevirtual 47, 3) := by decide +kernel
theorem dX2_duel_33 : decode cX2_duel 33 = .ok (.istore_n 2, 1) := by decide +kernel
theorem dX2_duel_34 : decode cX2_duel 34 = .ok (.aload_n 0, 1) := by decide +kernel
theorem dX2_duel_35 : decode cX2_duel 35 = .ok (.bipush 56, 2) := by decide +kernel
theorem dX2_duel_37 : decode cX2_duel 37 = .ok (.iload_n 1, 1) := by decide +kernel
theorem dX2_duel_38 : decode cX2_duel 38 = .ok (.invokevirtual 47, 3) := by decide +kernel
theorem dX2_duel_41 : decode cX2_duel 41 = .ok (.istore_n 3, 1) := by decide +kernel
theorem dX2_duel_42 : decode cX2_duel 42 = .ok (.aload_n 0, 1) := by decide +kernel
theorem dX2_duel_43 : decode cX2_duel 43 = .ok (.iload_n 1, 1) := by decide +kernel
theorem dX2_duel_44 : decode cX2_duel 44 = .ok (.invokevirtual 104, 3) := by decide +kernel
theorem dX2_duel_47 : decode cX2_duel 47 = .ok (.istore 4, 2) := by decide +kernel
theorem dX2_duel_49 : decode cX2_duel 49 = .ok (.aload_n 0, 1) := by decide +kernel
theorem dX2_duel_50 : decode cX2_duel 50 = .ok (.iconst 4, 1) := by decide +kernel
theorem dX2_duel_51 : decode cX2_duel 51 = .ok (.iload 4, 2) := by decide +kernel
theorem dX2_duel_53 : decode cX2_duel 53 = .ok (.iconst 1, 1) := by decide +kernel
theorem dX2_duel_54 : decode cX2_duel 54 = .ok (.invokevirtual 95, 3) := by decide +kernel
theorem dX2_duel_57 : decode cX2_duel 57 = .ok (.aload_n 0, 1) := by decide +kernel
theorem dX2_duel_58 : decode cX2_duel 58 = .ok (.iconst 4, 1) := by decide +kernel
theorem dX2_duel_59 : decode cX2_duel 59 = .ok (.iload 4, 2) := by decide +kernel
theorem dX2_duel_61 : decode cX2_duel 61 = .ok (.iload_n 2, 1) := by decide +kernel
theorem dX2_duel_62 : decode cX2_duel 62 = .ok (.if_icmp .ne 7, 3) := by decide +kernel
theorem dX2_duel_65 : decode cX2_duel 65 = .ok (.iload_n 3, 1) := by decide +kernel
theorem dX2_duel_66 : decode cX2_duel 66 = .ok (.goto 4, 3) := by decide +kernel
theorem dX2_duel_69 : decode cX2_duel 69 = .ok (.iload_n 2, 1) := by decide +kernel
theorem dX2_duel_70 : decode cX2_duel 70 = .ok (.bipush (-2), 2) := by decide +kernel
theorem dX2_duel_72 : decode cX2_duel 72 = .ok (.invokevirtual 95, 3) := by decide +kernel
theorem dX2_duel_75 : decode cX2_duel 75 = .ok (.aload_n 0, 1) := by decide +kernel
theorem dX2_duel_76 : decode cX2_duel 76 = .ok (.iload_n 2, 1) := by decide +kernel
theorem dX2_duel_77 : decode cX2_duel 77 = .ok (.invokevirtual 107, 3) := by decide +kernel
theorem dX2_duel_80 : decode cX2_duel 80 = .ok (.aload_n 0, 1) := by decide +kernel
theorem dX2_duel_81 : decode cX2_duel 81 = .ok (.iload_n 3, 1) := by decide +kernel
theorem dX2_duel_82 : decode cX2_duel 82 = .ok (.invokevirtual 107, 3) := by decide +kernel
theorem dX2_duel_85 : decode cX2_duel 85 = .ok (.aload_n 0, 1) := by decide +kernel
theorem dX2_duel_86 : decode cX2_duel 86 = .ok (.bipush 92, 2) := by decide +kernel
theorem dX2_duel_88 : decode cX2_duel 88 = .ok (.iload_n 1, 1) := by decide +kernel
theorem dX2_duel_89 : decode cX2_duel 89 = .ok (.iconst 2, 1) := by decide +kernel
theorem dX2_duel_90 : decode cX2_duel 90 = .ok (.invokevirtual 31, 3) := by decide +kernel
theorem dX2_duel_93 : decode cX2_duel 93 = .ok (.aload_n 0, 1) := by decide +kernel
theorem dX2_duel_94 : decode cX2_duel 94 = .ok (.sipush 128, 3) := by decide +kernel
theorem dX2_duel_97 : decode cX2_duel 97 = .ok (.iload_n 1, 1) := by decide +kernel
theorem dX2_duel_98 : decode cX2_duel 98 = .ok (.iload 4, 2) := by decide +kernel
theorem dX2_duel_100 : decode cX2_duel 100 = .ok (.invokevirtual 31, 3) := by decide +kernel
theorem dX2_duel_103 : decode cX2_duel 103 = .ok (.aload_n 0, 1) := by decide +kernel
theorem dX2_duel_104 : decode cX2_duel 104 = .ok (.iconst 2, 1) := by decide +kernel
theorem dX2_duel_105 : decode cX2_duel 105 = .ok (.iload_n 1, 1) := by decide +kernel
theorem dX2_duel_106 : decode cX2_duel 106 = .ok (.invokevirtual 84, 3) := by decide +kernel
theorem dX2_duel_109 : decode cX2_duel 109 = .ok (.iload 4, 2) := by decide +kernel
theorem dX2_duel_111 : decode cX2_duel 111 = .ok (.ireturn, 1) := by decide +kernel
theorem dX2_takeOath_0 : decode cX2_takeOath 0 = .ok (.aload_n 0, 1) := by decide +kernel
theorem dX2_takeOath_1 : decode cX2_takeOath 1 = .ok (.iload_n 1, 1) := by decide +kernel
theorem dX2_takeOath_2 : decode cX2_takeOath 2 = .ok (.invokevirtual 63, 3) := by decide +kernel
theorem dX2_takeOath_5 : decode cX2_takeOath 5 = .ok (.ifCond .ne 5, 3) := by decide +kernel
theorem dX2_takeOath_8 : decode cX2_takeOath 8 = .ok (.iconst (-1), 1) := by decide +kernel
theorem dX2_takeOath_9 : decode cX2_takeOath 9 = .ok (.ireturn, 1) := by decide +kernel
theorem dX2_takeOath_10 : decode cX2_takeOath 10 = .ok (.aload_n 0, 1) := by decide +kernel
theorem dX2_takeOath_11 : decode cX2_takeOath 11 = .ok (.iload_n 1, 1) := by decide +kernel
theorem dX2_takeOath_12 : decode cX2_takeOath 12 = .ok (.invokevirtual 111, 3) := by decide +kernel
theorem dX2_takeOath_15 : decode cX2_takeOath 15 = .ok (.ifCond .le 6, 3) := by decide +kernel
theorem dX2_takeOath_18 : decode cX2_takeOath 18 = .ok (.bipush (-5), 2) := by decide +kernel
theorem dX2_takeOath_20 : decode cX2_takeOath 20 = .ok (.ireturn, 1) := by decide +kernel
theorem dX2_takeOath_21 : decode cX2_takeOath 21 = .ok (.aload_n 0, 1) := by decide +kernel
theorem dX2_takeOath_22 : decode cX2_takeOath 22 = .ok (.iload_n 1, 1) := by decide +kernel
theorem dX2_takeOath_23 : decode cX2_takeOath 23 = .ok (.invokevirtual 107, 3) := by decide +kernel
theorem dX2_takeOath_26 : decode cX2_takeOath 26 = .ok (.aload_n 0, 1) := by decide +kernel
theorem dX2_takeOath_27 : decode cX2_takeOath 27 = .ok (.iconst 3, 1) := by decide +kernel
theorem dX2_takeOath_28 : decode cX2_takeOath 28 = .ok (.iload_n 1, 1) := by decide +kernel
theorem dX2_takeOath_29 : decode cX2_takeOath 29 = .ok (.invokevirtual 84, 3) := by decide +kernel
theorem dX2_takeOath_32 : decode cX2_takeOath 32 = .ok (.aload_n 0, 1) := by decide +kernel
theorem dX2_takeOath_33 : decode cX2_takeOath 33 = .ok (.bipush 34, 2) := by decide +kernel
theorem dX2_takeOath_35 : decode cX2_takeOath 35 = .ok (.iload_n 1, 1) := by decide +kernel
theorem dX2_takeOath_36 : decode cX2_takeOath 36 = .ok (.invokevirtual 47, 3) := by decide +kernel
theorem dX2_takeOath_39 : decode cX2_takeOath 39 = .ok (.ireturn, 1) := by decide +kernel
theorem dX2_moveOn_0 : decode cX2_moveOn 0 = .ok (.iload_n 1, 1) := by decide +kernel
theorem dX2_moveOn_1 : decode cX2_moveOn 1 = .ok (.iconst 1, 1) := by decide +kernel
theorem dX2_moveOn_2 : decode cX2_moveOn 2 = .ok (.if_icmp .lt 9, 3) := by decide +kernel
theorem dX2_moveOn_5 : decode cX2_moveOn 5 = .ok (.iload_n 1, 1) := by decide +kernel
theorem dX2_moveOn_6 : decode cX2_moveOn 6 = .ok (.bipush 99, 2) := by decide +kernel
theorem dX2_moveOn_8 : decode cX2_moveOn 8 = .ok (.if_icmp .le 6, 3) := by decide +kernel
theorem dX2_moveOn_11 : decode cX2_moveOn 11 = .ok (.bipush (-2), 2) := by decide +kernel
theorem dX2_moveOn_13 : decode cX2_moveOn 13 = .ok (.ireturn, 1) := by decide +kernel
theorem dX2_moveOn_14 : decode cX2_moveOn 14 = .ok (.aload_n 0, 1) := by decide +kernel
theorem dX2_moveOn_15 : decode cX2_moveOn 15 = .ok (.getfield 11, 3) := by decide +kernel
theorem dX2_moveOn_18 : decode cX2_moveOn 18 = .ok (.iload_n 1, 1) := by decide +kernel
theorem dX2_moveOn_19 : decode cX2_moveOn 19 = .ok (.iadd, 1) := by decide +kernel
theorem dX2_moveOn_20 : decode cX2_moveOn 20 = .ok (.istore_n 2, 1) := by decide +kernel
theorem dX2_moveOn_21 : decode cX2_moveOn 21 = .ok (.iload_n 2, 1) := by decide +kernel
theorem dX2_moveOn_22 : decode cX2_moveOn 22 = .ok (.sipush 9999, 3) := by decide +kernel
theorem dX2_moveOn_25 : decode cX2_moveOn 25 = .ok (.if_icmp .le 6, 3) := by decide +kernel
theorem dX2_moveOn_28 : decode cX2_moveOn 28 = .ok (.bipush (-5), 2) := by decide +kernel
theorem dX2_moveOn_30 : decode cX2_moveOn 30 = .ok (.ireturn, 1) := by decide +kernel
theorem dX2_moveOn_31 : decode cX2_moveOn 31 = .ok (.aload_n 0, 1) := by decide +kernel
theorem dX2_moveOn_32 : decode cX2_moveOn 32 = .ok (.iload_n 2, 1) := by decide +kernel
theorem dX2_moveOn_33 : decode cX2_moveOn 33 = .ok (.putfield 11, 3) := by decide +kernel
theorem dX2_moveOn_36 : decode cX2_moveOn 36 = .ok (.iload_n 2, 1) := by decide +kernel
theorem dX2_moveOn_37 : decode cX2_moveOn 37 = .ok (.ireturn, 1) := by decide +kernel
theorem dX2_addPoints_0 : decode cX2_addPoints 0 = .ok (.aload_n 0, 1) := by decide +kernel
theorem dX2_addPoints_1 : decode cX2_addPoints 1 = .ok (.iload_n 1, 1) := by decide +kernel
theorem dX2_addPoints_2 : decode cX2_addPoints 2 = .ok (.iload_n 2, 1) := by decide +kernel
theorem dX2_addPoints_3 : decode cX2_addPoints 3 = .ok (.invokevirtual 47, 3) := by decide +kernel
theorem dX2_addPoints_6 : decode cX2_addPoints 6 = .ok (.iload_n 3, 1) := by decide +kernel
theorem dX2_addPoints_7 : decode cX2_addPoints 7 = .ok (.iadd, 1) := by decide +kernel
theorem dX2_addPoints_8 : decode cX2_addPoints 8 = .ok (.istore 4, 2) := by decide +kernel
theorem dX2_addPoints_10 : decode cX2_addPoints 10 = .ok (.aload_n 0, 1) := by decide +kernel
theorem dX2_addPoints_11 : decode cX2_addPoints 11 = .ok (.iload_n 1, 1) := by decide +kernel
theorem dX2_addPoints_12 : decode cX2_addPoints 12 = .ok (.iload_n 2, 1) := by decide +kernel
theorem dX2_addPoints_13 : decode cX2_addPoints 13 = .ok (.iconst 0, 1) := by decide +kernel
theorem dX2_addPoints_14 : decode cX2_addPoints 14 = .ok (.bipush 9, 2) := by decide +kernel
theorem dX2_addPoints_16 : decode cX2_addPoints 16 = .ok (.iload 4, 2) := by decide +kernel
theorem dX2_addPoints_18 : decode cX2_addPoints 18 = .ok (.invokestatic 35, 3) := by decide +kernel
theorem dX2_addPoints_21 : decode cX2_addPoints 21 = .ok (.invokestatic 50, 3) := by decide +kernel
theorem dX2_addPoints_24 : decode cX2_addPoints 24 = .ok (.invokevirtual 31, 3) := by decide +kernel
theorem dX2_addPoints_27 : decode cX2_addPoints 27 = .ok (.return_, 1) := by decide +kernel
theorem dX2_bindByOath_0 : decode cX2_bindByOath 0 = .ok (.aload_n 0, 1) := by decide +kernel
theorem dX2_bindByOath_1 : decode cX2_bindByOath 1 = .ok (.getfield 11, 3) := by decide +kernel
theorem dX2_bindByOath_4 : decode cX2_bindByOath 4 = .ok (.aload_n 0, 1) := by decide +kernel
theorem dX2_bindByOath_5 : decode cX2_bindByOath 5 = .ok (.iconst 0, 1) := by decide +kernel
theorem dX2_bindByOath_6 : decode cX2_bindByOath 6 = .ok (.iconst 2, 1) := by decide +kernel
theorem dX2_bindByOath_7 : decode cX2_bindByOath 7 = .ok (.invokevirtual 47, 3) := by decide +kernel
theorem dX2_bindByOath_10 : decode cX2_bindByOath 10 = .ok (.iadd, 1) := by decide +kernel
theorem dX2_bindByOath_11 : decode cX2_bindByOath 11 = .ok (.istore_n 2, 1) := by decide +kernel
theorem dX2_bindByOath_12 : decode cX2_bindByOath 12 = .ok (.aload_n 0, 1) := by decide +kernel
theorem dX2_bindByOath_13 : decode cX2_bindByOath 13 = .ok (.bipush 34, 2) := by decide +kernel
theorem dX2_bindByOath_15 : decode cX2_bindByOath 15 = .ok (.iload_n 1, 1) := by decide +kernel
theorem dX2_bindByOath_16 : decode cX2_bindByOath 16 = .ok (.iload_n 2, 1) := by decide +kernel
theorem dX2_bindByOath_17 : decode cX2_bindByOath 17 = .ok (.aload_n 0, 1) := by decide +kernel
theorem dX2_bindByOath_18 : decode cX2_bindByOath 18 = .ok (.bipush 34, 2) := by decide +kernel
theorem dX2_bindByOath_20 : decode cX2_bindByOath 20 = .ok (.iload_n 1, 1) := by decide +kernel
theorem dX2_bindByOath_21 : decode cX2_bindByOath 21 = .ok (.invokevirtual 47, 3) := by decide +kernel
theorem dX2_bindByOath_24 : decode cX2_bindByOath 24 = .ok (.invokestatic 50, 3) := by decide +kernel
theorem dX2_bindByOath_27 : decode cX2_bindByOath 27 = .ok (.invokevirtual 31, 3) := by decide +kernel
theorem dX2_bindByOath_30 : decode cX2_bindByOath 30 = .ok (.return_, 1) := by decide +kernel
theorem dX2_addEvent_0 : decode cX2_addEvent 0 = .ok (.aload_n 0, 1) := by decide +kernel
theorem dX2_addEvent_1 : decode cX2_addEvent 1 = .ok (.getfield 24, 3) := by decide +kernel
theorem dX2_addEvent_4 : decode cX2_addEvent 4 = .ok (.bipush 12, 2) := by decide +kernel
theorem dX2_addEvent_6 : decode cX2_addEvent 6 = .ok (.invokestatic 114, 3) := by decide +kernel
theorem dX2_addEvent_9 : decode cX2_addEvent 9 = .ok (.istore_n 3, 1) := by decide +kernel
theorem dX2_addEvent_10 : decode cX2_addEvent 10 = .ok (.aload_n 0, 1) := by decide +kernel
theorem dX2_addEvent_11 : decode cX2_addEvent 11 = .ok (.sipush 140, 3) := by decide +kernel
theorem dX2_addEvent_14 : decode cX2_addEvent 14 = .ok (.iload_n 3, 1) := by decide +kernel
theorem dX2_addEvent_15 : decode cX2_addEvent 15 = .ok (.iload_n 1, 1) := by decide +kernel
theorem dX2_addEvent_16 : decode cX2_addEvent 16 = .ok (.invokevirtual 31, 3) := by decide +kernel
theorem dX2_addEvent_19 : decode cX2_addEvent 19 = .ok (.aload_n 0, 1) := by decide +kernel
theorem dX2_addEvent_20 : decode cX2_addEvent 20 = .ok (.sipush 152, 3) := by decide +kernel
theorem dX2_addEvent_23 : decode cX2_addEvent 23 = .ok (.iload_n 3, 1) := by decide +kernel
theorem dX2_addEvent_24 : decode cX2_addEvent 24 = .ok (.aload_n 0, 1) := by decide +kernel
theorem dX2_addEvent_25 : decode cX2_addEvent 25 = .ok (.getfield 11, 3) := by decide +kernel
theorem dX2_addEvent_28 : decode cX2_addEvent 28 = .ok (.invokevirtual 31, 3) := by decide +kernel
theorem dX2_addEvent_31 : decode cX2_addEvent 31 = .ok (.aload_n 0, 1) := by decide +kernel
theorem dX2_addEvent_32 : decode cX2_addEvent 32 = .ok (.sipush 164, 3) := by decide +kernel
theorem dX2_addEvent_35 : decode cX2_addEvent 35 = .ok (.iload_n 3, 1) := by decide +kernel
theorem dX2_addEvent_36 : decode cX2_addEvent 36 = .ok (.iload_n 2, 1) := by decide +kernel
theorem dX2_addEvent_37 : decode cX2_addEvent 37 = .ok (.invokevirtual 31, 3) := by decide +kernel
theorem dX2_addEvent_40 : decode cX2_addEvent 40 = .ok (.aload_n 0, 1) := by decide +kernel
theorem dX2_addEvent_41 : decode cX2_addEvent 41 = .ok (.dup, 1) := by decide +kernel
theorem dX2_addEvent_42 : decode cX2_addEvent 42 = .ok (.getfield 24, 3) := by decide +kernel
theorem dX2_addEvent_45 : decode cX2_addEvent 45 = .ok (.iconst 1, 1) := by decide +kernel
theorem dX2_addEvent_46 : decode cX2_addEvent 46 = .ok (.iadd, 1) := by decide +kernel
theorem dX2_addEvent_47 : decode cX2_addEvent 47 = .ok (.putfield 24, 3) := by decide +kernel
theorem dX2_addEvent_50 : decode cX2_addEvent 50 = .ok (.return_, 1) := by decide +kernel
theorem dX2_waysOf_0 : decode cX2_waysOf 0 = .ok (.aload_n 0, 1) := by decide +kernel
theorem dX2_waysOf_1 : decode cX2_waysOf 1 = .ok (.iload_n 1, 1) := by decide +kernel
theorem dX2_waysOf_2 : decode cX2_waysOf 2 = .ok (.invokevirtual 69, 3) := by decide +kernel
theorem dX2_waysOf_5 : decode cX2_waysOf 5 = .ok (.ifCond .ne 5, 3) := by decide +kernel
theorem dX2_waysOf_8 : decode cX2_waysOf 8 = .ok (.iconst 0, 1) := by decide +kernel
theorem dX2_waysOf_9 : decode cX2_waysOf 9 = .ok (.ireturn, 1) := by decide +kernel
theorem dX2_waysOf_10 : decode cX2_waysOf 10 = .ok (.aload_n 0, 1) := by decide +kernel
theorem dX2_waysOf_11 : decode cX2_waysOf 11 = .ok (.aload_n 0, 1) := by decide +kernel
theorem dX2_waysOf_12 : decode cX2_waysOf 12 = .ok (.bipush 44, 2) := by decide +kernel
theorem dX2_waysOf_14 : decode cX2_waysOf 14 = .ok (.iload_n 1, 1) := by decide +kernel
theorem dX2_waysOf_15 : decode cX2_waysOf 15 = .ok (.invokevirtual 47, 3) := by decide +kernel
theorem dX2_waysOf_18 : decode cX2_waysOf 18 = .ok (.aload_n 0, 1) := by decide +kernel
theorem dX2_waysOf_19 : decode cX2_waysOf 19 = .ok (.bipush 56, 2) := by decide +kernel
theorem dX2_waysOf_21 : decode cX2_waysOf 21 = .ok (.iload_n 1, 1) := by decide +kernel
theorem dX2_waysOf_22 : decode cX2_waysOf 22 = .ok (.invokevirtual 47, 3) := by decide +kernel
theorem dX2_waysOf_25 : decode cX2_waysOf 25 = .ok (.aload_n 0, 1) := by decide +kernel
theorem dX2_waysOf_26 : decode cX2_waysOf 26 = .ok (.bipush 68, 2) := by decide +kernel
theorem dX2_waysOf_28 : decode cX2_waysOf 28 = .ok (.iload_n 1, 1) := by decide +kernel
theorem dX2_waysOf_29 : decode cX2_waysOf 29 = .ok (.invokevirtual 47, 3) := by decide +kernel
theorem dX2_waysOf_32 : decode cX2_waysOf 32 = .ok (.aload_n 0, 1) := by decide +kernel
theorem dX2_waysOf_33 : decode cX2_waysOf 33 = .ok (.iload_n 1, 1) := by decide +kernel
theorem dX2_waysOf_34 : decode cX2_waysOf 34 = .ok (.invokevirtual 117, 3) := by decide +kernel
theorem dX2_waysOf_37 : decode cX2_waysOf 37 = .ok (.invokevirtual 120, 3) := by decide +kernel
theorem dX2_waysOf_40 : decode cX2_waysOf 40 = .ok (.ireturn, 1) := by decide +kernel
theorem dX2_waysBetween_0 : decode cX2_waysBetween 0 = .ok (.iconst 0, 1) := by decide +kernel
theorem dX2_waysBetween_1 : decode cX2_waysBetween 1 = .ok (.istore 5, 2) := by decide +kernel
theorem dX2_waysBetween_3 : decode cX2_waysBetween 3 = .ok (.aload_n 0, 1) := by decide +kernel
theorem dX2_waysBetween_4 : decode cX2_waysBetween 4 = .ok (.iconst 4, 1) := by decide +kernel
theorem dX2_waysBetween_5 : decode cX2_waysBetween 5 = .ok (.iload_n 1, 1) := by decide +kernel
theorem dX2_waysBetween_6 : decode cX2_waysBetween 6 = .ok (.invokevirtual 47, 3) := by decide +kernel
theorem dX2_waysBetween_9 : decode cX2_waysBetween 9 = .ok (.iload_n 3, 1) := by decide +kernel
theorem dX2_waysBetween_10 : decode cX2_waysBetween 10 = .ok (.iadd, 1) := by decide +kernel
theorem dX2_waysBetween_11 : decode cX2_waysBetween 11 = .ok (.bipush 9, 2) := by decide +kernel
theorem dX2_waysBetween_13 : decode cX2_waysBetween 13 = .ok (.if_icmp .gt 9, 3) := by decide +kernel
theorem dX2_waysBetween_16 : decode cX2_waysBetween 16 = .ok (.iload 5, 2) := by decide +kernel
theorem dX2_waysBetween_18 : decode cX2_waysBetween 18 = .ok (.iconst 1, 1) := by decide +kernel
theorem dX2_waysBetween_19 : decode cX2_waysBetween 19 = .ok (.ior, 1) := by decide +kernel
theorem dX2_waysBetween_20 : decode cX2_waysBetween 20 = .ok (.istore 5, 2) := by decide +kernel
theorem dX2_waysBetween_22 : decode cX2_waysBetween 22 = .ok (.aload_n 0, 1) := by decide +kernel
theorem dX2_waysBetween_23 : decode cX2_waysBetween 23 = .ok (.iload_n 1, 1) := by decide +kernel
theorem dX2_waysBetween_24 : decode cX2_waysBetween 24 = .ok (.iload_n 2, 1) := by decide +kernel
theorem dX2_waysBetween_25 : decode cX2_waysBetween 25 = .ok (.iload_n 3, 1) := by decide +kernel
theorem dX2_waysBetween_26 : decode cX2_waysBetween 26 = .ok (.invokevirtual 124, 3) := by decide +kernel
theorem dX2_waysBetween_29 : decode cX2_waysBetween 29 = .ok (.ifCond .eq 9, 3) := by decide +kernel
theorem dX2_waysBetween_32 : decode cX2_waysBetween 32 = .ok (.iload 5, 2) := by decide +kernel
theorem dX2_waysBetween_34 : decode cX2_waysBetween 34 = .ok (.iconst 2, 1) := by decide +kernel
theorem dX2_waysBetween_35 : decode cX2_waysBetween 35 = .ok (.ior, 1) := by decide +kernel
theorem dX2_waysBetween_36 : decode cX2_waysBetween 36 = .ok (.istore 5, 2) := by decide +kernel
theorem dX2_waysBetween_38 : decode cX2_waysBetween 38 = .ok (.iload 4, 2) := by decide +kernel
theorem dX2_waysBetween_40 : decode cX2_waysBetween 40 = .ok (.aload_n 0, 1) := by decide +kernel
theorem dX2_waysBetween_41 : decode cX2_waysBetween 41 = .ok (.iload_n 3, 1) := by decide +kernel
theorem dX2_waysBetween_42 : decode cX2_waysBetween 42 = .ok (.invokevirtual 128, 3) := by decide +kernel
theorem dX2_waysBetween_45 : decode cX2_waysBetween 45 = .ok (.if_icmp .lt 9, 3) := by decide +kernel
theorem dX2_waysBetween_48 : decode cX2_waysBetween 48 = .ok (.iload 5, 2) := by decide +kernel
theorem dX2_waysBetween_50 : decode cX2_waysBetween 50 = .ok (.iconst 4, 1) := by decide +kernel
theorem dX2_waysBetween_51 : decode cX2_waysBetween 51 = .ok (.ior, 1) := by decide +kernel
theorem dX2_waysBetween_52 : decode cX2_waysBetween 52 = .ok (.istore 5, 2) := by decide +kernel
theorem dX2_waysBetween_54 : decode cX2_waysBetween 54 = .ok (.aload_n 0, 1) := by decide +kernel
theorem dX2_waysBetween_55 : decode cX2_waysBetween 55 = .ok (.iload_n 1, 1) := by decide +kernel
theorem dX2_waysBetween_56 : decode cX2_waysBetween 56 = .ok (.invokevirtual 111, 3) := by decide +kernel
theorem dX2_waysBetween_59 : decode cX2_waysBetween 59 = .ok (.ifCond .gt 11, 3) := by decide +kernel
theorem dX2_waysBetween_62 : decode cX2_waysBetween 62 = .ok (.aload_n 0, 1) := by decide +kernel
theorem dX2_waysBetween_63 : decode cX2_waysBetween 63 = .ok (.iload_n 2, 1) := by decide +kernel
theorem dX2_waysBetween_64 : decode cX2_waysBetween 64 = .ok (.invokevirtual 111, 3) := by decide +kernel
theorem dX2_waysBetween_67 : decode cX2_waysBetween 67 = .ok (.ifCond .le 10, 3) := by decide +kernel
theorem dX2_waysBetween_70 : decode cX2_waysBetween 70 = .ok (.iload 5, 2) := by decide +kernel
theorem dX2_waysBetween_72 : decode cX2_waysBetween 72 = .ok (.bipush 8, 2) := by decide +kernel
theorem dX2_waysBetween_74 : decode cX2_waysBetween 74 = .ok (.ior, 1) := by decide +kernel
theorem dX2_waysBetween_75 : decode cX2_waysBetween 75 = .ok (.istore 5, 2) := by decide +kernel
theorem dX2_waysBetween_77 : decode cX2_waysBetween 77 = .ok (.aload_n 0, 1) := by decide +kernel
theorem dX2_waysBetween_78 : decode cX2_waysBetween 78 = .ok (.iload_n 1, 1) := by decide +kernel
theorem dX2_waysBetween_79 : decode cX2_waysBetween 79 = .ok (.iload_n 2, 1) := by decide +kernel
theorem dX2_waysBetween_80 : decode cX2_waysBetween 80 = .ok (.invokevirtual 131, 3) := by decide +kernel
theorem dX2_waysBetween_83 : decode cX2_waysBetween 83 = .ok (.ifCond .lt 10, 3) := by decide +kernel
theorem dX2_waysBetween_86 : decode cX2_waysBetween 86 = .ok (.iload 5, 2) := by decide +kernel
theorem dX2_waysBetween_88 : decode cX2_waysBetween 88 = .ok (.bipush 16, 2) := by decide +kernel
theorem dX2_waysBetween_90 : decode cX2_waysBetween 90 = .ok (.ior, 1) := by decide +kernel
theorem dX2_waysBetween_91 : decode cX2_waysBetween 91 = .ok (.istore 5, 2) := by decide +kernel
theorem dX2_waysBetween_93 : decode cX2_waysBetween 93 = .ok (.iload 5, 2) := by decide +kernel
theorem dX2_waysBetween_95 : decode cX2_waysBetween 95 = .ok (.aload_n 0, 1) := by decide +kernel
theorem dX2_waysBetween_96 : decode cX2_waysBetween 96 = .ok (.getfield 15, 3) := by decide +kernel
theorem dX2_waysBetween_99 : decode cX2_waysBetween 99 = .ok (.iand, 1) := by decide +kernel
theorem dX2_waysBetween_100 : decode cX2_waysBetween 100 = .ok (.ireturn, 1) := by decide +kernel
theorem dX2_firstOf_0 : decode cX2_firstOf 0 = .ok (.iconst 0, 1) := by decide +kernel
theorem dX2_firstOf_1 : decode cX2_firstOf 1 = .ok (.istore_n 1, 1) := by decide +kernel
theorem dX2_firstOf_2 : decode cX2_firstOf 2 = .ok (.iload_n 1, 1) := by decide +kernel
theorem dX2_firstOf_3 : decode cX2_firstOf 3 = .ok (.iconst 5, 1) := by decide +kernel
theorem dX2_firstOf_4 : decode cX2_firstOf 4 = .ok (.if_icmp .ge 19, 3) := by decide +kernel
theorem dX2_firstOf_7 : decode cX2_firstOf 7 = .ok (.iload_n 0, 1) := by decide +kernel
theorem dX2_firstOf_8 : decode cX2_firstOf 8 = .ok (.iconst 1, 1) := by decide +kernel
theorem dX2_firstOf_9 : decode cX2_firstOf 9 = .ok (.iload_n 1, 1) := by decide +kernel
theorem dX2_firstOf_10 : decode cX2_firstOf 10 = .ok (.ishl, 1) := by decide +kernel
theorem dX2_firstOf_11 : decode cX2_firstOf 11 = .ok (.iand, 1) := by decide +kernel
theorem dX2_firstOf_12 : decode cX2_firstOf 12 = .ok (.ifCond .eq 5, 3) := by decide +kernel
theorem dX2_firstOf_15 : decode cX2_firstOf 15 = .ok (.iload_n 1, 1) := by decide +kernel
theorem dX2_firstOf_16 : decode cX2_firstOf 16 = .ok (.ireturn, 1) := by decide +kernel
theorem dX2_firstOf_17 : decode cX2_firstOf 17 = .ok (.iinc 1 1, 3) := by decide +kernel
theorem dX2_firstOf_20 : decode cX2_firstOf 20 = .ok (.goto (-18), 3) := by decide +kernel
theorem dX2_firstOf_23 : decode cX2_firstOf 23 = .ok (.bipush (-6), 2) := by decide +kernel
theorem dX2_firstOf_25 : decode cX2_firstOf 25 = .ok (.ireturn, 1) := by decide +kernel
theorem dX2_secondsCanSettle_0 : decode cX2_secondsCanSettle 0 = .ok (.aload_n 0, 1) := by decide +kernel
theorem dX2_secondsCanSettle_1 : decode cX2_secondsCanSettle 1 = .ok (.bipush 24, 2) := by decide +kernel
theorem dX2_secondsCanSettle_3 : decode cX2_secondsCanSettle 3 = .ok (.iload_n 1, 1) := by decide +kernel
theorem dX2_secondsCanSettle_4 : decode cX2_secondsCanSettle 4 = .ok (.invokevirtual 47, 3) := by decide +kernel
theorem dX2_secondsCanSettle_7 : decode cX2_secondsCanSettle 7 = .ok (.istore 4, 2) := by decide +kernel
theorem dX2_secondsCanSettle_9 : decode cX2_secondsCanSettle 9 = .ok (.aload_n 0, 1) := by decide +kernel
theorem dX2_secondsCanSettle_10 : decode cX2_secondsCanSettle 10 = .ok (.bipush 24, 2) := by decide +kernel
theorem dX2_secondsCanSettle_12 : decode cX2_secondsCanSettle 12 = .ok (.iload_n 2, 1) := by decide +kernel
theorem dX2_secondsCanSettle_13 : decode cX2_secondsCanSettle 13 = .ok (.invokevirtual 47, 3) := by decide +kernel
theorem dX2_secondsCanSettle_16 : decode cX2_secondsCanSettle 16 = .ok (.istore 5, 2) := by decide +kernel
theorem dX2_secondsCanSettle_18 : decode cX2_secondsCanSettle 18 = .ok (.iload 4, 2) := by decide +kernel
theorem dX2_secondsCanSettle_20 : decode cX2_secondsCanSettle 20 = .ok (.bipush (-6), 2) := by decide +kernel
theorem dX2_secondsCanSettle_22 : decode cX2_secondsCanSettle 22 = .ok (.if_icmp .eq 29, 3) := by decide +kernel
theorem dX2_secondsCanSettle_25 : decode cX2_secondsCanSettle 25 = .ok (.iload 5, 2) := by decide +kernel
theorem dX2_secondsCanSettle_27 : decode cX2_secondsCanSettle 27 = .ok (.bipush (-6), 2) := by decide +kernel
theorem dX2_secondsCanSettle_29 : decode cX2_secondsCanSettle 29 = .ok (.if_icmp .eq 22, 3) := by decide +kernel
theorem dX2_secondsCanSettle_32 : decode cX2_secondsCanSettle 32 = .ok (.iload 4, 2) := by decide +kernel
theorem dX2_secondsCanSettle_34 : decode cX2_secondsCanSettle 34 = .ok (.iload 5, 2) := by decide +kernel
theorem dX2_secondsCanSettle_36 : decode cX2_secondsCanSettle 36 = .ok (.if_icmp .eq 15, 3) := by decide +kernel
theorem dX2_secondsCanSettle_39 : decode cX2_secondsCanSettle 39 = .ok (.iload 4, 2) := by decide +kernel
theorem dX2_secondsCanSettle_41 : decode cX2_secondsCanSettle 41 = .ok (.iload_n 2, 1) := by decide +kernel
theorem dX2_secondsCanSettle_42 : decode cX2_secondsCanSettle 42 = .ok (.if_icmp .eq 9, 3) := by decide +kernel
theorem dX2_secondsCanSettle_45 : decode cX2_secondsCanSettle 45 = .ok (.iload 5, 2) := by decide +kernel
theorem dX2_secondsCanSettle_47 : decode cX2_secondsCanSettle 47 = .ok (.iload_n 1, 1) := by decide +kernel
theorem dX2_secondsCanSettle_48 : decode cX2_secondsCanSettle 48 = .ok (.if_icmp .ne 5, 3) := by decide +kernel
theorem dX2_secondsCanSettle_51 : decode cX2_secondsCanSettle 51 = .ok (.iconst 0, 1) := by decide +kernel
theorem dX2_secondsCanSettle_52 : decode cX2_secondsCanSettle 52 = .ok (.ireturn, 1) := by decide +kernel
theorem dX2_secondsCanSettle_53 : decode cX2_secondsCanSettle 53 = .ok (.aload_n 0, 1) := by decide +kernel
theorem dX2_secondsCanSettle_54 : decode cX2_secondsCanSettle 54 = .ok (.bipush 14, 2) := by decide +kernel
theorem dX2_secondsCanSettle_56 : decode cX2_secondsCanSettle 56 = .ok (.iload 4, 2) := by decide +kernel
theorem dX2_secondsCanSettle_58 : decode cX2_secondsCanSettle 58 = .ok (.invokevirtual 47, 3) := by decide +kernel
theorem dX2_secondsCanSettle_61 : decode cX2_secondsCanSettle 61 = .ok (.aload_n 0, 1) := by decide +kernel
theorem dX2_secondsCanSettle_62 : decode cX2_secondsCanSettle 62 = .ok (.bipush 14, 2) := by decide +kernel
theorem dX2_secondsCanSettle_64 : decode cX2_secondsCanSettle 64 = .ok (.iload 5, 2) := by decide +kernel
theorem dX2_secondsCanSettle_66 : decode cX2_secondsCanSettle 66 = .ok (.invokevirtual 47, 3) := by decide +kernel
theorem dX2_secondsCanSettle_69 : decode cX2_secondsCanSettle 69 = .ok (.iadd, 1) := by decide +kernel
theorem dX2_secondsCanSettle_70 : decode cX2_secondsCanSettle 70 = .ok (.iconst 2, 1) := by decide +kernel
theorem dX2_secondsCanSettle_71 : decode cX2_secondsCanSettle 71 = .ok (.iload_n 3, 1) := by decide +kernel
theorem dX2_secondsCanSettle_72 : decode cX2_secondsCanSettle 72 = .ok (.imul, 1) := by decide +kernel
theorem dX2_secondsCanSettle_73 : decode cX2_secondsCanSettle 73 = .ok (.if_icmp .lt 7, 3) := by decide +kernel
theorem dX2_secondsCanSettle_76 : decode cX2_secondsCanSettle 76 = .ok (.iconst 1, 1) := by decide +kernel
theorem dX2_secondsCanSettle_77 : decode cX2_secondsCanSettle 77 = .ok (.goto 4, 3) := by decide +kernel
theorem dX2_secondsCanSettle_80 : decode cX2_secondsCanSettle 80 = .ok (.iconst 0, 1) := by decide +kernel
theorem dX2_secondsCanSettle_81 : decode cX2_secondsCanSettle 81 = .ok (.ireturn, 1) := by decide +kernel
theorem dX2_hoursToCool_0 : decode cX2_hoursToCool 0 = .ok (.aload_n 0, 1) := by decide +kernel
theorem dX2_hoursToCool_1 : decode cX2_hoursToCool 1 = .ok (.iconst 0, 1) := by decide +kernel
theorem dX2_hoursToCool_2 : decode cX2_hoursToCool 2 = .ok (.iconst 0, 1) := by decide +kernel
theorem dX2_hoursToCool_3 : decode cX2_hoursToCool 3 = .ok (.invokevirtual 47, 3) := by decide +kernel
theorem dX2_hoursToCool_6 : decode cX2_hoursToCool 6 = .ok (.iload_n 1, 1) := by decide +kernel
theorem dX2_hoursToCool_7 : decode cX2_hoursToCool 7 = .ok (.imul, 1) := by decide +kernel
theorem dX2_hoursToCool_8 : decode cX2_hoursToCool 8 = .ok (.ireturn, 1) := by decide +kernel
theorem dX2_peaceLeft_0 : decode cX2_peaceLeft 0 = .ok (.iconst (-1), 1) := by decide +kernel
theorem dX2_peaceLeft_1 : decode cX2_peaceLeft 1 = .ok (.istore_n 3, 1) := by decide +kernel
theorem dX2_peaceLeft_2 : decode cX2_peaceLeft 2 = .ok (.iconst 0, 1) := by decide +kernel
theorem dX2_peaceLeft_3 : decode cX2_peaceLeft 3 = .ok (.istore 4, 2) := by decide +kernel
theorem dX2_peaceLeft_5 : decode cX2_peaceLeft 5 = .ok (.iload 4, 2) := by decide +kernel
theorem dX2_peaceLeft_7 : decode cX2_peaceLeft 7 = .ok (.aload_n 0, 1) := by decide +kernel
theorem dX2_peaceLeft_8 : decode cX2_peaceLeft 8 = .ok (.getfield 21, 3) := by decide +kernel
theorem dX2_peaceLeft_11 : decode cX2_peaceLeft 11 = .ok (.if_icmp .ge 70, 3) := by decide +kernel
theorem dX2_peaceLeft_14 : decode cX2_peaceLeft 14 = .ok (.aload_n 0, 1) := by decide +kernel
theorem dX2_peaceLeft_15 : decode cX2_peaceLeft 15 = .ok (.bipush 92, 2) := by decide +kernel
theorem dX2_peaceLeft_17 : decode cX2_peaceLeft 17 = .ok (.iload 4, 2) := by decide +kernel
theorem dX2_peaceLeft_19 : decode cX2_peaceLeft 19 = .ok (.invokevirtual 47, 3) := by decide +kernel
theorem dX2_peaceLeft_22 : decode cX2_peaceLeft 22 = .ok (.iconst 1, 1) := by decide +kernel
theorem dX2_peaceLeft_23 : decode cX2_peaceLeft 23 = .ok (.if_icmp .ne 52, 3) := by decide +kernel
theorem dX2_peaceLeft_26 : decode cX2_peaceLeft 26 = .ok (.iload_n 1, 1) := by decide +kernel
theorem dX2_peaceLeft_27 : decode cX2_peaceLeft 27 = .ok (.iload_n 2, 1) := by decide +kernel
theorem dX2_peaceLeft_28 : decode cX2_peaceLeft 28 = .ok (.aload_n 0, 1) := by decide +kernel
theorem dX2_peaceLeft_29 : decode cX2_peaceLeft 29 = .ok (.bipush 44, 2) := by decide +kernel
theorem dX2_peaceLeft_31 : decode cX2_peaceLeft 31 = .ok (.iload 4, 2) := by decide +kernel
theorem dX2_peaceLeft_33 : decode cX2_peaceLeft 33 = .ok (.invokevirtual 47, 3) := by decide +kernel
theorem dX2_peaceLeft_36 : decode cX2_peaceLeft 36 = .ok (.aload_n 0, 1) := by decide +kernel
theorem dX2_peaceLeft_37 : decode cX2_peaceLeft 37 = .ok (.bipush 56, 2) := by decide +kernel
theorem dX2_peaceLeft_39 : decode cX2_peaceLeft 39 = .ok (.iload 4, 2) := by decide +kernel
theorem dX2_peaceLeft_41 : decode cX2_peaceLeft 41 = .ok (.invokevirtual 47, 3) := by decide +kernel
theorem dX2_peaceLeft_44 : decode cX2_peaceLeft 44 = .ok (.invokestatic 72, 3) := by decide +kernel
theorem dX2_peaceLeft_47 : decode cX2_peaceLeft 47 = .ok (.ifCond .eq 28, 3) := by decide +kernel
theorem dX2_peaceLeft_50 : decode cX2_peaceLeft 50 = .ok (.iload_n 3, 1) := by decide +kernel
theorem dX2_peaceLeft_51 : decode cX2_peaceLeft 51 = .ok (.aload_n 0, 1) := by decide +kernel
theorem dX2_peaceLeft_52 : decode cX2_peaceLeft 52 = .ok (.bipush 116, 2) := by decide +kernel
theorem dX2_peaceLeft_54 : decode cX2_peaceLeft 54 = .ok (.iload 4, 2) := by decide +kernel
theorem dX2_peaceLeft_56 : decode cX2_peaceLeft 56 = .ok (.invokevirtual 47, 3) := by decide +kernel
theorem dX2_peaceLeft_59 : decode cX2_peaceLeft 59 = .ok (.aload_n 0, 1) := by decide +kernel
theorem dX2_peaceLeft_60 : decode cX2_peaceLeft 60 = .ok (.iconst 0, 1) := by decide +kernel
theorem dX2_peaceLeft_61 : decode cX2_peaceLeft 61 = .ok (.iconst 3, 1) := by decide +kernel
theorem dX2_peaceLeft_62 : decode cX2_peaceLeft 62 = .ok (.invokevirtual 47, 3) := by decide +kernel
theorem dX2_peaceLeft_65 : decode cX2_peaceLeft 65 = .ok (.iadd, 1) := by decide +kernel
theorem dX2_peaceLeft_66 : decode cX2_peaceLeft 66 = .ok (.aload_n 0, 1) := by decide +kernel
theorem dX2_peaceLeft_67 : decode cX2_peaceLeft 67 = .ok (.getfield 11, 3) := by decide +kernel
theorem dX2_peaceLeft_70 : decode cX2_peaceLeft 70 = .ok (.isub, 1) := by decide +kernel
theorem dX2_peaceLeft_71 : decode cX2_peaceLeft 71 = .ok (.invokestatic 50, 3) := by decide +kernel
theorem dX2_peaceLeft_74 : decode cX2_peaceLeft 74 = .ok (.istore_n 3, 1) := by decide +kernel
theorem dX2_peaceLeft_75 : decode cX2_peaceLeft 75 = .ok (.iinc 4 1, 3) := by decide +kernel
theorem dX2_peaceLeft_78 : decode cX2_peaceLeft 78 = .ok (.goto (-73), 3) := by decide +kernel
theorem dX2_peaceLeft_81 : decode cX2_peaceLeft 81 = .ok (.iload_n 3, 1) := by decide +kernel
theorem dX2_peaceLeft_82 : decode cX2_peaceLeft 82 = .ok (.ireturn, 1) := by decide +kernel
theorem dX2_whyNotDue_0 : decode cX2_whyNotDue 0 = .ok (.aload_n 0, 1) := by decide +kernel
theorem dX2_whyNotDue_1 : decode cX2_whyNotDue 1 = .ok (.iload_n 1, 1) := by decide +kernel
theorem dX2_whyNotDue_2 : decode cX2_whyNotDue 2 = .ok (.invokevirtual 69, 3) := by decide +kernel
theorem dX2_whyNotDue_5 : decode cX2_whyNotDue 5 = .ok (.ifCond .ne 5, 3) := by decide +kernel
theorem dX2_whyNotDue_8 : decode cX2_whyNotDue 8 = .ok (.iconst 1, 1) := by decide +kernel
theorem dX2_whyNotDue_9 : decode cX2_whyNotDue 9 = .ok (.ireturn, 1) := by decide +kernel
theorem dX2_whyNotDue_10 : decode cX2_whyNotDue 10 = .ok (.iload_n 2, 1) := by decide +kernel
theorem dX2_whyNotDue_11 : decode cX2_whyNotDue 11 = .ok (.ifCond .eq 5, 3) := by decide +kernel
theorem dX2_whyNotDue_14 : decode cX2_whyNotDue 14 = .ok (.iconst 2, 1) := by decide +kernel
theorem dX2_whyNotDue_15 : decode cX2_whyNotDue 15 = .ok (.ireturn, 1) := by decide +kernel
theorem dX2_whyNotDue_16 : decode cX2_whyNotDue 16 = .ok (.aload_n 0, 1) := by decide +kernel
theorem dX2_whyNotDue_17 : decode cX2_whyNotDue 17 = .ok (.iload_n 1, 1) := by decide +kernel
theorem dX2_whyNotDue_18 : decode cX2_whyNotDue 18 = .ok (.invokevirtual 117, 3) := by decide +kernel
theorem dX2_whyNotDue_21 : decode cX2_whyNotDue 21 = .ok (.aload_n 0, 1) := by decide +kernel
theorem dX2_whyNotDue_22 : decode cX2_whyNotDue 22 = .ok (.iconst 0, 1) := by decide +kernel
theorem dX2_whyNotDue_23 : decode cX2_whyNotDue 23 = .ok (.iconst 1, 1) := by decide +kernel
theorem dX2_whyNotDue_24 : decode cX2_whyNotDue 24 = .ok (.invokevirtual 47, 3) := by decide +kernel
theorem dX2_whyNotDue_27 : decode cX2_whyNotDue 27 = .ok (.if_icmp .ge 7, 3) := by decide +kernel
theorem dX2_whyNotDue_30 : decode cX2_whyNotDue 30 = .ok (.iconst 3, 1) := by decide +kernel
theorem dX2_whyNotDue_31 : decode cX2_whyNotDue 31 = .ok (.goto 4, 3) := by decide +kernel
theorem dX2_whyNotDue_34 : decode cX2_whyNotDue 34 = .ok (.iconst 0, 1) := by decide +kernel
theorem dX2_whyNotDue_35 : decode cX2_whyNotDue 35 = .ok (.ireturn, 1) := by decide +kernel
theorem dX2_hoursUntilWay_0 : decode cX2_hoursUntilWay 0 = .ok (.aload_n 0, 1) := by decide +kernel
theorem dX2_hoursUntilWay_1 : decode cX2_hoursUntilWay 1 = .ok (.iload_n 1, 1) := by decide +kernel
theorem dX2_hoursUntilWay_2 : decode cX2_hoursUntilWay 2 = .ok (.invokevirtual 91, 3) := by decide +kernel
theorem dX2_hoursUntilWay_5 : decode cX2_hoursUntilWay 5 = .ok (.ifCond .eq 5, 3) := by decide +kernel
theorem dX2_hoursUntilWay_8 : decode cX2_hoursUntilWay 8 = .ok (.iconst 0, 1) := by decide +kernel
theorem dX2_hoursUntilWay_9 : decode cX2_hoursUntilWay 9 = .ok (.ireturn, 1) := by decide +kernel
theorem dX2_hoursUntilWay_10 : decode cX2_hoursUntilWay 10 = .ok (.aload_n 0, 1) := by decide +kernel
theorem dX2_hoursUntilWay_11 : decode cX2_hoursUntilWay 11 = .ok (.iconst 2, 1) := by decide +kernel
theorem dX2_hoursUntilWay_12 : decode cX2_hoursUntilWay 12 = .ok (.invokevirtual 134, 3) := by decide +kernel
theorem dX2_hoursUntilWay_15 : decode cX2_hoursUntilWay 15 = .ok (.ifCond .eq 14, 3) := by decide +kernel
theorem dX2_hoursUntilWay_18 : decode cX2_hoursUntilWay 18 = .ok (.aload_n 0, 1) := by decide +kernel
theorem dX2_hoursUntilWay_19 : decode cX2_hoursUntilWay 19 = .ok (.iload_n 1, 1) := by decide +kernel
theorem dX2_hoursUntilWay_20 : decode cX2_hoursUntilWay 20 = .ok (.invokevirtual 137, 3) := by decide +kernel
theorem dX2_hoursUntilWay_23 : decode cX2_hoursUntilWay 23 = .ok (.invokestatic 140, 3) := by decide +kernel
theorem dX2_hoursUntilWay_26 : decode cX2_hoursUntilWay 26 = .ok (.goto 5, 3) := by decide +kernel
theorem dX2_hoursUntilWay_29 : decode cX2_hoursUntilWay 29 = .ok (.bipush (-6), 2) := by decide +kernel
theorem dX2_hoursUntilWay_31 : decode cX2_hoursUntilWay 31 = .ok (.ireturn, 1) := by decide +kernel
theorem dX2_hoursUntilDuel_0 : decode cX2_hoursUntilDuel 0 = .ok (.aload_n 0, 1) := by decide +kernel
theorem dX2_hoursUntilDuel_1 : decode cX2_hoursUntilDuel 1 = .ok (.iload_n 1, 1) := by decide +kernel
theorem dX2_hoursUntilDuel_2 : decode cX2_hoursUntilDuel 2 = .ok (.invokevirtual 91, 3) := by decide +kernel
theorem dX2_hoursUntilDuel_5 : decode cX2_hoursUntilDuel 5 = .ok (.iconst 3, 1) := by decide +kernel
theorem dX2_hoursUntilDuel_6 : decode cX2_hoursUntilDuel 6 = .ok (.iand, 1) := by decide +kernel
theorem dX2_hoursUntilDuel_7 : decode cX2_hoursUntilDuel 7 = .ok (.ifCond .eq 6, 3) := by decide +kernel
theorem dX2_hoursUntilDuel_10 : decode cX2_hoursUntilDuel 10 = .ok (.bipush (-6), 2) := by decide +kernel
theorem dX2_hoursUntilDuel_12 : decode cX2_hoursUntilDuel 12 = .ok (.ireturn, 1) := by decide +kernel
theorem dX2_hoursUntilDuel_13 : decode cX2_hoursUntilDuel 13 = .ok (.aload_n 0, 1) := by decide +kernel
theorem dX2_hoursUntilDuel_14 : decode cX2_hoursUntilDuel 14 = .ok (.bipush 44, 2) := by decide +kernel
theorem dX2_hoursUntilDuel_16 : decode cX2_hoursUntilDuel 16 = .ok (.iload_n 1, 1) := by decide +kernel
theorem dX2_hoursUntilDuel_17 : decode cX2_hoursUntilDuel 17 = .ok (.invokevirtual 47, 3) := by decide +kernel
theorem dX2_hoursUntilDuel_20 : decode cX2_hoursUntilDuel 20 = .ok (.istore_n 2, 1) := by decide +kernel
theorem dX2_hoursUntilDuel_21 : decode cX2_hoursUntilDuel 21 = .ok (.aload_n 0, 1) := by decide +kernel
theorem dX2_hoursUntilDuel_22 : decode cX2_hoursUntilDuel 22 = .ok (.bipush 56, 2) := by decide +kernel
theorem dX2_hoursUntilDuel_24 : decode cX2_hoursUntilDuel 24 = .ok (.iload_n 1, 1) := by decide +kernel
theorem dX2_hoursUntilDuel_25 : decode cX2_hoursUntilDuel 25 = .ok (.invokevirtual 47, 3) := by decide +kernel
theorem dX2_hoursUntilDuel_28 : decode cX2_hoursUntilDuel 28 = .ok (.istore_n 3, 1) := by decide +kernel
theorem dX2_hoursUntilDuel_29 : decode cX2_hoursUntilDuel 29 = .ok (.iconst 0, 1) := by decide +kernel
theorem dX2_hoursUntilDuel_30 : decode cX2_hoursUntilDuel 30 = .ok (.aload_n 0, 1) := by decide +kernel
theorem dX2_hoursUntilDuel_31 : decode cX2_hoursUntilDuel 31 = .ok (.iconst 0, 1) := by decide +kernel
theorem dX2_hoursUntilDuel_32 : decode cX2_hoursUntilDuel 32 = .ok (.iconst 1, 1) := by decide +kernel
theorem dX2_hoursUntilDuel_33 : decode cX2_hoursUntilDuel 33 = .ok (.invokevirtual 47, 3) := by decide +kernel
theorem dX2_hoursUntilDuel_36 : decode cX2_hoursUntilDuel 36 = .ok (.aload_n 0, 1) := by decide +kernel
theorem dX2_hoursUntilDuel_37 : decode cX2_hoursUntilDuel 37 = .ok (.iload_n 1, 1) := by decide +kernel

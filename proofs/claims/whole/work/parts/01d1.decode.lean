theorem dX0_init_0 : decode cX0_init 0 = .ok (.aload_n 0, 1) := by decide +kernel
theorem dX0_init_1 : decode cX0_init 1 = .ok (.invokespecial 3, 3) := by decide +kernel
theorem dX0_init_4 : decode cX0_init 4 = .ok (.aload_n 0, 1) := by decide +kernel
theorem dX0_init_5 : decode cX0_init 5 = .ok (.bipush 7, 2) := by decide +kernel
theorem dX0_init_7 : decode cX0_init 7 = .ok (.anewarray 9, 3) := by decide +kernel
theorem dX0_init_10 : decode cX0_init 10 = .ok (.putfield 11, 3) := by decide +kernel
theorem dX0_init_13 : decode cX0_init 13 = .ok (.aload_n 0, 1) := by decide +kernel
theorem dX0_init_14 : decode cX0_init 14 = .ok (.iconst 0, 1) := by decide +kernel
theorem dX0_init_15 : decode cX0_init 15 = .ok (.putfield 15, 3) := by decide +kernel
theorem dX0_init_18 : decode cX0_init 18 = .ok (.aload_n 0, 1) := by decide +kernel
theorem dX0_init_19 : decode cX0_init 19 = .ok (.iconst 0, 1) := by decide +kernel
theorem dX0_init_20 : decode cX0_init 20 = .ok (.putfield 19, 3) := by decide +kernel
theorem dX0_init_23 : decode cX0_init 23 = .ok (.iconst 0, 1) := by decide +kernel
theorem dX0_init_24 : decode cX0_init 24 = .ok (.istore_n 1, 1) := by decide +kernel
theorem dX0_init_25 : decode cX0_init 25 = .ok (.iload_n 1, 1) := by decide +kernel
theorem dX0_init_26 : decode cX0_init 26 = .ok (.aload_n 0, 1) := by decide +kernel
theorem dX0_init_27 : decode cX0_init 27 = .ok (.getfield 11, 3) := by decide +kernel
theorem dX0_init_30 : decode cX0_init 30 = .ok (.arraylength, 1) := by decide +kernel
theorem dX0_init_31 : decode cX0_init 31 = .ok (.if_icmp .ge 22, 3) := by decide +kernel
theorem dX0_init_34 : decode cX0_init 34 = .ok (.aload_n 0, 1) := by decide +kernel
theorem dX0_init_35 : decode cX0_init 35 = .ok (.getfield 11, 3) := by decide +kernel
theorem dX0_init_38 : decode cX0_init 38 = .ok (.iload_n 1, 1) := by decide +kernel
theorem dX0_init_39 : decode cX0_init 39 = .ok (.new 9, 3) := by decide +kernel
theorem dX0_init_42 : decode cX0_init 42 = .ok (.dup, 1) := by decide +kernel
theorem dX0_init_43 : decode cX0_init 43 = .ok (.invokespecial 22, 3) := by decide +kernel
theorem dX0_init_46 : decode cX0_init 46 = .ok (.aastore, 1) := by decide +kernel
theorem dX0_init_47 : decode cX0_init 47 = .ok (.iinc 1 1, 3) := by decide +kernel
theorem dX0_init_50 : decode cX0_init 50 = .ok (.goto (-25), 3) := by decide +kernel
theorem dX0_init_53 : decode cX0_init 53 = .ok (.return_, 1) := by decide +kernel
theorem dX0_note_0 : decode cX0_note 0 = .ok (.aload_n 0, 1) := by decide +kernel
theorem dX0_note_1 : decode cX0_note 1 = .ok (.aload_n 0, 1) := by decide +kernel
theorem dX0_note_2 : decode cX0_note 2 = .ok (.getfield 19, 3) := by decide +kernel
theorem dX0_note_5 : decode cX0_note 5 = .ok (.invokevirtual 23, 3) := by decide +kernel
theorem dX0_note_8 : decode cX0_note 8 = .ok (.astore_n 2, 1) := by decide +kernel
theorem dX0_note_9 : decode cX0_note 9 = .ok (.aload_n 2, 1) := by decide +kernel
theorem dX0_note_10 : decode cX0_note 10 = .ok (.ifnull 8, 3) := by decide +kernel
theorem dX0_note_13 : decode cX0_note 13 = .ok (.aload_n 2, 1) := by decide +kernel
theorem dX0_note_14 : decode cX0_note 14 = .ok (.aload_n 1, 1) := by decide +kernel
theorem dX0_note_15 : decode cX0_note 15 = .ok (.invokevirtual 27, 3) := by decide +kernel
theorem dX0_note_18 : decode cX0_note 18 = .ok (.return_, 1) := by decide +kernel
theorem dX0_keepUnlessError_0 : decode cX0_keepUnlessError 0 = .ok (.iload_n 1, 1) := by decide +kernel
theorem dX0_keepUnlessError_1 : decode cX0_keepUnlessError 1 = .ok (.invokestatic 31, 3) := by decide +kernel
theorem dX0_keepUnlessError_4 : decode cX0_keepUnlessError 4 = .ok (.ifCond .eq 5, 3) := by decide +kernel
theorem dX0_keepUnlessError_7 : decode cX0_keepUnlessError 7 = .ok (.iload_n 1, 1) := by decide +kernel
theorem dX0_keepUnlessError_8 : decode cX0_keepUnlessError 8 = .ok (.ireturn, 1) := by decide +kernel
theorem dX0_keepUnlessError_9 : decode cX0_keepUnlessError 9 = .ok (.aload_n 0, 1) := by decide +kernel
theorem dX0_keepUnlessError_10 : decode cX0_keepUnlessError 10 = .ok (.getfield 19, 3) := by decide +kernel
theorem dX0_keepUnlessError_13 : decode cX0_keepUnlessError 13 = .ok (.bipush 6, 2) := by decide +kernel
theorem dX0_keepUnlessError_15 : decode cX0_keepUnlessError 15 = .ok (.if_icmp .ge 16, 3) := by decide +kernel
theorem dX0_keepUnlessError_18 : decode cX0_keepUnlessError 18 = .ok (.aload_n 0, 1) := by decide +kernel
theorem dX0_keepUnlessError_19 : decode cX0_keepUnlessError 19 = .ok (.dup, 1) := by decide +kernel
theorem dX0_keepUnlessError_20 : decode cX0_keepUnlessError 20 = .ok (.getfield 19, 3) := by decide +kernel
theorem dX0_keepUnlessError_23 : decode cX0_keepUnlessError 23 = .ok (.iconst 1, 1) := by decide +kernel
theorem dX0_keepUnlessError_24 : decode cX0_keepUnlessError 24 = .ok (.iadd, 1) := by decide +kernel
theorem dX0_keepUnlessError_25 : decode cX0_keepUnlessError 25 = .ok (.putfield 19, 3) := by decide +kernel
theorem dX0_keepUnlessError_28 : decode cX0_keepUnlessError 28 = .ok (.goto 12, 3) := by decide +kernel
theorem dX0_keepUnlessError_31 : decode cX0_keepUnlessError 31 = .ok (.aload_n 0, 1) := by decide +kernel
theorem dX0_keepUnlessError_32 : decode cX0_keepUnlessError 32 = .ok (.aload_n 0, 1) := by decide +kernel
theorem dX0_keepUnlessError_33 : decode cX0_keepUnlessError 33 = .ok (.iconst 1, 1) := by decide +kernel
theorem dX0_keepUnlessError_34 : decode cX0_keepUnlessError 34 = .ok (.invokevirtual 37, 3) := by decide +kernel
theorem dX0_keepUnlessError_37 : decode cX0_keepUnlessError 37 = .ok (.putfield 15, 3) := by decide +kernel
theorem dX0_keepUnlessError_40 : decode cX0_keepUnlessError 40 = .ok (.iload_n 1, 1) := by decide +kernel
theorem dX0_keepUnlessError_41 : decode cX0_keepUnlessError 41 = .ok (.ireturn, 1) := by decide +kernel
theorem dX0_goBack_0 : decode cX0_goBack 0 = .ok (.aload_n 0, 1) := by decide +kernel
theorem dX0_goBack_1 : decode cX0_goBack 1 = .ok (.aload_n 0, 1) := by decide +kernel
theorem dX0_goBack_2 : decode cX0_goBack 2 = .ok (.getfield 19, 3) := by decide +kernel
theorem dX0_goBack_5 : decode cX0_goBack 5 = .ok (.iconst 1, 1) := by decide +kernel
theorem dX0_goBack_6 : decode cX0_goBack 6 = .ok (.isub, 1) := by decide +kernel
theorem dX0_goBack_7 : decode cX0_goBack 7 = .ok (.invokevirtual 23, 3) := by decide +kernel
theorem dX0_goBack_10 : decode cX0_goBack 10 = .ok (.astore_n 2, 1) := by decide +kernel
theorem dX0_goBack_11 : decode cX0_goBack 11 = .ok (.aload_n 0, 1) := by decide +kernel
theorem dX0_goBack_12 : decode cX0_goBack 12 = .ok (.getfield 19, 3) := by decide +kernel
theorem dX0_goBack_15 : decode cX0_goBack 15 = .ok (.ifCond .eq 7, 3) := by decide +kernel
theorem dX0_goBack_18 : decode cX0_goBack 18 = .ok (.aload_n 2, 1) := by decide +kernel
theorem dX0_goBack_19 : decode cX0_goBack 19 = .ok (.ifnonnull 5, 3) := by decide +kernel
theorem dX0_goBack_22 : decode cX0_goBack 22 = .ok (.iconst 0, 1) := by decide +kernel
theorem dX0_goBack_23 : decode cX0_goBack 23 = .ok (.ireturn, 1) := by decide +kernel
theorem dX0_goBack_24 : decode cX0_goBack 24 = .ok (.aload_n 1, 1) := by decide +kernel
theorem dX0_goBack_25 : decode cX0_goBack 25 = .ok (.aload_n 2, 1) := by decide +kernel
theorem dX0_goBack_26 : decode cX0_goBack 26 = .ok (.invokevirtual 27, 3) := by decide +kernel
theorem dX0_goBack_29 : decode cX0_goBack 29 = .ok (.aload_n 0, 1) := by decide +kernel
theorem dX0_goBack_30 : decode cX0_goBack 30 = .ok (.dup, 1) := by decide +kernel
theorem dX0_goBack_31 : decode cX0_goBack 31 = .ok (.getfield 19, 3) := by decide +kernel
theorem dX0_goBack_34 : decode cX0_goBack 34 = .ok (.iconst 1, 1) := by decide +kernel
theorem dX0_goBack_35 : decode cX0_goBack 35 = .ok (.isub, 1) := by decide +kernel
theorem dX0_goBack_36 : decode cX0_goBack 36 = .ok (.putfield 19, 3) := by decide +kernel
theorem dX0_goBack_39 : decode cX0_goBack 39 = .ok (.iconst 1, 1) := by decide +kernel
theorem dX0_goBack_40 : decode cX0_goBack 40 = .ok (.ireturn, 1) := by decide +kernel
theorem dX0_stateAt_0 : decode cX0_stateAt 0 = .ok (.aload_n 0, 1) := by decide +kernel
theorem dX0_stateAt_1 : decode cX0_stateAt 1 = .ok (.iload_n 1, 1) := by decide +kernel
theorem dX0_stateAt_2 : decode cX0_stateAt 2 = .ok (.invokevirtual 37, 3) := by decide +kernel
theorem dX0_stateAt_5 : decode cX0_stateAt 5 = .ok (.istore_n 2, 1) := by decide +kernel
theorem dX0_stateAt_6 : decode cX0_stateAt 6 = .ok (.iload_n 2, 1) := by decide +kernel
theorem dX0_stateAt_7 : decode cX0_stateAt 7 = .ok (.ifCond .lt 21, 3) := by decide +kernel
theorem dX0_stateAt_10 : decode cX0_stateAt 10 = .ok (.iload_n 2, 1) := by decide +kernel
theorem dX0_stateAt_11 : decode cX0_stateAt 11 = .ok (.aload_n 0, 1) := by decide +kernel
theorem dX0_stateAt_12 : decode cX0_stateAt 12 = .ok (.getfield 11, 3) := by decide +kernel
theorem dX0_stateAt_15 : decode cX0_stateAt 15 = .ok (.arraylength, 1) := by decide +kernel
theorem dX0_stateAt_16 : decode cX0_stateAt 16 = .ok (.if_icmp .ge 12, 3) := by decide +kernel
theorem dX0_stateAt_19 : decode cX0_stateAt 19 = .ok (.aload_n 0, 1) := by decide +kernel
theorem dX0_stateAt_20 : decode cX0_stateAt 20 = .ok (.getfield 11, 3) := by decide +kernel
theorem dX0_stateAt_23 : decode cX0_stateAt 23 = .ok (.iload_n 2, 1) := by decide +kernel
theorem dX0_stateAt_24 : decode cX0_stateAt 24 = .ok (.aaload, 1) := by decide +kernel
theorem dX0_stateAt_25 : decode cX0_stateAt 25 = .ok (.goto 4, 3) := by decide +kernel
theorem dX0_stateAt_28 : decode cX0_stateAt 28 = .ok (.aconst_null, 1) := by decide +kernel
theorem dX0_stateAt_29 : decode cX0_stateAt 29 = .ok (.areturn, 1) := by decide +kernel
theorem dX0_placeOf_0 : decode cX0_placeOf 0 = .ok (.aload_n 0, 1) := by decide +kernel
theorem dX0_placeOf_1 : decode cX0_placeOf 1 = .ok (.getfield 15, 3) := by decide +kernel
theorem dX0_placeOf_4 : decode cX0_placeOf 4 = .ok (.iload_n 1, 1) := by decide +kernel
theorem dX0_placeOf_5 : decode cX0_placeOf 5 = .ok (.iadd, 1) := by decide +kernel
theorem dX0_placeOf_6 : decode cX0_placeOf 6 = .ok (.bipush 7, 2) := by decide +kernel
theorem dX0_placeOf_8 : decode cX0_placeOf 8 = .ok (.invokestatic 41, 3) := by decide +kernel
theorem dX0_placeOf_11 : decode cX0_placeOf 11 = .ok (.ireturn, 1) := by decide +kernel
theorem dX1_init_0 : decode cX1_init 0 = .ok (.aload_n 0, 1) := by decide +kernel
theorem dX1_init_1 : decode cX1_init 1 = .ok (.invokespecial 3, 3) := by decide +kernel
theorem dX1_init_4 : decode cX1_init 4 = .ok (.aload_n 0, 1) := by decide +kernel
theorem dX1_init_5 : decode cX1_init 5 = .ok (.bipush 80, 2) := by decide +kernel
theorem dX1_init_7 : decode cX1_init 7 = .ok (.newarray .int, 2) := by decide +kernel
theorem dX1_init_9 : decode cX1_init 9 = .ok (.putfield 11, 3) := by decide +kernel
theorem dX1_init_12 : decode cX1_init 12 = .ok (.aload_n 0, 1) := by decide +kernel
theorem dX1_init_13 : decode cX1_init 13 = .ok (.iconst 0, 1) := by decide +kernel
theorem dX1_init_14 : decode cX1_init 14 = .ok (.putfield 15, 3) := by decide +kernel
theorem dX1_init_17 : decode cX1_init 17 = .ok (.aload_n 0, 1) := by decide +kernel
theorem dX1_init_18 : decode cX1_init 18 = .ok (.iconst 0, 1) := by decide +kernel
theorem dX1_init_19 : decode cX1_init 19 = .ok (.putfield 19, 3) := by decide +kernel
theorem dX1_init_22 : decode cX1_init 22 = .ok (.aload_n 0, 1) := by decide +kernel
theorem dX1_init_23 : decode cX1_init 23 = .ok (.iconst 0, 1) := by decide +kernel
theorem dX1_init_24 : decode cX1_init 24 = .ok (.putfield 22, 3) := by decide +kernel
theorem dX1_init_27 : decode cX1_init 27 = .ok (.aload_n 0, 1) := by decide +kernel
theorem dX1_init_28 : decode cX1_init 28 = .ok (.iconst 3, 1) := by decide +kernel
theorem dX1_init_29 : decode cX1_init 29 = .ok (.newarray .int, 2) := by decide +kernel
theorem dX1_init_31 : decode cX1_init 31 = .ok (.putfield 25, 3) := by decide +kernel
theorem dX1_init_34 : decode cX1_init 34 = .ok (.aload_n 0, 1) := by decide +kernel
theorem dX1_init_35 : decode cX1_init 35 = .ok (.iconst 0, 1) := by decide +kernel
theorem dX1_init_36 : decode cX1_init 36 = .ok (.putfield 28, 3) := by decide +kernel
theorem dX1_init_39 : decode cX1_init 39 = .ok (.return_, 1) := by decide +kernel
theorem dX1_signsIn_0 : decode cX1_signsIn 0 = .ok (.lload_n 0, 1) := by decide +kernel
theorem dX1_signsIn_1 : decode cX1_signsIn 1 = .ok (.lstore_n 2, 1) := by decide +kernel
theorem dX1_signsIn_2 : decode cX1_signsIn 2 = .ok (.iconst 0, 1) := by decide +kernel
theorem dX1_signsIn_3 : decode cX1_signsIn 3 = .ok (.istore 4, 2) := by decide +kernel
theorem dX1_signsIn_5 : decode cX1_signsIn 5 = .ok (.iload 4, 2) := by decide +kernel
theorem dX1_signsIn_7 : decode cX1_signsIn 7 = .ok (.bipush 8, 2) := by decide +kernel
theorem dX1_signsIn_9 : decode cX1_signsIn 9 = .ok (.if_icmp .ge 50, 3) := by decide +kernel
theorem dX1_signsIn_12 : decode cX1_signsIn 12 = .ok (.lload_n 2, 1) := by decide +kernel
theorem dX1_signsIn_13 : decode cX1_signsIn 13 = .ok (.ldc2_w 31, 3) := by decide +kernel
theorem dX1_signsIn_16 : decode cX1_signsIn 16 = .ok (.land, 1) := by decide +kernel
theorem dX1_signsIn_17 : decode cX1_signsIn 17 = .ok (.lconst 0, 1) := by decide +kernel
theorem dX1_signsIn_18 : decode cX1_signsIn 18 = .ok (.lcmp, 1) := by decide +kernel
theorem dX1_signsIn_19 : decode cX1_signsIn 19 = .ok (.ifCond .eq 40, 3) := by decide +kernel
theorem dX1_signsIn_22 : decode cX1_signsIn 22 = .ok (.lload_n 2, 1) := by decide +kernel
theorem dX1_signsIn_23 : decode cX1_signsIn 23 = .ok (.ldc2_w 31, 3) := by decide +kernel
theorem dX1_signsIn_26 : decode cX1_signsIn 26 = .ok (.land, 1) := by decide +kernel
theorem dX1_signsIn_27 : decode cX1_signsIn 27 = .ok (.ldc2_w 33, 3) := by decide +kernel
theorem dX1_signsIn_30 : decode cX1_signsIn 30 = .ok (.lcmp, 1) := by decide +kernel
theorem dX1_signsIn_31 : decode cX1_signsIn 31 = .ok (.ifCond .lt 15, 3) := by decide +kernel
theorem dX1_signsIn_34 : decode cX1_signsIn 34 = .ok (.lload_n 2, 1) := by decide +kernel
theorem dX1_signsIn_35 : decode cX1_signsIn 35 = .ok (.ldc2_w 31, 3) := by decide +kernel
theorem dX1_signsIn_38 : decode cX1_signsIn 38 = .ok (.land, 1) := by decide +kernel
theorem dX1_signsIn_39 : decode cX1_signsIn 39 = .ok (.ldc2_w 35, 3) := by decide +kernel
theorem dX1_signsIn_42 : decode cX1_signsIn 42 = .ok (.lcmp, 1) := by decide +kernel
theorem dX1_signsIn_43 : decode cX1_signsIn 43 = .ok (.ifCond .le 5, 3) := by decide +kernel
theorem dX1_signsIn_46 : decode cX1_signsIn 46 = .ok (.iconst 0, 1) := by decide +kernel
theorem dX1_signsIn_47 : decode cX1_signsIn 47 = .ok (.ireturn, 1) := by decide +kernel
theorem dX1_signsIn_48 : decode cX1_signsIn 48 = .ok (.lload_n 2, 1) := by decide +kernel
theorem dX1_signsIn_49 : decode cX1_signsIn 49 = .ok (.bipush 8, 2) := by decide +kernel
theorem dX1_signsIn_51 : decode cX1_signsIn 51 = .ok (.lushr, 1) := by decide +kernel
theorem dX1_signsIn_52 : decode cX1_signsIn 52 = .ok (.lstore_n 2, 1) := by decide +kernel
theorem dX1_signsIn_53 : decode cX1_signsIn 53 = .ok (.iinc 4 1, 3) := by decide +kernel
theorem dX1_signsIn_56 : decode cX1_signsIn 56 = .ok (.goto (-51), 3) := by decide +kernel
theorem dX1_signsIn_59 : decode cX1_signsIn 59 = .ok (.lload_n 2, 1) := by decide +kernel
theorem dX1_signsIn_60 : decode cX1_signsIn 60 = .ok (.lconst 0, 1) := by decide +kernel
theorem dX1_signsIn_61 : decode cX1_signsIn 61 = .ok (.lcmp, 1) := by decide +kernel
theorem dX1_signsIn_62 : decode cX1_signsIn 62 = .ok (.ifCond .ne 8, 3) := by decide +kernel
theorem dX1_signsIn_65 : decode cX1_signsIn 65 = .ok (.iload 4, 2) := by decide +kernel
theorem dX1_signsIn_67 : decode cX1_signsIn 67 = .ok (.goto 4, 3) := by decide +kernel
theorem dX1_signsIn_70 : decode cX1_signsIn 70 = .ok (.iconst 0, 1) := by decide +kernel
theorem dX1_signsIn_71 : decode cX1_signsIn 71 = .ok (.ireturn, 1) := by decide +kernel
theorem dX1_append_0 : decode cX1_append 0 = .ok (.iload_n 3, 1) := by decide +kernel
theorem dX1_append_1 : decode cX1_append 1 = .ok (.ifCond .lt 20, 3) := by decide +kernel
theorem dX1_append_4 : decode cX1_append 4 = .ok (.iload_n 3, 1) := by decide +kernel
theorem dX1_append_5 : decode cX1_append 5 = .ok (.bipush 8, 2) := by decide +kernel
theorem dX1_append_7 : decode cX1_append 7 = .ok (.if_icmp .gt 14, 3) := by decide +kernel
theorem dX1_append_10 : decode cX1_append 10 = .ok (.aload_n 0, 1) := by decide +kernel
theorem dX1_append_11 : decode cX1_append 11 = .ok (.getfield 15, 3) := by decide +kernel
theorem dX1_append_14 : decode cX1_append 14 = .ok (.iload_n 3, 1) := by decide +kernel
theorem dX1_append_15 : decode cX1_append 15 = .ok (.iadd, 1) := by decide +kernel
theorem dX1_append_16 : decode cX1_append 16 = .ok (.bipush 80, 2) := by decide +kernel
theorem dX1_append_18 : decode cX1_append 18 = .ok (.if_icmp .le 5, 3) := by decide +kernel
theorem dX1_append_21 : decode cX1_append 21 = .ok (.iconst 0, 1) := by decide +kernel
theorem dX1_append_22 : decode cX1_append 22 = .ok (.ireturn, 1) := by decide +kernel
theorem dX1_append_23 : decode cX1_append 23 = .ok (.iload_n 3, 1) := by decide +kernel
theorem dX1_append_24 : decode cX1_append 24 = .ok (.iconst 1, 1) := by decide +kernel
theorem dX1_append_25 : decode cX1_append 25 = .ok (.isub, 1) := by decide +kernel
theorem dX1_append_26 : decode cX1_append 26 = .ok (.istore 4, 2) := by decide +kernel
theorem dX1_append_28 : decode cX1_append 28 = .ok (.iload 4, 2) := by decide +kernel
theorem dX1_append_30 : decode cX1_append 30 = .ok (.ifCond .lt 25, 3) := by decide +kernel
theorem dX1_append_33 : decode cX1_append 33 = .ok (.aload_n 0, 1) := by decide +kernel
theorem dX1_append_34 : decode cX1_append 34 = .ok (.lload_n 1, 1) := by decide +kernel
theorem dX1_append_35 : decode cX1_append 35 = .ok (.bipush 8, 2) := by decide +kernel
theorem dX1_append_37 : decode cX1_append 37 = .ok (.iload 4, 2) := by decide +kernel
theorem dX1_append_39 : decode cX1_append 39 = .ok (.imul, 1) := by decide +kernel
theorem dX1_append_40 : decode cX1_append 40 = .ok (.lushr, 1) := by decide +kernel
theorem dX1_append_41 : decode cX1_append 41 = .ok (.ldc2_w 31, 3) := by decide +kernel
theorem dX1_append_44 : decode cX1_append 44 = .ok (.land, 1) := by decide +kernel
theorem dX1_append_45 : decode cX1_append 45 = .ok (.l2i, 1) := by decide +kernel
theorem dX1_append_46 : decode cX1_append 46 = .ok (.invokevirtual 37, 3) := by decide +kernel
theorem dX1_append_49 : decode cX1_append 49 = .ok (.iinc 4 (-1), 3) := by decide +kernel
theorem dX1_append_52 : decode cX1_append 52 = .ok (.goto (-24), 3) := by decide +kernel
theorem dX1_append_55 : decode cX1_append 55 = .ok (.iconst 1, 1) := by decide +kernel
theorem dX1_append_56 : decode cX1_append 56 = .ok (.ireturn, 1) := by decide +kernel
theorem dX1_addSign_0 : decode cX1_addSign 0 = .ok (.aload_n 0, 1) := by decide +kernel
theorem dX1_addSign_1 : decode cX1_addSign 1 = .ok (.getfield 15, 3) := by decide +kernel
theorem dX1_addSign_4 : decode cX1_addSign 4 = .ok (.ifCond .lt 35, 3) := by decide +kernel
theorem dX1_addSign_7 : decode cX1_addSign 7 = .ok (.aload_n 0, 1) := by decide +kernel
theorem dX1_addSign_8 : decode cX1_addSign 8 = .ok (.getfield 15, 3) := by decide +kernel
theorem dX1_addSign_11 : decode cX1_addSign 11 = .ok (.aload_n 0, 1) := by decide +kernel
theorem dX1_addSign_12 : decode cX1_addSign 12 = .ok (.getfield 11, 3) := by decide +kernel
theorem dX1_addSign_15 : decode cX1_addSign 15 = .ok (.arraylength, 1) := by decide +kernel
theorem dX1_addSign_16 : decode cX1_addSign 16 = .ok (.if_icmp .ge 23, 3) := by decide +kernel
theorem dX1_addSign_19 : decode cX1_addSign 19 = .ok (.aload_n 0, 1) := by decide +kernel
theorem dX1_addSign_20 : decode cX1_addSign 20 = .ok (.getfield 11, 3) := by decide +kernel
theorem dX1_addSign_23 : decode cX1_addSign 23 = .ok (.aload_n 0, 1) := by decide +kernel
theorem dX1_addSign_24 : decode cX1_addSign 24 = .ok (.getfield 15, 3) := by decide +kernel
theorem dX1_addSign_27 : decode cX1_addSign 27 = .ok (.iload_n 1, 1) := by decide +kernel
theorem dX1_addSign_28 : decode cX1_addSign 28 = .ok (.iastore, 1) := by decide +kernel
theorem dX1_addSign_29 : decode cX1_addSign 29 = .ok (.aload_n 0, 1) := by decide +kernel
theorem dX1_addSign_30 : decode cX1_addSign 30 = .ok (.dup, 1) := by decide +kernel
theorem dX1_addSign_31 : decode cX1_addSign 31 = .ok (.getfield 15, 3) := by decide +kernel
theorem dX1_addSign_34 : decode cX1_addSign 34 = .ok (.iconst 1, 1) := by decide +kernel
theorem dX1_addSign_35 : decode cX1_addSign 35 = .ok (.iadd, 1) := by decide +kernel
theorem dX1_addSign_36 : decode cX1_addSign 36 = .ok (.putfield 15, 3) := by decide +kernel
theorem dX1_addSign_39 : decode cX1_addSign 39 = .ok (.return_, 1) := by decide +kernel
theorem dX1_signAt_0 : decode cX1_signAt 0 = .ok (.iload_n 1, 1) := by decide +kernel
theorem dX1_signAt_1 : decode cX1_signAt 1 = .ok (.ifCond .lt 29, 3) := by decide +kernel
theorem dX1_signAt_4 : decode cX1_signAt 4 = .ok (.iload_n 1, 1) := by decide +kernel
theorem dX1_signAt_5 : decode cX1_signAt 5 = .ok (.aload_n 0, 1) := by decide +kernel
theorem dX1_signAt_6 : decode cX1_signAt 6 = .ok (.getfield 15, 3) := by decide +kernel
theorem dX1_signAt_9 : decode cX1_signAt 9 = .ok (.if_icmp .ge 21, 3) := by decide +kernel
theorem dX1_signAt_12 : decode cX1_signAt 12 = .ok (.iload_n 1, 1) := by decide +kernel
theorem dX1_signAt_13 : decode cX1_signAt 13 = .ok (.aload_n 0, 1) := by decide +kernel
theorem dX1_signAt_14 : decode cX1_signAt 14 = .ok (.getfield 11, 3) := by decide +kernel
theorem dX1_signAt_17 : decode cX1_signAt 17 = .ok (.arraylength, 1) := by decide +kernel
theorem dX1_signAt_18 : decode cX1_signAt 18 = .ok (.if_icmp .ge 12, 3) := by decide +kernel
theorem dX1_signAt_21 : decode cX1_signAt 21 = .ok (.aload_n 0, 1) := by decide +kernel
theorem dX1_signAt_22 : decode cX1_signAt 22 = .ok (.getfield 11, 3) := by decide +kernel
theorem dX1_signAt_25 : decode cX1_signAt 25 = .ok (.iload_n 1, 1) := by decide +kernel
theorem dX1_signAt_26 : decode cX1_signAt 26 = .ok (.iaload, 1) := by decide +kernel
theorem dX1_signAt_27 : decode cX1_signAt 27 = .ok (.goto 4, 3) := by decide +kernel
theorem dX1_signAt_30 : decode cX1_signAt 30 = .ok (.iconst 0, 1) := by decide +kernel
theorem dX1_signAt_31 : decode cX1_signAt 31 = .ok (.ireturn, 1) := by decide +kernel
theorem dX1_number_0 : decode cX1_number 0 = .ok (.iload_n 1, 1) := by decide +kernel
theorem dX1_number_1 : decode cX1_number 1 = .ok (.ifCond .lt 29, 3) := by decide +kernel
theorem dX1_number_4 : decode cX1_number 4 = .ok (.iload_n 1, 1) := by decide +kernel
theorem dX1_number_5 : decode cX1_number 5 = .ok (.aload_n 0, 1) := by decide +kernel
theorem dX1_number_6 : decode cX1_number 6 = .ok (.getfield 28, 3) := by decide +kernel
theorem dX1_number_9 : decode cX1_number 9 = .ok (.if_icmp .ge 21, 3) := by decide +kernel
theorem dX1_number_12 : decode cX1_number 12 = .ok (.iload_n 1, 1) := by decide +kernel
theorem dX1_number_13 : decode cX1_number 13 = .ok (.aload_n 0, 1) := by decide +kernel
theorem dX1_number_14 : decode cX1_number 14 = .ok (.getfield 25, 3) := by decide +kernel
theorem dX1_number_17 : decode cX1_number 17 = .ok (.arraylength, 1) := by decide +kernel
theorem dX1_number_18 : decode cX1_number 18 = .ok (.if_icmp .ge 12, 3) := by decide +kernel
theorem dX1_number_21 : decode cX1_number 21 = .ok (.aload_n 0, 1) := by decide +kernel
theorem dX1_number_22 : decode cX1_number 22 = .ok (.getfield 25, 3) := by decide +kernel
theorem dX1_number_25 : decode cX1_number 25 = .ok (.iload_n 1, 1) := by decide +kernel
theorem dX1_number_26 : decode cX1_number 26 = .ok (.iaload, 1) := by decide +kernel
theorem dX1_number_27 : decode cX1_number 27 = .ok (.goto 4, 3) := by decide +kernel
theorem dX1_number_30 : decode cX1_number 30 = .ok (.iconst 0, 1) := by decide +kernel
theorem dX1_number_31 : decode cX1_number 31 = .ok (.ireturn, 1) := by decide +kernel
theorem dX1_firstFault_0 : decode cX1_firstFault 0 = .ok (.aload_n 0, 1) := by decide +kernel
theorem dX1_firstFault_1 : decode cX1_firstFault 1 = .ok (.iconst 0, 1) := by decide +kernel
theorem dX1_firstFault_2 : decode cX1_firstFault 2 = .ok (.putfield 19, 3) := by decide +kernel
theorem dX1_firstFault_5 : decode cX1_firstFault 5 = .ok (.iconst 0, 1) := by decide +kernel
theorem dX1_firstFault_6 : decode cX1_firstFault 6 = .ok (.istore_n 1, 1) := by decide +kernel
theorem dX1_firstFault_7 : decode cX1_firstFault 7 = .ok (.iload_n 1, 1) := by decide +kernel
theorem dX1_firstFault_8 : decode cX1_firstFault 8 = .ok (.bipush 80, 2) := by decide +kernel
theorem dX1_firstFault_10 : decode cX1_firstFault 10 = .ok (.if_icmp .ge 58, 3) := by decide +kernel
theorem dX1_firstFault_13 : decode cX1_firstFault 13 = .ok (.aload_n 0, 1) := by decide +kernel
theorem dX1_firstFault_14 : decode cX1_firstFault 14 = .ok (.invokevirtual 41, 3) := by decide +kernel
theorem dX1_firstFault_17 : decode cX1_firstFault 17 = .ok (.ifCond .eq 51, 3) := by decide +kernel
theorem dX1_firstFault_20 : decode cX1_firstFault 20 = .ok (.aload_n 0, 1) := by decide +kernel
theorem dX1_firstFault_21 : decode cX1_firstFault 21 = .ok (.getfield 19, 3) := by decide +kernel
theorem dX1_firstFault_24 : decode cX1_firstFault 24 = .ok (.aload_n 0, 1) := by decide +kernel
theorem dX1_firstFault_25 : decode cX1_firstFault 25 = .ok (.getfield 15, 3) := by decide +kernel
theorem dX1_firstFault_28 : decode cX1_firstFault 28 = .ok (.if_icmp .lt 6, 3) := by decide +kernel
theorem dX1_firstFault_31 : decode cX1_firstFault 31 = .ok (.bipush (-6), 2) := by decide +kernel
theorem dX1_firstFault_33 : decode cX1_firstFault 33 = .ok (.ireturn, 1) := by decide +kernel
theorem dX1_firstFault_34 : decode cX1_firstFault 34 = .ok (.aload_n 0, 1) := by decide +kernel
theorem dX1_firstFault_35 : decode cX1_firstFault 35 = .ok (.aload_n 0, 1) := by decide +kernel
theorem dX1_firstFault_36 : decode cX1_firstFault 36 = .ok (.getfield 19, 3) := by decide +kernel
theorem dX1_firstFault_39 : decode cX1_firstFault 39 = .ok (.invokevirtual 45, 3) := by decide +kernel
theorem dX1_firstFault_42 : decode cX1_firstFault 42 = .ok (.bipush 59, 2) := by decide +kernel
theorem dX1_firstFault_44 : decode cX1_firstFault 44 = .ok (.if_icmp .eq 8, 3) := by decide +kernel
theorem dX1_firstFault_47 : decode cX1_firstFault 47 = .ok (.aload_n 0, 1) := by decide +kernel
theorem dX1_firstFault_48 : decode cX1_firstFault 48 = .ok (.getfield 19, 3) := by decide +kernel
theorem dX1_firstFault_51 : decode cX1_firstFault 51 = .ok (.ireturn, 1) := by decide +kernel
theorem dX1_firstFault_52 : decode cX1_firstFault 52 = .ok (.aload_n 0, 1) := by decide +kernel
theorem dX1_firstFault_53 : decode cX1_firstFault 53 = .ok (.dup, 1) := by decide +kernel
theorem dX1_firstFault_54 : decode cX1_firstFault 54 = .ok (.getfield 19, 3) := by decide +kernel
theorem dX1_firstFault_57 : decode cX1_firstFault 57 = .ok (.iconst 1, 1) := by decide +kernel
theorem dX1_firstFault_58 : decode cX1_firstFault 58 = .ok (.iadd, 1) := by decide +kernel
theorem dX1_firstFault_59 : decode cX1_firstFault 59 = .ok (.putfield 19, 3) := by decide +kernel
theorem dX1_firstFault_62 : decode cX1_firstFault 62 = .ok (.iinc 1 1, 3) := by decide +kernel
theorem dX1_firstFault_65 : decode cX1_firstFault 65 = .ok (.goto (-58), 3) := by decide +kernel
theorem dX1_firstFault_68 : decode cX1_firstFault 68 = .ok (.aload_n 0, 1) := by decide +kernel
theorem dX1_firstFault_69 : decode cX1_firstFault 69 = .ok (.getfield 19, 3) := by decide +kernel
theorem dX1_firstFault_72 : decode cX1_firstFault 72 = .ok (.ireturn, 1) := by decide +kernel
theorem dX1_stepOverSemicolon_0 : decode cX1_stepOverSemicolon 0 = .ok (.aload_n 0, 1) := by decide +kernel
theorem dX1_stepOverSemicolon_1 : decode cX1_stepOverSemicolon 1 = .ok (.aload_n 0, 1) := by decide +kernel
theorem dX1_stepOverSemicolon_2 : decode cX1_stepOverSemicolon 2 = .ok (.getfield 19, 3) := by decide +kernel
theorem dX1_stepOverSemicolon_5 : decode cX1_stepOverSemicolon 5 = .ok (.invokevirtual 45, 3) := by decide +kernel
theorem dX1_stepOverSemicolon_8 : decode cX1_stepOverSemicolon 8 = .ok (.bipush 59, 2) := by decide +kernel
theorem dX1_stepOverSemicolon_10 : decode cX1_stepOverSemicolon 10 = .ok (.if_icmp .ne 13, 3) := by decide +kernel
theorem dX1_stepOverSemicolon_13 : decode cX1_stepOverSemicolon 13 = .ok (.aload_n 0, 1) := by decide +kernel
theorem dX1_stepOverSemicolon_14 : decode cX1_stepOverSemicolon 14 = .ok (.dup, 1) := by decide +kernel
theorem dX1_stepOverSemicolon_15 : decode cX1_stepOverSemicolon 15 = .ok (.getfield 19, 3) := by decide +kernel
theorem dX1_stepOverSemicolon_18 : decode cX1_stepOverSemicolon 18 = .ok (.iconst 1, 1) := by decide +kernel
theorem dX1_stepOverSemicolon_19 : decode cX1_stepOverSemicolon 19 = .ok (.iadd, 1) := by decide +kernel
theorem dX1_stepOverSemicolon_20 : decode cX1_stepOverSemicolon 20 = .ok (.putfield 19, 3) := by decide +kernel
theorem dX1_stepOverSemicolon_23 : decode cX1_stepOverSemicolon 23 = .ok (.return_, 1) := by decide +kernel
theorem dX1_formOf_0 : decode cX1_formOf 0 = .ok (.iload_n 0, 1) := by decide +kernel
theorem dX1_formOf_1 : decode cX1_formOf 1 = .ok (.tableswitch 131 97 119 #[128, 131, 131, 131, 131, 119, 131, 131, 113, 131, 131, 131, 131, 131, 122, 107, 131, 131, 110, 125, 131, 131, 116], 107) := by decide +kernel
theorem dX1_formOf_108 : decode cX1_formOf 108 = .ok (.ldc 49, 2) := by decide +kernel
theorem dX1_formOf_110 : decode cX1_formOf 110 = .ok (.areturn, 1) := by decide +kernel
theorem dX1_formOf_111 : decode cX1_formOf 111 = .ok (.ldc 51, 2) := by decide +kernel
theorem dX1_formOf_113 : decode cX1_formOf 113 = .ok (.areturn, 1) := by decide +kernel
theorem dX1_formOf_114 : decode cX1_formOf 114 = .ok (.ldc 53, 2) := by decide +kernel
theorem dX1_formOf_116 : decode cX1_formOf 116 = .ok (.areturn, 1) := by decide +kernel
theorem dX1_formOf_117 : decode cX1_formOf 117 = .ok (.ldc 55, 2) := by decide +kernel
theorem dX1_formOf_119 : decode cX1_formOf 119 = .ok (.areturn, 1) := by decide +kernel
theorem dX1_formOf_120 : decode cX1_formOf 120 = .ok (.ldc 57, 2) := by decide +kernel
theorem dX1_formOf_122 : decode cX1_formOf 122 = .ok (.areturn, 1) := by decide +kernel
theorem dX1_formOf_123 : decode cX1_formOf 123 = .ok (.ldc 59, 2) := by decide +kernel
theorem dX1_formOf_125 : decode cX1_formOf 125 = .ok (.areturn, 1) := by decide +kernel
theorem dX1_formOf_126 : decode cX1_formOf 126 = .ok (.ldc 57, 2) := by decide +kernel
theorem dX1_formOf_128 : decode cX1_formOf 128 = .ok (.areturn, 1) := by decide +kernel
theorem dX1_formOf_129 : decode cX1_formOf 129 = .ok (.ldc 59, 2) := by decide +kernel
theorem dX1_formOf_131 : decode cX1_formOf 131 = .ok (.areturn, 1) := by decide +kernel
theorem dX1_formOf_132 : decode cX1_formOf 132 = .ok (.ldc 61, 2) := by decide +kernel
theorem dX1_formOf_134 : decode cX1_formOf 134 = .ok (.areturn, 1) := by decide +kernel
theorem dX1_readOrder_0 : decode cX1_readOrder 0 = .ok (.aload_n 0, 1) := by decide +kernel
theorem dX1_readOrder_1 : decode cX1_readOrder 1 = .ok (.aload_n 0, 1) := by decide +kernel
theorem dX1_readOrder_2 : decode cX1_readOrder 2 = .ok (.aload_n 0, 1) := by decide +kernel
theorem dX1_readOrder_3 : decode cX1_readOrder 3 = .ok (.getfield 19, 3) := by decide +kernel
theorem dX1_readOrder_6 : decode cX1_readOrder 6 = .ok (.invokevirtual 45, 3) := by decide +kernel
theorem dX1_readOrder_9 : decode cX1_readOrder 9 = .ok (.putfield 22, 3) := by decide +kernel
theorem dX1_readOrder_12 : decode cX1_readOrder 12 = .ok (.aload_n 0, 1) := by decide +kernel
theorem dX1_readOrder_13 : decode cX1_readOrder 13 = .ok (.iconst 0, 1) := by decide +kernel
theorem dX1_readOrder_14 : decode cX1_readOrder 14 = .ok (.putfield 28, 3) := by decide +kernel
theorem dX1_readOrder_17 : decode cX1_readOrder 17 = .ok (.aload_n 0, 1) := by decide +kernel
theorem dX1_readOrder_18 : decode cX1_readOrder 18 = .ok (.getfield 22, 3) := by decide +kernel
theorem dX1_readOrder_21 : decode cX1_readOrder 21 = .ok (.invokestatic 63, 3) := by decide +kernel
theorem dX1_readOrder_24 : decode cX1_readOrder 24 = .ok (.astore_n 1, 1) := by decide +kernel
theorem dX1_readOrder_25 : decode cX1_readOrder 25 = .ok (.aload_n 1, 1) := by decide +kernel
theorem dX1_readOrder_26 : decode cX1_readOrder 26 = .ok (.invokevirtual 67, 3) := by decide +kernel
theorem dX1_readOrder_29 : decode cX1_readOrder 29 = .ok (.ifCond .eq 5, 3) := by decide +kernel
theorem dX1_readOrder_32 : decode cX1_readOrder 32 = .ok (.iconst 0, 1) := by decide +kernel
theorem dX1_readOrder_33 : decode cX1_readOrder 33 = .ok (.ireturn, 1) := by decide +kernel
theorem dX1_readOrder_34 : decode cX1_readOrder 34 = .ok (.aload_n 0, 1) := by decide +kernel
theorem dX1_readOrder_35 : decode cX1_readOrder 35 = .ok (.dup, 1) := by decide +kernel
theorem dX1_readOrder_36 : decode cX1_readOrder 36 = .ok (.getfield 19, 3) := by decide +kernel
theorem dX1_readOrder_39 : decode cX1_readOrder 39 = .ok (.iconst 1, 1) := by decide +kernel
theorem dX1_readOrder_40 : decode cX1_readOrder 40 = .ok (.iadd, 1) := by decide +kernel
theorem dX1_readOrder_41 : decode cX1_readOrder 41 = .ok (.putfield 19, 3) := by decide +kernel
theorem dX1_readOrder_44 : decode cX1_readOrder 44 = .ok (.iconst 0, 1) := by decide +kernel
theorem dX1_readOrder_45 : decode cX1_readOrder 45 = .ok (.istore_n 2, 1) := by decide +kernel
theorem dX1_readOrder_46 : decode cX1_readOrder 46 = .ok (.iload_n 2, 1) := by decide +kernel
theorem dX1_readOrder_47 : decode cX1_readOrder 47 = .ok (.aload_n 1, 1) := by decide +kernel
theorem dX1_readOrder_48 : decode cX1_readOrder 48 = .ok (.invokevirtual 72, 3) := by decide +kernel
theorem dX1_readOrder_51 : decode cX1_readOrder 51 = .ok (.if_icmp .ge 23, 3) := by decide +kernel
theorem dX1_readOrder_54 : decode cX1_readOrder 54 = .ok (.aload_n 0, 1) := by decide +kernel
theorem dX1_readOrder_55 : decode cX1_readOrder 55 = .ok (.aload_n 1, 1) := by decide +kernel
theorem dX1_readOrder_56 : decode cX1_readOrder 56 = .ok (.iload_n 2, 1) := by decide +kernel
theorem dX1_readOrder_57 : decode cX1_readOrder 57 = .ok (.invokevirtual 75, 3) := by decide +kernel
theorem dX1_readOrder_60 : decode cX1_readOrder 60 = .ok (.invokevirtual 79, 3) := by decide +kernel
theorem dX1_readOrder_63 : decode cX1_readOrder 63 = .ok (.ifCond .ne 5, 3) := by decide +kernel
theorem dX1_readOrder_66 : decode cX1_readOrder 66 = .ok (.iconst 0, 1) := by decide +kernel
theorem dX1_readOrder_67 : decode cX1_readOrder 67 = .ok (.ireturn, 1) := by decide +kernel
theorem dX1_readOrder_68 : decode cX1_readOrder 68 = .ok (.iinc 2 1, 3) := by decide +kernel
theorem dX1_readOrder_71 : decode cX1_readOrder 71 = .ok (.goto (-25), 3) := by decide +kernel
theorem dX1_readOrder_74 : decode cX1_readOrder 74 = .ok (.iconst 1, 1) := by decide +kernel
theorem dX1_readOrder_75 : decode cX1_readOrder 75 = .ok (.ireturn, 1) := by decide +kernel
theorem dX1_readPart_0 : decode cX1_readPart 0 = .ok (.iload_n 1, 1) := by decide +kernel
theorem dX1_readPart_1 : decode cX1_readPart 1 = .ok (.bipush 100, 2) := by decide +kernel
theorem dX1_readPart_3 : decode cX1_readPart 3 = .ok (.if_icmp .eq 9, 3) := by decide +kernel
theorem dX1_readPart_6 : decode cX1_readPart 6 = .ok (.iload_n 1, 1) := by decide +kernel
theorem dX1_readPart_7 : decode cX1_readPart 7 = .ok (.bipush 110, 2) := by decide +kernel
theorem dX1_readPart_9 : decode cX1_readPart 9 = .ok (.if_icmp .ne 19, 3) := by decide +kernel
theorem dX1_readPart_12 : decode cX1_readPart 12 = .ok (.aload_n 0, 1) := by decide +kernel
theorem dX1_readPart_13 : decode cX1_readPart 13 = .ok (.iload_n 1, 1) := by decide +kernel
theorem dX1_readPart_14 : decode cX1_readPart 14 = .ok (.bipush 110, 2) := by decide +kernel
theorem dX1_readPart_16 : decode cX1_readPart 16 = .ok (.if_icmp .ne 7, 3) := by decide +kernel
theorem dX1_readPart_19 : decode cX1_readPart 19 = .ok (.iconst 2, 1) := by decide +kernel
theorem dX1_readPart_20 : decode cX1_readPart 20 = .ok (.goto 4, 3) := by decide +kernel
theorem dX1_readPart_23 : decode cX1_readPart 23 = .ok (.iconst 1, 1) := by decide +kernel
theorem dX1_readPart_24 : decode cX1_readPart 24 = .ok (.invokevirtual 83, 3) := by decide +kernel
theorem dX1_readPart_27 : decode cX1_readPart 27 = .ok (.ireturn, 1) := by decide +kernel
theorem dX1_readPart_28 : decode cX1_readPart 28 = .ok (.aload_n 0, 1) := by decide +kernel
theorem dX1_readPart_29 : decode cX1_readPart 29 = .ok (.aload_n 0, 1) := by decide +kernel
theorem dX1_readPart_30 : decode cX1_readPart 30 = .ok (.getfield 19, 3) := by decide +kernel
theorem dX1_readPart_33 : decode cX1_readPart 33 = .ok (.invokevirtual 45, 3) := by decide +kernel
theorem dX1_readPart_36 : decode cX1_readPart 36 = .ok (.iload_n 1, 1) := by decide +kernel
theorem dX1_readPart_37 : decode cX1_readPart 37 = .ok (.if_icmp .eq 5, 3) := by decide +kernel
theorem dX1_readPart_40 : decode cX1_readPart 40 = .ok (.iconst 0, 1) := by decide +kernel
theorem dX1_readPart_41 : decode cX1_readPart 41 = .ok (.ireturn, 1) := by decide +kernel
theorem dX1_readPart_42 : decode cX1_readPart 42 = .ok (.aload_n 0, 1) := by decide +kernel
theorem dX1_readPart_43 : decode cX1_readPart 43 = .ok (.dup, 1) := by decide +kernel
theorem dX1_readPart_44 : decode cX1_readPart 44 = .ok (.getfield 19, 3) := by decide +kernel
theorem dX1_readPart_47 : decode cX1_readPart 47 = .ok (.iconst 1, 1) := by decide +kernel
theorem dX1_readPart_48 : decode cX1_readPart 48 = .ok (.iadd, 1) := by decide +kernel
theorem dX1_readPart_49 : decode cX1_readPart 49 = .ok (.putfield 19, 3) := by decide +kernel
theorem dX1_readPart_52 : decode cX1_readPart 52 = .ok (.iconst 1, 1) := by decide +kernel
theorem dX1_readPart_53 : decode cX1_readPart 53 = .ok (.ireturn, 1) := by decide +kernel
theorem dX1_readNumber_0 : decode cX1_readNumber 0 = .ok (.aload_n 0, 1) := by decide +kernel
theorem dX1_readNumber_1 : decode cX1_readNumber 1 = .ok (.aload_n 0, 1) := by decide +kernel
theorem dX1_readNumber_2 : decode cX1_readNumber 2 = .ok (.getfield 19, 3) := by decide +kernel
theorem dX1_readNumber_5 : decode cX1_readNumber 5 = .ok (.invokevirtual 45, 3) := by decide +kernel
theorem dX1_readNumber_8 : decode cX1_readNumber 8 = .ok (.invokestatic 87, 3) := by decide +kernel
theorem dX1_readNumber_11 : decode cX1_readNumber 11 = .ok (.ifCond .ne 5, 3) := by decide +kernel
theorem dX1_readNumber_14 : decode cX1_readNumber 14 = .ok (.iconst 0, 1) := by decide +kernel
theorem dX1_readNumber_15 : decode cX1_readNumber 15 = .ok (.ireturn, 1) := by decide +kernel
theorem dX1_readNumber_16 : decode cX1_readNumber 16 = .ok (.aload_n 0, 1) := by decide +kernel
theorem dX1_readNumber_17 : decode cX1_readNumber 17 = .ok (.aload_n 0, 1) := by decide +kernel
theorem dX1_readNumber_18 : decode cX1_readNumber 18 = .ok (.getfield 19, 3) := by decide +kernel
theorem dX1_readNumber_21 : decode cX1_readNumber 21 = .ok (.invokevirtual 45, 3) := by decide +kernel
theorem dX1_readNumber_24 : decode cX1_readNumber 24 = .ok (.bipush 48, 2) := by decide +kernel
theorem dX1_readNumber_26 : decode cX1_readNumber 26 = .ok (.isub, 1) := by decide +kernel
theorem dX1_readNumber_27 : decode cX1_readNumber 27 = .ok (.istore_n 2, 1) := by decide +kernel
theorem dX1_readNumber_28 : decode cX1_readNumber 28 = .ok (.aload_n 0, 1) := by decide +kernel
theorem dX1_readNumber_29 : decode cX1_readNumber 29 = .ok (.dup, 1) := by decide +kernel
theorem dX1_readNumber_30 : decode cX1_readNumber 30 = .ok (.getfield 19, 3) := by decide +kernel
theorem dX1_readNumber_33 : decode cX1_readNumber 33 = .ok (.iconst 1, 1) := by decide +kernel
theorem dX1_readNumber_34 : decode cX1_readNumber 34 = .ok (.iadd, 1) := by decide +kernel
theorem dX1_readNumber_35 : decode cX1_readNumber 35 = .ok (.putfield 19, 3) := by decide +kernel
theorem dX1_readNumber_38 : decode cX1_readNumber 38 = .ok (.iload_n 1, 1) := by decide +kernel
theorem dX1_readNumber_39 : decode cX1_readNumber 39 = .ok (.iconst 1, 1) := by decide +kernel
theorem dX1_readNumber_40 : decode cX1_readNumber 40 = .ok (.if_icmp .le 48, 3) := by decide +kernel
theorem dX1_readNumber_43 : decode cX1_readNumber 43 = .ok (.iload_n 2, 1) := by decide +kernel
theorem dX1_readNumber_44 : decode cX1_readNumber 44 = .ok (.ifCond .le 44, 3) := by decide +kernel
theorem dX1_readNumber_47 : decode cX1_readNumber 47 = .ok (.aload_n 0, 1) := by decide +kernel
theorem dX1_readNumber_48 : decode cX1_readNumber 48 = .ok (.aload_n 0, 1) := by decide +kernel
theorem dX1_readNumber_49 : decode cX1_readNumber 49 = .ok (.getfield 19, 3) := by decide +kernel
theorem dX1_readNumber_52 : decode cX1_readNumber 52 = .ok (.invokevirtual 45, 3) := by decide +kernel
theorem dX1_readNumber_55 : decode cX1_readNumber 55 = .ok (.invokestatic 87, 3) := by decide +kernel
theorem dX1_readNumber_58 : decode cX1_readNumber 58 = .ok (.ifCond .eq 30, 3) := by decide +kernel
theorem dX1_readNumber_61 : decode cX1_readNumber 61 = .ok (.bipush 10, 2) := by decide +kernel
theorem dX1_readNumber_63 : decode cX1_readNumber 63 = .ok (.iload_n 2, 1) := by decide +kernel
theorem dX1_readNumber_64 : decode cX1_readNumber 64 = .ok (.imul, 1) := by decide +kernel
theorem dX1_readNumber_65 : decode cX1_readNumber 65 = .ok (.aload_n 0, 1) := by decide +kernel
theorem dX1_readNumber_66 : decode cX1_readNumber 66 = .ok (.aload_n 0, 1) := by decide +kernel
theorem dX1_readNumber_67 : decode cX1_readNumber 67 = .ok (.getfield 19, 3) := by decide +kernel
theorem dX1_readNumber_70 : decode cX1_readNumber 70 = .ok (.invokevirtual 45, 3) := by decide +kernel
theorem dX1_readNumber_73 : decode cX1_readNumber 73 = .ok (.iadd, 1) := by decide +kernel
theorem dX1_readNumber_74 : decode cX1_readNumber 74 = .ok (.bipush 48, 2) := by decide +kernel
theorem dX1_readNumber_76 : decode cX1_readNumber 76 = .ok (.isub, 1) := by decide +kernel
theorem dX1_readNumber_77 : decode cX1_readNumber 77 = .ok (.istore_n 2, 1) := by decide +kernel
theorem dX1_readNumber_78 : decode cX1_readNumber 78 = .ok (.aload_n 0, 1) := by decide +kernel
theorem dX1_readNumber_79 : decode cX1_readNumber 79 = .ok (.dup, 1) := by decide +kernel
theorem dX1_readNumber_80 : decode cX1_readNumber 80 = .ok (.getfield 19, 3) := by decide +kernel
theorem dX1_readNumber_83 : decode cX1_readNumber 83 = .ok (.iconst 1, 1) := by decide +kernel
theorem dX1_readNumber_84 : decode cX1_readNumber 84 = .ok (.iadd, 1) := by decide +kernel
theorem dX1_readNumber_85 : decode cX1_readNumber 85 = .ok (.putfield 19, 3) := by decide +kernel
theorem dX1_readNumber_88 : decode cX1_readNumber 88 = .ok (.aload_n 0, 1) := by decide +kernel
theorem dX1_readNumber_89 : decode cX1_readNumber 89 = .ok (.iload_n 2, 1) := by decide +kernel
theorem dX1_readNumber_90 : decode cX1_readNumber 90 = .ok (.invokevirtual 90, 3) := by decide +kernel
theorem dX1_readNumber_93 : decode cX1_readNumber 93 = .ok (.iconst 1, 1) := by decide +kernel
theorem dX1_readNumber_94 : decode cX1_readNumber 94 = .ok (.ireturn, 1) := by decide +kernel
theorem dX1_addNumber_0 : decode cX1_addNumber 0 = .ok (.aload_n 0, 1) := by decide +kernel
theorem dX1_addNumber_1 : decode cX1_addNumber 1 = .ok (.getfield 28, 3) := by decide +kernel
theorem dX1_addNumber_4 : decode cX1_addNumber 4 = .ok (.ifCond .lt 35, 3) := by decide +kernel
theorem dX1_addNumber_7 : decode cX1_addNumber 7 = .ok (.aload_n 0, 1) := by decide +kernel
theorem dX1_addNumber_8 : decode cX1_addNumber 8 = .ok (.getfield 28, 3) := by decide +kernel
theorem dX1_addNumber_11 : decode cX1_addNumber 11 = .ok (.aload_n 0, 1) := by decide +kernel
theorem dX1_addNumber_12 : decode cX1_addNumber 12 = .ok (.getfield 25, 3) := by decide +kernel
theorem dX1_addNumber_15 : decode cX1_addNumber 15 = .ok (.arraylength, 1) := by decide +kernel
theorem dX1_addNumber_16 : decode cX1_addNumber 16 = .ok (.if_icmp .ge 23, 3) := by decide +kernel
theorem dX1_addNumber_19 : decode cX1_addNumber 19 = .ok (.aload_n 0, 1) := by decide +kernel
theorem dX1_addNumber_20 : decode cX1_addNumber 20 = .ok (.getfield 25, 3) := by decide +kernel
theorem dX1_addNumber_23 : decode cX1_addNumber 23 = .ok (.aload_n 0, 1) := by decide +kernel
theorem dX1_addNumber_24 : decode cX1_addNumber 24 = .ok (.getfield 28, 3) := by decide +kernel
theorem dX1_addNumber_27 : decode cX1_addNumber 27 = .ok (.iload_n 1, 1) := by decide +kernel
theorem dX1_addNumber_28 : decode cX1_addNumber 28 = .ok (.iastore, 1) := by decide +kernel
theorem dX1_addNumber_29 : decode cX1_addNumber 29 = .ok (.aload_n 0, 1) := by decide +kernel
theorem dX1_addNumber_30 : decode cX1_addNumber 30 = .ok (.dup, 1) := by decide +kernel
theorem dX1_addNumber_31 : decode cX1_addNumber 31 = .ok (.getfield 28, 3) := by decide +kernel
theorem dX1_addNumber_34 : decode cX1_addNumber 34 = .ok (.iconst 1, 1) := by decide +kernel
theorem dX1_addNumber_35 : decode cX1_addNumber 35 = .ok (.iadd, 1) := by decide +kernel
theorem dX1_addNumber_36 : decode cX1_addNumber 36 = .ok (.putfield 28, 3) := by decide +kernel
theorem dX1_addNumber_39 : decode cX1_addNumber 39 = .ok (.return_, 1) := by decide +kernel
theorem dX1_isDigit_0 : decode cX1_isDigit 0 = .ok (.iload_n 0, 1) := by decide +kernel
theorem dX1_isDigit_1 : decode cX1_isDigit 1 = .ok (.bipush 48, 2) := by decide +kernel
theorem dX1_isDigit_3 : decode cX1_isDigit 3 = .ok (.if_icmp .lt 13, 3) := by decide +kernel
theorem dX1_isDigit_6 : decode cX1_isDigit 6 = .ok (.iload_n 0, 1) := by decide +kernel
theorem dX1_isDigit_7 : decode cX1_isDigit 7 = .ok (.bipush 57, 2) := by decide +kernel
theorem dX1_isDigit_9 : decode cX1_isDigit 9 = .ok (.if_icmp .gt 7, 3) := by decide +kernel
theorem dX1_isDigit_12 : decode cX1_isDigit 12 = .ok (.iconst 1, 1) := by decide +kernel
theorem dX1_isDigit_13 : decode cX1_isDigit 13 = .ok (.goto 4, 3) := by decide +kernel
theorem dX1_isDigit_16 : decode cX1_isDigit 16 = .ok (.iconst 0, 1) := by decide +kernel
theorem dX1_isDigit_17 : decode cX1_isDigit 17 = .ok (.ireturn, 1) := by decide +kernel
theorem dX2_init_0 : decode cX2_init 0 = .ok (.aload_n 0, 1) := by decide +kernel
theorem dX2_init_1 : decode cX2_init 1 = .ok (.invokespecial 5, 3) := by decide +kernel
theorem dX2_init_4 : decode cX2_init 4 = .ok (.aload_n 0, 1) := by decide +kernel
theorem dX2_init_5 : decode cX2_init 5 = .ok (.iconst 0, 1) := by decide +kernel
theorem dX2_init_6 : decode cX2_init 6 = .ok (.putfield 11, 3) := by decide +kernel
theorem dX2_init_9 : decode cX2_init 9 = .ok (.aload_n 0, 1) := by decide +kernel
theorem dX2_init_10 : decode cX2_init 10 = .ok (.bipush 31, 2) := by decide +kernel
theorem dX2_init_12 : decode cX2_init 12 = .ok (.putfield 15, 3) := by decide +kernel
theorem dX2_init_15 : decode cX2_init 15 = .ok (.aload_n 0, 1) := by decide +kernel
theorem dX2_init_16 : decode cX2_init 16 = .ok (.iconst 0, 1) := by decide +kernel
theorem dX2_init_17 : decode cX2_init 17 = .ok (.putfield 18, 3) := by decide +kernel
theorem dX2_init_20 : decode cX2_init 20 = .ok (.aload_n 0, 1) := by decide +kernel
theorem dX2_init_21 : decode cX2_init 21 = .ok (.iconst 0, 1) := by decide +kernel
theorem dX2_init_22 : decode cX2_init 22 = .ok (.putfield 21, 3) := by decide +kernel
theorem dX2_init_25 : decode cX2_init 25 = .ok (.aload_n 0, 1) := by decide +kernel
theorem dX2_init_26 : decode cX2_init 26 = .ok (.iconst 0, 1) := by decide +kernel
theorem dX2_init_27 : decode cX2_init 27 = .ok (.putfield 24, 3) := by decide +kernel
theorem dX2_init_30 : decode cX2_init 30 = .ok (.aload_n 0, 1) := by decide +kernel
theorem dX2_init_31 : decode cX2_init 31 = .ok (.sipush 176, 3) := by decide +kernel
theorem dX2_init_34 : decode cX2_init 34 = .ok (.newarray .int, 2) := by decide +kernel
theorem dX2_init_36 : decode cX2_init 36 = .ok (.putfield 27, 3) := by decide +kernel
theorem dX2_init_39 : decode cX2_init 39 = .ok (.aload_n 0, 1) := by decide +kernel
theorem dX2_init_40 : decode cX2_init 40 = .ok (.iconst 0, 1) := by decide +kernel
theorem dX2_init_41 : decode cX2_init 41 = .ok (.iconst 0, 1) := by decide +kernel
theorem dX2_init_42 : decode cX2_init 42 = .ok (.bipush 12, 2) := by decide +kernel
theorem dX2_init_44 : decode cX2_init 44 = .ok (.invokevirtual 31, 3) := by decide +kernel
theorem dX2_init_47 : decode cX2_init 47 = .ok (.aload_n 0, 1) := by decide +kernel
theorem dX2_init_48 : decode cX2_init 48 = .ok (.iconst 0, 1) := by decide +kernel
theorem dX2_init_49 : decode cX2_init 49 = .ok (.iconst 1, 1) := by decide +kernel
theorem dX2_init_50 : decode cX2_init 50 = .ok (.bipush 24, 2) := by decide +kernel
theorem dX2_init_52 : decode cX2_init 52 = .ok (.invokevirtual 31, 3) := by decide +kernel
theorem dX2_init_55 : decode cX2_init 55 = .ok (.aload_n 0, 1) := by decide +kernel
theorem dX2_init_56 : decode cX2_init 56 = .ok (.iconst 0, 1) := by decide +kernel
theorem dX2_init_57 : decode cX2_init 57 = .ok (.iconst 2, 1) := by decide +kernel
theorem dX2_init_58 : decode cX2_init 58 = .ok (.bipush 72, 2) := by decide +kernel
theorem dX2_init_60 : decode cX2_init 60 = .ok (.invokevirtual 31, 3) := by decide +kernel
theorem dX2_init_63 : decode cX2_init 63 = .ok (.aload_n 0, 1) := by decide +kernel
theorem dX2_init_64 : decode cX2_init 64 = .ok (.iconst 0, 1) := by decide +kernel
theorem dX2_init_65 : decode cX2_init 65 = .ok (.iconst 3, 1) := by decide +kernel
theorem dX2_init_66 : decode cX2_init 66 = .ok (.bipush 100, 2) := by decide +kernel
theorem dX2_init_68 : decode cX2_init 68 = .ok (.invokevirtual 31, 3) := by decide +kernel
theorem dX2_init_71 : decode cX2_init 71 = .ok (.return_, 1) := by decide +kernel
theorem dX2_read_0 : decode cX2_read 0 = .ok (.iload_n 1, 1) := by decide +kernel
theorem dX2_read_1 : decode cX2_read 1 = .ok (.iload_n 2, 1) := by decide +kernel
theorem dX2_read_2 : decode cX2_read 2 = .ok (.iadd, 1) := by decide +kernel
theorem dX2_read_3 : decode cX2_read 3 = .ok (.istore_n 3, 1) := by decide +kernel
theorem dX2_read_4 : decode cX2_read 4 = .ok (.iload_n 3, 1) := by decide +kernel
theorem dX2_read_5 : decode cX2_read 5 = .ok (.ifCond .lt 21, 3) := by decide +kernel
theorem dX2_read_8 : decode cX2_read 8 = .ok (.iload_n 3, 1) := by decide +kernel
theorem dX2_read_9 : decode cX2_read 9 = .ok (.aload_n 0, 1) := by decide +kernel
theorem dX2_read_10 : decode cX2_read 10 = .ok (.getfield 27, 3) := by decide +kernel
theorem dX2_read_13 : decode cX2_read 13 = .ok (.arraylength, 1) := by decide +kernel
theorem dX2_read_14 : decode cX2_read 14 = .ok (.if_icmp .ge 12, 3) := by decide +kernel
theorem dX2_read_17 : decode cX2_read 17 = .ok (.aload_n 0, 1) := by decide +kernel
theorem dX2_read_18 : decode cX2_read 18 = .ok (.getfield 27, 3) := by decide +kernel
theorem dX2_read_21 : decode cX2_read 21 = .ok (.iload_n 3, 1) := by decide +kernel
theorem dX2_read_22 : decode cX2_read 22 = .ok (.iaload, 1) := by decide +kernel
theorem dX2_read_23 : decode cX2_read 23 = .ok (.goto 4, 3) := by decide +kernel
theorem dX2_read_26 : decode cX2_read 26 = .ok (.iconst 0, 1) := by decide +kernel
theorem dX2_read_27 : decode cX2_read 27 = .ok (.ireturn, 1) := by decide +kernel
theorem dX2_write_0 : decode cX2_write 0 = .ok (.iload_n 1, 1) := by decide +kernel
theorem dX2_write_1 : decode cX2_write 1 = .ok (.iload_n 2, 1) := by decide +kernel
theorem dX2_write_2 : decode cX2_write 2 = .ok (.iadd, 1) := by decide +kernel
theorem dX2_write_3 : decode cX2_write 3 = .ok (.istore 4, 2) := by decide +kernel
theorem dX2_write_5 : decode cX2_write 5 = .ok (.iload 4, 2) := by decide +kernel
theorem dX2_write_7 : decode cX2_write 7 = .ok (.ifCond .lt 21, 3) := by decide +kernel
theorem dX2_write_10 : decode cX2_write 10 = .ok (.iload 4, 2) := by decide +kernel
theorem dX2_write_12 : decode cX2_write 12 = .ok (.aload_n 0, 1) := by decide +kernel
theorem dX2_write_13 : decode cX2_write 13 = .ok (.getfield 27, 3) := by decide +kernel
theorem dX2_write_16 : decode cX2_write 16 = .ok (.arraylength, 1) := by decide +kernel
theorem dX2_write_17 : decode cX2_write 17 = .ok (.if_icmp .ge 11, 3) := by decide +kernel
theorem dX2_write_20 : decode cX2_write 20 = .ok (.aload_n 0, 1) := by decide +kernel
theorem dX2_write_21 : decode cX2_write 21 = .ok (.getfield 27, 3) := by decide +kernel
theorem dX2_write_24 : decode cX2_write 24 = .ok (.iload 4, 2) := by decide +kernel
theorem dX2_write_26 : decode cX2_write 26 = .ok (.iload_n 3, 1) := by decide +kernel
theorem dX2_write_27 : decode cX2_write 27 = .ok (.iastore, 1) := by decide +kernel
theorem dX2_write_28 : decode cX2_write 28 = .ok (.return_, 1) := by decide +kernel
theorem dX2_become_0 : decode cX2_become 0 = .ok (.aload_n 0, 1) := by decide +kernel
theorem dX2_become_1 : decode cX2_become 1 = .ok (.aload_n 1, 1) := by decide +kernel
theorem dX2_become_2 : decode cX2_become 2 = .ok (.getfield 11, 3) := by decide +kernel
theorem dX2_become_5 : decode cX2_become 5 = .ok (.putfield 11, 3) := by decide +kernel
theorem dX2_become_8 : decode cX2_become 8 = .ok (.aload_n 0, 1) := by decide +kernel
theorem dX2_become_9 : decode cX2_become 9 = .ok (.aload_n 1, 1) := by decide +kernel
theorem dX2_become_10 : decode cX2_become 10 = .ok (.getfield 15, 3) := by decide +kernel
theorem dX2_become_13 : decode cX2_become 13 = .ok (.putfield 15, 3) := by decide +kernel
theorem dX2_become_16 : decode cX2_become 16 = .ok (.aload_n 0, 1) := by decide +kernel
theorem dX2_become_17 : decode cX2_become 17 = .ok (.aload_n 1, 1) := by decide +kernel
theorem dX2_become_18 : decode cX2_become 18 = .ok (.getfield 18, 3) := by decide +kernel
theorem dX2_become_21 : decode cX2_become 21 = .ok (.putfield 18, 3) := by decide +kernel
theorem dX2_become_24 : decode cX2_become 24 = .ok (.aload_n 0, 1) := by decide +kernel
theorem dX2_become_25 : decode cX2_become 25 = .ok (.aload_n 1, 1) := by decide +kernel
theorem dX2_become_26 : decode cX2_become 26 = .ok (.getfield 21, 3) := by decide +kernel
theorem dX2_become_29 : decode cX2_become 29 = .ok (.putfield 21, 3) := by decide +kernel
theorem dX2_become_32 : decode cX2_become 32 = .ok (.aload_n 0, 1) := by decide +kernel
theorem dX2_become_33 : decode cX2_become 33 = .ok (.aload_n 1, 1) := by decide +kernel
theorem dX2_become_34 : decode cX2_become 34 = .ok (.getfield 24, 3) := by decide +kernel
theorem dX2_become_37 : decode cX2_become 37 = .ok (.putfield 24, 3) := by decide +kernel
theorem dX2_become_40 : decode cX2_become 40 = .ok (.aload_n 1, 1) := by decide +kernel
theorem dX2_become_41 : decode cX2_become 41 = .ok (.getfield 27, 3) := by decide +kernel
theorem dX2_become_44 : decode cX2_become 44 = .ok (.iconst 0, 1) := by decide +kernel
theorem dX2_become_45 : decode cX2_become 45 = .ok (.aload_n 0, 1) := by decide +kernel
theorem dX2_become_46 : decode cX2_become 46 = .ok (.getfield 27, 3) := by decide +kernel
theorem dX2_become_49 : decode cX2_become 49 = .ok (.iconst 0, 1) := by decide +kernel
theorem dX2_become_50 : decode cX2_become 50 = .ok (.aload_n 1, 1) := by decide +kernel
theorem dX2_become_51 : decode cX2_become 51 = .ok (.getfield 27, 3) := by decide +kernel
theorem dX2_become_54 : decode cX2_become 54 = .ok (.arraylength, 1) := by decide +kernel
theorem dX2_become_55 : decode cX2_become 55 = .ok (.aload_n 0, 1) := by decide +kernel
theorem dX2_become_56 : decode cX2_become 56 = .ok (.getfield 27, 3) := by decide +kernel
theorem dX2_become_59 : decode cX2_become 59 = .ok (.arraylength, 1) := by decide +kernel
theorem dX2_become_60 : decode cX2_become 60 = .ok (.invokestatic 35, 3) := by decide +kernel
theorem dX2_become_63 : decode cX2_become 63 = .ok (.invokestatic 41, 3) := by decide +kernel
theorem dX2_become_66 : decode cX2_become 66 = .ok (.return_, 1) := by decide +kernel
theorem dX2_hasPerson_0 : decode cX2_hasPerson 0 = .ok (.iload_n 1, 1) := by decide +kernel
theorem dX2_hasPerson_1 : decode cX2_hasPerson 1 = .ok (.ifCond .lt 15, 3) := by decide +kernel
theorem dX2_hasPerson_4 : decode cX2_hasPerson 4 = .ok (.iload_n 1, 1) := by decide +kernel
theorem dX2_hasPerson_5 : decode cX2_hasPerson 5 = .ok (.aload_n 0, 1) := by decide +kernel
theorem dX2_hasPerson_6 : decode cX2_hasPerson 6 = .ok (.getfield 18, 3) := by decide +kernel
theorem dX2_hasPerson_9 : decode cX2_hasPerson 9 = .ok (.if_icmp .ge 7, 3) := by decide +kernel
theorem dX2_hasPerson_12 : decode cX2_hasPerson 12 = .ok (.iconst 1, 1) := by decide +kernel
theorem dX2_hasPerson_13 : decode cX2_hasPerson 13 = .ok (.goto 4, 3) := by decide +kernel
theorem dX2_hasPerson_16 : decode cX2_hasPerson 16 = .ok (.iconst 0, 1) := by decide +kernel
theorem dX2_hasPerson_17 : decode cX2_hasPerson 17 = .ok (.ireturn, 1) := by decide +kernel
theorem dX2_hasQuarrel_0 : decode cX2_hasQuarrel 0 = .ok (.iload_n 1, 1) := by decide +kernel
theorem dX2_hasQuarrel_1 : decode cX2_hasQuarrel 1 = .ok (.ifCond .lt 15, 3) := by decide +kernel
theorem dX2_hasQuarrel_4 : decode cX2_hasQuarrel 4 = .ok (.iload_n 1, 1) := by decide +kernel
theorem dX2_hasQuarrel_5 : decode cX2_hasQuarrel 5 = .ok (.aload_n 0, 1) := by decide +kernel
theorem dX2_hasQuarrel_6 : decode cX2_hasQuarrel 6 = .ok (.getfield 21, 3) := by decide +kernel
theorem dX2_hasQuarrel_9 : decode cX2_hasQuarrel 9 = .ok (.if_icmp .ge 7, 3) := by decide +kernel
theorem dX2_hasQuarrel_12 : decode cX2_hasQuarrel 12 = .ok (.iconst 1, 1) := by decide +kernel
theorem dX2_hasQuarrel_13 : decode cX2_hasQuarrel 13 = .ok (.goto 4, 3) := by decide +kernel
theorem dX2_hasQuarrel_16 : decode cX2_hasQuarrel 16 = .ok (.iconst 0, 1) := by decide +kernel
theorem dX2_hasQuarrel_17 : decode cX2_hasQuarrel 17 = .ok (.ireturn, 1) := by decide +kernel
theorem dX2_isOpen_0 : decode cX2_isOpen 0 = .ok (.aload_n 0, 1) := by decide +kernel
theorem dX2_isOpen_1 : decode cX2_isOpen 1 = .ok (.bipush 92, 2) := by decide +kernel
theorem dX2_isOpen_3 : decode cX2_isOpen 3 = .ok (.iload_n 1, 1) := by decide +kernel
theorem dX2_isOpen_4 : decode cX2_isOpen 4 = .ok (.invokevirtual 47, 3) := by decide +kernel
theorem dX2_isOpen_7 : decode cX2_isOpen 7 = .ok (.ifCond .ne 7, 3) := by decide +kernel
theorem dX2_isOpen_10 : decode cX2_isOpen 10 = .ok (.iconst 1, 1) := by decide +kernel
theorem dX2_isOpen_11 : decode cX2_isOpen 11 = .ok (.goto 4, 3) := by decide +kernel
theorem dX2_isOpen_14 : decode cX2_isOpen 14 = .ok (.iconst 0, 1) := by decide +kernel
theorem dX2_isOpen_15 : decode cX2_isOpen 15 = .ok (.ireturn, 1) := by decide +kernel
theorem dX2_allows_0 : decode cX2_allows 0 = .ok (.aload_n 0, 1) := by decide +kernel
theorem dX2_allows_1 : decode cX2_allows 1 = .ok (.getfield 15, 3) := by decide +kernel
theorem dX2_allows_4 : decode cX2_allows 4 = .ok (.iconst 1, 1) := by decide +kernel
theorem dX2_allows_5 : decode cX2_allows 5 = .ok (.iload_n 1, 1) := by decide +kernel
theorem dX2_allows_6 : decode cX2_allows 6 = .ok (.ishl, 1) := by decide +kernel
theorem dX2_allows_7 : decode cX2_allows 7 = .ok (.iand, 1) := by decide +kernel
theorem dX2_allows_8 : decode cX2_allows 8 = .ok (.ifCond .eq 7, 3) := by decide +kernel
theorem dX2_allows_11 : decode cX2_allows 11 = .ok (.iconst 1, 1) := by decide +kernel
theorem dX2_allows_12 : decode cX2_allows 12 = .ok (.goto 4, 3) := by decide +kernel
theorem dX2_allows_15 : decode cX2_allows 15 = .ok (.iconst 0, 1) := by decide +kernel
theorem dX2_allows_16 : decode cX2_allows 16 = .ok (.ireturn, 1) := by decide +kernel
theorem dX2_hoursSince_0 : decode cX2_hoursSince 0 = .ok (.aload_n 0, 1) := by decide +kernel
theorem dX2_hoursSince_1 : decode cX2_hoursSince 1 = .ok (.getfield 11, 3) := by decide +kernel
theorem dX2_hoursSince_4 : decode cX2_hoursSince 4 = .ok (.aload_n 0, 1) := by decide +kernel
theorem dX2_hoursSince_5 : decode cX2_hoursSince 5 = .ok (.bipush 80, 2) := by decide +kernel
theorem dX2_hoursSince_7 : decode cX2_hoursSince 7 = .ok (.iload_n 1, 1) := by decide +kernel
theorem dX2_hoursSince_8 : decode cX2_hoursSince 8 = .ok (.invokevirtual 47, 3) := by decide +kernel
theorem dX2_hoursSince_11 : decode cX2_hoursSince 11 = .ok (.isub, 1) := by decide +kernel
theorem dX2_hoursSince_12 : decode cX2_hoursSince 12 = .ok (.ireturn, 1) := by decide +kernel
theorem dX2_oathLeft_0 : decode cX2_oathLeft 0 = .ok (.iconst 0, 1) := by decide +kernel
theorem dX2_oathLeft_1 : decode cX2_oathLeft 1 = .ok (.aload_n 0, 1) := by decide +kernel
theorem dX2_oathLeft_2 : decode cX2_oathLeft 2 = .ok (.bipush 34, 2) := by decide +kernel
theorem dX2_oathLeft_4 : decode cX2_oathLeft 4 = .ok (.iload_n 1, 1) := by decide +kernel
theorem dX2_oathLeft_5 : decode cX2_oathLeft 5 = .ok (.invokevirtual 47, 3) := by decide +kernel
theorem dX2_oathLeft_8 : decode cX2_oathLeft 8 = .ok (.aload_n 0, 1) := by decide +kernel
theorem dX2_oathLeft_9 : decode cX2_oathLeft 9 = .ok (.getfield 11, 3) := by decide +kernel
theorem dX2_oathLeft_12 : decode cX2_oathLeft 12 = .ok (.isub, 1) := by decide +kernel
theorem dX2_oathLeft_13 : decode cX2_oathLeft 13 = .ok (.invokestatic 50, 3) := by decide +kernel
theorem dX2_oathLeft_16 : decode cX2_oathLeft 16 = .ok (.ireturn, 1) := by decide +kernel
theorem dX2_isPoints_0 : decode cX2_isPoints 0 = .ok (.iload_n 0, 1) := by decide +kernel
theorem dX2_isPoints_1 : decode cX2_isPoints 1 = .ok (.ifCond .lt 13, 3) := by decide +kernel
theorem dX2_isPoints_4 : decode cX2_isPoints 4 = .ok (.iload_n 0, 1) := by decide +kernel
theorem dX2_isPoints_5 : decode cX2_isPoints 5 = .ok (.bipush 9, 2) := by decide +kernel
theorem dX2_isPoints_7 : decode cX2_isPoints 7 = .ok (.if_icmp .gt 7, 3) := by decide +kernel
theorem dX2_isPoints_10 : decode cX2_isPoints 10 = .ok (.iconst 1, 1) := by decide +kernel
theorem dX2_isPoints_11 : decode cX2_isPoints 11 = .ok (.goto 4, 3) := by decide +kernel
theorem dX2_isPoints_14 : decode cX2_isPoints 14 = .ok (.iconst 0, 1) := by decide +kernel
theorem dX2_isPoints_15 : decode cX2_isPoints 15 = .ok (.ireturn, 1) := by decide +kernel
theorem dX2_isRank_0 : decode cX2_isRank 0 = .ok (.iload_n 0, 1) := by decide +kernel
theorem dX2_isRank_1 : decode cX2_isRank 1 = .ok (.iconst 1, 1) := by decide +kernel
theorem dX2_isRank_2 : decode cX2_isRank 2 = .ok (.if_icmp .lt 13, 3) := by decide +kernel
theorem dX2_isRank_5 : decode cX2_isRank 5 = .ok (.iload_n 0, 1) := by decide +kernel
theorem dX2_isRank_6 : decode cX2_isRank 6 = .ok (.bipush 9, 2) := by decide +kernel
theorem dX2_isRank_8 : decode cX2_isRank 8 = .ok (.if_icmp .gt 7, 3) := by decide +kernel
theorem dX2_isRank_11 : decode cX2_isRank 11 = .ok (.iconst 1, 1) := by decide +kernel
theorem dX2_isRank_12 : decode cX2_isRank 12 = .ok (.goto 4, 3) := by decide +kernel
theorem dX2_isRank_15 : decode cX2_isRank 15 = .ok (.iconst 0, 1) := by decide +kernel
theorem dX2_isRank_16 : decode cX2_isRank 16 = .ok (.ireturn, 1) := by decide +kernel
theorem dX2_areThese_0 : decode cX2_areThese 0 = .ok (.iload_n 0, 1) := by decide +kernel
theorem dX2_areThese_1 : decode cX2_areThese 1 = .ok (.iload_n 2, 1) := by decide +kernel
theorem dX2_areThese_2 : decode cX2_areThese 2 = .ok (.if_icmp .ne 8, 3) := by decide +kernel
theorem dX2_areThese_5 : decode cX2_areThese 5 = .ok (.iload_n 1, 1) := by decide +kernel
theorem dX2_areThese_6 : decode cX2_areThese 6 = .ok (.iload_n 3, 1) := by decide +kernel
theorem dX2_areThese_7 : decode cX2_areThese 7 = .ok (.if_icmp .eq 13, 3) := by decide +kernel
theorem dX2_areThese_10 : decode cX2_areThese 10 = .ok (.iload_n 0, 1) := by decide +kernel
theorem dX2_areThese_11 : decode cX2_areThese 11 = .ok (.iload_n 3, 1) := by decide +kernel
theorem dX2_areThese_12 : decode cX2_areThese 12 = .ok (.if_icmp .ne 12, 3) := by decide +kernel
theorem dX2_areThese_15 : decode cX2_areThese 15 = .ok (.iload_n 1, 1) := by decide +kernel
theorem dX2_areThese_16 : decode cX2_areThese 16 = .ok (.iload_n 2, 1) := by decide +kernel
theorem dX2_areThese_17 : decode cX2_areThese 17 = .ok (.if_icmp .ne 7, 3) := by decide +kernel
theorem dX2_areThese_20 : decode cX2_areThese 20 = .ok (.iconst 1, 1) := by decide +kernel
theorem dX2_areThese_21 : decode cX2_areThese 21 = .ok (.goto 4, 3) := by decide +kernel
theorem dX2_areThese_24 : decode cX2_areThese 24 = .ok (.iconst 0, 1) := by decide +kernel
theorem dX2_areThese_25 : decode cX2_areThese 25 = .ok (.ireturn, 1) := by decide +kernel
theorem dX2_changeSetting_0 : decode cX2_changeSetting 0 = .ok (.iload_n 1, 1) := by decide +kernel
theorem dX2_changeSetting_1 : decode cX2_changeSetting 1 = .ok (.ifCond .lt 19, 3) := by decide +kernel
theorem dX2_changeSetting_4 : decode cX2_changeSetting 4 = .ok (.iload_n 1, 1) := by decide +kernel
theorem dX2_changeSetting_5 : decode cX2_changeSetting 5 = .ok (.getstatic 53, 3) := by decide +kernel
theorem dX2_changeSetting_8 : decode cX2_changeSetting 8 = .ok (.arraylength, 1) := by decide +kernel
theorem dX2_changeSetting_9 : decode cX2_changeSetting 9 = .ok (.if_icmp .ge 11, 3) := by decide +kernel
theorem dX2_changeSetting_12 : decode cX2_changeSetting 12 = .ok (.iload_n 1, 1) := by decide +kernel
theorem dX2_changeSetting_13 : decode cX2_changeSetting 13 = .ok (.getstatic 56, 3) := by decide +kernel
theorem dX2_changeSetting_16 : decode cX2_changeSetting 16 = .ok (.arraylength, 1) := by decide +kernel
theorem dX2_changeSetting_17 : decode cX2_changeSetting 17 = .ok (.if_icmp .lt 6, 3) := by decide +kernel
theorem dX2_changeSetting_20 : decode cX2_changeSetting 20 = .ok (.bipush (-2), 2) := by decide +kernel
theorem dX2_changeSetting_22 : decode cX2_changeSetting 22 = .ok (.ireturn, 1) := by decide +kernel
theorem dX2_changeSetting_23 : decode cX2_changeSetting 23 = .ok (.iload_n 2, 1) := by decide +kernel
theorem dX2_changeSetting_24 : decode cX2_changeSetting 24 = .ok (.getstatic 53, 3) := by decide +kernel
theorem dX2_changeSetting_27 : decode cX2_changeSetting 27 = .ok (.iload_n 1, 1) := by decide +kernel
theorem dX2_changeSetting_28 : decode cX2_changeSetting 28 = .ok (.iaload, 1) := by decide +kernel
theorem dX2_changeSetting_29 : decode cX2_changeSetting 29 = .ok (.if_icmp .lt 12, 3) := by decide +kernel
theorem dX2_changeSetting_32 : decode cX2_changeSetting 32 = .ok (.iload_n 2, 1) := by decide +kernel
theorem dX2_changeSetting_33 : decode cX2_changeSetting 33 = .ok (.getstatic 56, 3) := by decide +kernel
theorem dX2_changeSetting_36 : decode cX2_changeSetting 36 = .ok (.iload_n 1, 1) := by decide +kernel
theorem dX2_changeSetting_37 : decode cX2_changeSetting 37 = .ok (.iaload, 1) := by decide +kernel
theorem dX2_changeSetting_38 : decode cX2_changeSetting 38 = .ok (.if_icmp .le 6, 3) := by decide +kernel
theorem dX2_changeSetting_41 : decode cX2_changeSetting 41 = .ok (.bipush (-2), 2) := by decide +kernel
theorem dX2_changeSetting_43 : decode cX2_changeSetting 43 = .ok (.ireturn, 1) := by decide +kernel
theorem dX2_changeSetting_44 : decode cX2_changeSetting 44 = .ok (.aload_n 0, 1) := by decide +kernel
theorem dX2_changeSetting_45 : decode cX2_changeSetting 45 = .ok (.iconst 0, 1) := by decide +kernel
theorem dX2_changeSetting_46 : decode cX2_changeSetting 46 = .ok (.iload_n 1, 1) := by decide +kernel
theorem dX2_changeSetting_47 : decode cX2_changeSetting 47 = .ok (.invokevirtual 47, 3) := by decide +kernel
theorem dX2_changeSetting_50 : decode cX2_changeSetting 50 = .ok (.istore_n 3, 1) := by decide +kernel
theorem dX2_changeSetting_51 : decode cX2_changeSetting 51 = .ok (.aload_n 0, 1) := by decide +kernel
theorem dX2_changeSetting_52 : decode cX2_changeSetting 52 = .ok (.iconst 0, 1) := by decide +kernel
theorem dX2_changeSetting_53 : decode cX2_changeSetting 53 = .ok (.iload_n 1, 1) := by decide +kernel
theorem dX2_changeSetting_54 : decode cX2_changeSetting 54 = .ok (.iload_n 2, 1) := by decide +kernel
theorem dX2_changeSetting_55 : decode cX2_changeSetting 55 = .ok (.invokevirtual 31, 3) := by decide +kernel
theorem dX2_changeSetting_58 : decode cX2_changeSetting 58 = .ok (.iload_n 3, 1) := by decide +kernel
theorem dX2_changeSetting_59 : decode cX2_changeSetting 59 = .ok (.ireturn, 1) := by decide +kernel
theorem dX2_addPerson_0 : decode cX2_addPerson 0 = .ok (.iload_n 1, 1) := by decide +kernel
theorem dX2_addPerson_1 : decode cX2_addPerson 1 = .ok (.invokestatic 59, 3) := by decide +kernel
theorem dX2_addPerson_4 : decode cX2_addPerson 4 = .ok (.ifCond .eq 10, 3) := by decide +kernel
theorem dX2_addPerson_7 : decode cX2_addPerson 7 = .ok (.iload_n 2, 1) := by decide +kernel
theorem dX2_addPerson_8 : decode cX2_addPerson 8 = .ok (.invokestatic 59, 3) := by decide +kernel
theorem dX2_addPerson_11 : decode cX2_addPerson 11 = .ok (.ifCond .ne 6, 3) := by decide +kernel
theorem dX2_addPerson_14 : decode cX2_addPerson 14 = .ok (.bipush (-2), 2) := by decide +kernel
theorem dX2_addPerson_16 : decode cX2_addPerson 16 = .ok (.ireturn, 1) := by decide +kernel
theorem dX2_addPerson_17 : decode cX2_addPerson 17 = .ok (.aload_n 0, 1) := by decide +kernel
theorem dX2_addPerson_18 : decode cX2_addPerson 18 = .ok (.getfield 18, 3) := by decide +kernel
theorem dX2_addPerson_21 : decode cX2_addPerson 21 = .ok (.bipush 10, 2) := by decide +kernel
theorem dX2_addPerson_23 : decode cX2_addPerson 23 = .ok (.if_icmp .lt 6, 3) := by decide +kernel
theorem dX2_addPerson_26 : decode cX2_addPerson 26 = .ok (.bipush (-4), 2) := by decide +kernel
theorem dX2_addPerson_28 : decode cX2_addPerson 28 = .ok (.ireturn, 1) := by decide +kernel
theorem dX2_addPerson_29 : decode cX2_addPerson 29 = .ok (.aload_n 0, 1) := by decide +kernel
theorem dX2_addPerson_30 : decode cX2_addPerson 30 = .ok (.getfield 18, 3) := by decide +kernel
theorem dX2_addPerson_33 : decode cX2_addPerson 33 = .ok (.istore_n 3, 1) := by decide +kernel
theorem dX2_addPerson_34 : decode cX2_addPerson 34 = .ok (.aload_n 0, 1) := by decide +kernel
theorem dX2_addPerson_35 : decode cX2_addPerson 35 = .ok (.iconst 4, 1) := by decide +kernel
theorem dX2_addPerson_36 : decode cX2_addPerson 36 = .ok (.iload_n 3, 1) := by decide +kernel
theorem dX2_addPerson_37 : decode cX2_addPerson 37 = .ok (.iload_n 1, 1) := by decide +kernel
theorem dX2_addPerson_38 : decode cX2_addPerson 38 = .ok (.invokevirtual 31, 3) := by decide +kernel
theorem dX2_addPerson_41 : decode cX2_addPerson 41 = .ok (.aload_n 0, 1) := by decide +kernel
theorem dX2_addPerson_42 : decode cX2_addPerson 42 = .ok (.bipush 14, 2) := by decide +kernel
theorem dX2_addPerson_44 : decode cX2_addPerson 44 = .ok (.iload_n 3, 1) := by decide +kernel
theorem dX2_addPerson_45 : decode cX2_addPerson 45 = .ok (.iload_n 2, 1) := by decide +kernel
theorem dX2_addPerson_46 : decode cX2_addPerson 46 = .ok (.invokevirtual 31, 3) := by decide +kernel
theorem dX2_addPerson_49 : decode cX2_addPerson 49 = .ok (.aload_n 0, 1) := by decide +kernel
theorem dX2_addPerson_50 : decode cX2_addPerson 50 = .ok (.bipush 24, 2) := by decide +kernel
theorem dX2_addPerson_52 : decode cX2_addPerson 52 = .ok (.iload_n 3, 1) := by decide +kernel
theorem dX2_addPerson_53 : decode cX2_addPerson 53 = .ok (.bipush (-6), 2) := by decide +kernel
theorem dX2_addPerson_55 : decode cX2_addPerson 55 = .ok (.invokevirtual 31, 3) := by decide +kernel
theorem dX2_addPerson_58 : decode cX2_addPerson 58 = .ok (.aload_n 0, 1) := by decide +kernel
theorem dX2_addPerson_59 : decode cX2_addPerson 59 = .ok (.bipush 34, 2) := by decide +kernel
theorem dX2_addPerson_61 : decode cX2_addPerson 61 = .ok (.iload_n 3, 1) := by decide +kernel
theorem dX2_addPerson_62 : decode cX2_addPerson 62 = .ok (.iconst 0, 1) := by decide +kernel
theorem dX2_addPerson_63 : decode cX2_addPerson 63 = .ok (.invokevirtual 31, 3) := by decide +kernel
theorem dX2_addPerson_66 : decode cX2_addPerson 66 = .ok (.aload_n 0, 1) := by decide +kernel
theorem dX2_addPerson_67 : decode cX2_addPerson 67 = .ok (.dup, 1) := by decide +kernel
theorem dX2_addPerson_68 : decode cX2_addPerson 68 = .ok (.getfield 18, 3) := by decide +kernel
theorem dX2_addPerson_71 : decode cX2_addPerson 71 = .ok (.iconst 1, 1) := by decide +kernel
theorem dX2_addPerson_72 : decode cX2_addPerson 72 = .ok (.iadd, 1) := by decide +kernel
theorem dX2_addPerson_73 : decode cX2_addPerson 73 = .ok (.putfield 18, 3) := by decide +kernel
theorem dX2_addPerson_76 : decode cX2_addPerson 76 = .ok (.iload_n 3, 1) := by decide +kernel
theorem dX2_addPerson_77 : decode cX2_addPerson 77 = .ok (.ireturn, 1) := by decide +kernel
theorem dX2_takeSecond_0 : decode cX2_takeSecond 0 = .ok (.aload_n 0, 1) := by decide +kernel
theorem dX2_takeSecond_1 : decode cX2_takeSecond 1 = .ok (.iload_n 1, 1) := by decide +kernel
theorem dX2_takeSecond_2 : decode cX2_takeSecond 2 = .ok (.invokevirtual 63, 3) := by decide +kernel
theorem dX2_takeSecond_5 : decode cX2_takeSecond 5 = .ok (.ifCond .eq 11, 3) := by decide +kernel
theorem dX2_takeSecond_8 : decode cX2_takeSecond 8 = .ok (.aload_n 0, 1) := by decide +kernel
theorem dX2_takeSecond_9 : decode cX2_takeSecond 9 = .ok (.iload_n 2, 1) := by decide +kernel
theorem dX2_takeSecond_10 : decode cX2_takeSecond 10 = .ok (.invokevirtual 63, 3) := by decide +kernel
theorem dX2_takeSecond_13 : decode cX2_takeSecond 13 = .ok (.ifCond .ne 5, 3) := by decide +kernel
theorem dX2_takeSecond_16 : decode cX2_takeSecond 16 = .ok (.iconst (-1), 1) := by decide +kernel
theorem dX2_takeSecond_17 : decode cX2_takeSecond 17 = .ok (.ireturn, 1) := by decide +kernel
theorem dX2_takeSecond_18 : decode cX2_takeSecond 18 = .ok (.iload_n 1, 1) := by decide +kernel
theorem dX2_takeSecond_19 : decode cX2_takeSecond 19 = .ok (.iload_n 2, 1) := by decide +kernel
theorem dX2_takeSecond_20 : decode cX2_takeSecond 20 = .ok (.if_icmp .ne 6, 3) := by decide +kernel
theorem dX2_takeSecond_23 : decode cX2_takeSecond 23 = .ok (.bipush (-2), 2) := by decide +kernel
theorem dX2_takeSecond_25 : decode cX2_takeSecond 25 = .ok (.ireturn, 1) := by decide +kernel
theorem dX2_takeSecond_26 : decode cX2_takeSecond 26 = .ok (.aload_n 0, 1) := by decide +kernel
theorem dX2_takeSecond_27 : decode cX2_takeSecond 27 = .ok (.bipush 24, 2) := by decide +kernel
theorem dX2_takeSecond_29 : decode cX2_takeSecond 29 = .ok (.iload_n 1, 1) := by decide +kernel
theorem dX2_takeSecond_30 : decode cX2_takeSecond 30 = .ok (.invokevirtual 47, 3) := by decide +kernel
theorem dX2_takeSecond_33 : decode cX2_takeSecond 33 = .ok (.istore_n 3, 1) := by decide +kernel
theorem dX2_takeSecond_34 : decode cX2_takeSecond 34 = .ok (.aload_n 0, 1) := by decide +kernel
theorem dX2_takeSecond_35 : decode cX2_takeSecond 35 = .ok (.bipush 24, 2) := by decide +kernel
theorem dX2_takeSecond_37 : decode cX2_takeSecond 37 = .ok (.iload_n 1, 1) := by decide +kernel
theorem dX2_takeSecond_38 : decode cX2_takeSecond 38 = .ok (.iload_n 2, 1) := by decide +kernel
theorem dX2_takeSecond_39 : decode cX2_takeSecond 39 = .ok (.invokevirtual 31, 3) := by decide +kernel
theorem dX2_takeSecond_42 : decode cX2_takeSecond 42 = .ok (.iload_n 3, 1) := by decide +kernel
theorem dX2_takeSecond_43 : decode cX2_takeSecond 43 = .ok (.ireturn, 1) := by decide +kernel
theorem dX2_allowOrBar_0 : decode cX2_allowOrBar 0 = .ok (.iload_n 1, 1) := by decide +kernel
theorem dX2_allowOrBar_1 : decode cX2_allowOrBar 1 = .ok (.ifCond .lt 8, 3) := by decide +kernel
theorem dX2_allowOrBar_4 : decode cX2_allowOrBar 4 = .ok (.iload_n 1, 1) := by decide +kernel
theorem dX2_allowOrBar_5 : decode cX2_allowOrBar 5 = .ok (.iconst 5, 1) := by decide +kernel
theorem dX2_allowOrBar_6 : decode cX2_allowOrBar 6 = .ok (.if_icmp .lt 5, 3) := by decide +kernel
theorem dX2_allowOrBar_9 : decode cX2_allowOrBar 9 = .ok (.iconst (-1), 1) := by decide +kernel
theorem dX2_allowOrBar_10 : decode cX2_allowOrBar 10 = .ok (.ireturn, 1) := by decide +kernel
theorem dX2_allowOrBar_11 : decode cX2_allowOrBar 11 = .ok (.aload_n 0, 1) := by decide +kernel
theorem dX2_allowOrBar_12 : decode cX2_allowOrBar 12 = .ok (.dup, 1) := by decide +kernel
theorem dX2_allowOrBar_13 : decode cX2_allowOrBar 13 = .ok (.getfield 15, 3) := by decide +kernel
theorem dX2_allowOrBar_16 : decode cX2_allowOrBar 16 = .ok (.iconst 1, 1) := by decide +kernel
theorem dX2_allowOrBar_17 : decode cX2_allowOrBar 17 = .ok (.iload_n 1, 1) := by decide +kernel
theorem dX2_allowOrBar_18 : decode cX2_allowOrBar 18 = .ok (.ishl, 1) := by decide +kernel
theorem dX2_allowOrBar_19 : decode cX2_allowOrBar 19 = .ok (.ixor, 1) := by decide +kernel
theorem dX2_allowOrBar_20 : decode cX2_allowOrBar 20 = .ok (.putfield 15, 3) := by decide +kernel
theorem dX2_allowOrBar_23 : decode cX2_allowOrBar 23 = .ok (.aload_n 0, 1) := by decide +kernel
theorem dX2_allowOrBar_24 : decode cX2_allowOrBar 24 = .ok (.getfield 15, 3) := by decide +kernel
theorem dX2_allowOrBar_27 : decode cX2_allowOrBar 27 = .ok (.ireturn, 1) := by decide +kernel
theorem dX2_errorOfInsult_0 : decode cX2_errorOfInsult 0 = .ok (.aload_n 0, 1) := by decide +kernel
theorem dX2_errorOfInsult_1 : decode cX2_errorOfInsult 1 = .ok (.iload_n 1, 1) := by decide +kernel
theorem dX2_errorOfInsult_2 : decode cX2_errorOfInsult 2 = .ok (.invokevirtual 63, 3) := by decide +kernel
theorem dX2_errorOfInsult_5 : decode cX2_errorOfInsult 5 = .ok (.ifCond .eq 11, 3) := by decide +kernel
theorem dX2_errorOfInsult_8 : decode cX2_errorOfInsult 8 = .ok (.aload_n 0, 1) := by decide +kernel
theorem dX2_errorOfInsult_9 : decode cX2_errorOfInsult 9 = .ok (.iload_n 2, 1) := by decide +kernel
theorem dX2_errorOfInsult_10 : decode cX2_errorOfInsult 10 = .ok (.invokevirtual 63, 3) := by decide +kernel
theorem dX2_errorOfInsult_13 : decode cX2_errorOfInsult 13 = .ok (.ifCond .ne 5, 3) := by decide +kernel
theorem dX2_errorOfInsult_16 : decode cX2_errorOfInsult 16 = .ok (.iconst (-1), 1) := by decide +kernel
theorem dX2_errorOfInsult_17 : decode cX2_errorOfInsult 17 = .ok (.ireturn, 1) := by decide +kernel
theorem dX2_errorOfInsult_18 : decode cX2_errorOfInsult 18 = .ok (.iload_n 1, 1) := by decide +kernel
theorem dX2_errorOfInsult_19 : decode cX2_errorOfInsult 19 = .ok (.iload_n 2, 1) := by decide +kernel
theorem dX2_errorOfInsult_20 : decode cX2_errorOfInsult 20 = .ok (.if_icmp .eq 10, 3) := by decide +kernel
theorem dX2_errorOfInsult_23 : decode cX2_errorOfInsult 23 = .ok (.iload_n 3, 1) := by decide +kernel
theorem dX2_errorOfInsult_24 : decode cX2_errorOfInsult 24 = .ok (.invokestatic 66, 3) := by decide +kernel
theorem dX2_errorOfInsult_27 : decode cX2_errorOfInsult 27 = .ok (.ifCond .ne 8, 3) := by decide +kernel
theorem dX2_errorOfInsult_30 : decode cX2_errorOfInsult 30 = .ok (.bipush (-2), 2) := by decide +kernel
theorem dX2_errorOfInsult_32 : decode cX2_errorOfInsult 32 = .ok (.goto 4, 3) := by decide +kernel
theorem dX2_errorOfInsult_35 : decode cX2_errorOfInsult 35 = .ok (.iconst 0, 1) := by decide +kernel
theorem dX2_errorOfInsult_36 : decode cX2_errorOfInsult 36 = .ok (.ireturn, 1) := by decide +kernel
theorem dX2_haveOpenQuarrel_0 : decode cX2_haveOpenQuarrel 0 = .ok (.iconst 0, 1) := by decide +kernel
theorem dX2_haveOpenQuarrel_1 : decode cX2_haveOpenQuarrel 1 = .ok (.istore_n 3, 1) := by decide +kernel
theorem dX2_haveOpenQuarrel_2 : decode cX2_haveOpenQuarrel 2 = .ok (.iload_n 3, 1) := by decide +kernel
theorem dX2_haveOpenQuarrel_3 : decode cX2_haveOpenQuarrel 3 = .ok (.aload_n 0, 1) := by decide +kernel
theorem dX2_haveOpenQuarrel_4 : decode cX2_haveOpenQuarrel 4 = .ok (.getfield 21, 3) := by decide +kernel
theorem dX2_haveOpenQuarrel_7 : decode cX2_haveOpenQuarrel 7 = .ok (.if_icmp .ge 41, 3) := by decide +kernel
theorem dX2_haveOpenQuarrel_10 : decode cX2_haveOpenQuarrel 10 = .ok (.aload_n 0, 1) := by decide +kernel
theorem dX2_haveOpenQuarrel_11 : decode cX2_haveOpenQuarrel 11 = .ok (.iload_n 3, 1) := by decide +kernel
theorem dX2_haveOpenQuarrel_12 : decode cX2_haveOpenQuarrel 12 = .ok (.invokevirtual 69, 3) := by decide +kernel
theorem dX2_haveOpenQuarrel_15 : decode cX2_haveOpenQuarrel 15 = .ok (.ifCond .eq 27, 3) := by decide +kernel
theorem dX2_haveOpenQuarrel_18 : decode cX2_haveOpenQuarrel 18 = .ok (.iload_n 1, 1) := by decide +kernel
theorem dX2_haveOpenQuarrel_19 : decode cX2_haveOpenQuarrel 19 = .ok (.iload_n 2, 1) := by decide +kernel
theorem dX2_haveOpenQuarrel_20 : decode cX2_haveOpenQuarrel 20 = .ok (.aload_n 0, 1) := by decide +kernel
theorem dX2_haveOpenQuarrel_21 : decode cX2_haveOpenQuarrel 21 = .ok (.bipush 44, 2) := by decide +kernel
theorem dX2_haveOpenQuarrel_23 : decode cX2_haveOpenQuarrel 23 = .ok (.iload_n 3, 1) := by decide +kernel
theorem dX2_haveOpenQuarrel_24 : decode cX2_haveOpenQuarrel 24 = .ok (.invokevirtual 47, 3) := by decide +kernel
theorem dX2_haveOpenQuarrel_27 : decode cX2_haveOpenQuarrel 27 = .ok (.aload_n 0, 1) := by decide +kernel
theorem dX2_haveOpenQuarrel_28 : decode cX2_haveOpenQuarrel 28 = .ok (.bipush 56, 2) := by decide +kernel
theorem dX2_haveOpenQuarrel_30 : decode cX2_haveOpenQuarrel 30 = .ok (.iload_n 3, 1) := by decide +kernel
theorem dX2_haveOpenQuarrel_31 : decode cX2_haveOpenQuarrel 31 = .ok (.invokevirtual 47, 3) := by decide +kernel
theorem dX2_haveOpenQuarrel_34 : decode cX2_haveOpenQuarrel 34 = .ok (.invokestatic 72, 3) := by decide +kernel
theorem dX2_haveOpenQuarrel_37 : decode cX2_haveOpenQuarrel 37 = .ok (.ifCond .eq 5, 3) := by decide +kernel
theorem dX2_haveOpenQuarrel_40 : decode cX2_haveOpenQuarrel 40 = .ok (.iconst 1, 1) := by decide +kernel
theorem dX2_haveOpenQuarrel_41 : decode cX2_haveOpenQuarrel 41 = .ok (.ireturn, 1) := by decide +kernel
theorem dX2_haveOpenQuarrel_42 : decode cX2_haveOpenQuarrel 42 = .ok (.iinc 3 1, 3) := by decide +kernel
theorem dX2_haveOpenQuarrel_45 : decode cX2_haveOpenQuarrel 45 = .ok (.goto (-43), 3) := by decide +kernel
theorem dX2_haveOpenQuarrel_48 : decode cX2_haveOpenQuarrel 48 = .ok (.iconst 0, 1) := by decide +kernel
theorem dX2_haveOpenQuarrel_49 : decode cX2_haveOpenQuarrel 49 = .ok (.ireturn, 1) := by decide +kernel
theorem dX2_addQuarrel_0 : decode cX2_addQuarrel 0 = .ok (.aload_n 0, 1) := by decide +kernel
theorem dX2_addQuarrel_1 : decode cX2_addQuarrel 1 = .ok (.iload_n 1, 1) := by decide +kernel
theorem dX2_addQuarrel_2 : decode cX2_addQuarrel 2 = .ok (.iload_n 2, 1) := by decide +kernel
theorem dX2_addQuarrel_3 : decode cX2_addQuarrel 3 = .ok (.iload_n 3, 1) := by decide +kernel
theorem dX2_addQuarrel_4 : decode cX2_addQuarrel 4 = .ok (.invokevirtual 76, 3) := by decide +kernel
theorem dX2_addQuarrel_7 : decode cX2_addQuarrel 7 = .ok (.istore 4, 2) := by decide +kernel
theorem dX2_addQuarrel_9 : decode cX2_addQuarrel 9 = .ok (.iload 4, 2) := by decide +kernel
theorem dX2_addQuarrel_11 : decode cX2_addQuarrel 11 = .ok (.ifCond .eq 6, 3) := by decide +kernel
theorem dX2_addQuarrel_14 : decode cX2_addQuarrel 14 = .ok (.iload 4, 2) := by decide +kernel
theorem dX2_addQuarrel_16 : decode cX2_addQuarrel 16 = .ok (.ireturn, 1) := by decide +kernel
theorem dX2_addQuarrel_17 : decode cX2_addQuarrel 17 = .ok (.aload_n 0, 1) := by decide +kernel
theorem dX2_addQuarrel_18 : decode cX2_addQuarrel 18 = .ok (.iload_n 1, 1) := by decide +kernel
theorem dX2_addQuarrel_19 : decode cX2_addQuarrel 19 = .ok (.iload_n 2, 1) := by decide +kernel
theorem dX2_addQuarrel_20 : decode cX2_addQuarrel 20 = .ok (.invokevirtual 80, 3) := by decide +kernel
theorem dX2_addQuarrel_23 : decode cX2_addQuarrel 23 = .ok (.ifCond .eq 6, 3) := by decide +kernel
theorem dX2_addQuarrel_26 : decode cX2_addQuarrel 26 = .ok (.bipush (-5), 2) := by decide +kernel
theorem dX2_addQuarrel_28 : decode cX2_addQuarrel 28 = .ok (.ireturn, 1) := by decide +kernel
theorem dX2_addQuarrel_29 : decode cX2_addQuarrel 29 = .ok (.aload_n 0, 1) := by decide +kernel
theorem dX2_addQuarrel_30 : decode cX2_addQuarrel 30 = .ok (.getfield 21, 3) := by decide +kernel
theorem dX2_addQuarrel_33 : decode cX2_addQuarrel 33 = .ok (.bipush 12, 2) := by decide +kernel
theorem dX2_addQuarrel_35 : decode cX2_addQuarrel 35 = .ok (.if_icmp .lt 6, 3) := by decide +kernel
theorem dX2_addQuarrel_38 : decode cX2_addQuarrel 38 = .ok (.bipush (-4), 2) := by decide +kernel
theorem dX2_addQuarrel_40 : decode cX2_addQuarrel 40 = .ok (.ireturn, 1) := by decide +kernel
theorem dX2_addQuarrel_41 : decode cX2_addQuarrel 41 = .ok (.aload_n 0, 1) := by decide +kernel
theorem dX2_addQuarrel_42 : decode cX2_addQuarrel 42 = .ok (.getfield 21, 3) := by decide +kernel
theorem dX2_addQuarrel_45 : decode cX2_addQuarrel 45 = .ok (.istore 5, 2) := by decide +kernel
theorem dX2_addQuarrel_47 : decode cX2_addQuarrel 47 = .ok (.aload_n 0, 1) := by decide +kernel
theorem dX2_addQuarrel_48 : decode cX2_addQuarrel 48 = .ok (.bipush 44, 2) := by decide +kernel
theorem dX2_addQuarrel_50 : decode cX2_addQuarrel 50 = .ok (.iload 5, 2) := by decide +kernel
theorem dX2_addQuarrel_52 : decode cX2_addQuarrel 52 = .ok (.iload_n 1, 1) := by decide +kernel
theorem dX2_addQuarrel_53 : decode cX2_addQuarrel 53 = .ok (.invokevirtual 31, 3) := by decide +kernel
theorem dX2_addQuarrel_56 : decode cX2_addQuarrel 56 = .ok (.aload_n 0, 1) := by decide +kernel
theorem dX2_addQuarrel_57 : decode cX2_addQuarrel 57 = .ok (.bipush 56, 2) := by decide +kernel
theorem dX2_addQuarrel_59 : decode cX2_addQuarrel 59 = .ok (.iload 5, 2) := by decide +kernel
theorem dX2_addQuarrel_61 : decode cX2_addQuarrel 61 = .ok (.iload_n 2, 1) := by decide +kernel
theorem dX2_addQuarrel_62 : decode cX2_addQuarrel 62 = .ok (.invokevirtual 31, 3) := by decide +kernel
theorem dX2_addQuarrel_65 : decode cX2_addQuarrel 65 = .ok (.aload_n 0, 1) := by decide +kernel
theorem dX2_addQuarrel_66 : decode cX2_addQuarrel 66 = .ok (.bipush 68, 2) := by decide +kernel
theorem dX2_addQuarrel_68 : decode cX2_addQuarrel 68 = .ok (.iload 5, 2) := by decide +kernel
theorem dX2_addQuarrel_70 : decode cX2_addQuarrel 70 = .ok (.iload_n 3, 1) := by decide +kernel
theorem dX2_addQuarrel_71 : decode cX2_addQuarrel 71 = .ok (.invokevirtual 31, 3) := by decide +kernel
theorem dX2_addQuarrel_74 : decode cX2_addQuarrel 74 = .ok (.aload_n 0, 1) := by decide +kernel
theorem dX2_addQuarrel_75 : decode cX2_addQuarrel 75 = .ok (.bipush 80, 2) := by decide +kernel
theorem dX2_addQuarrel_77 : decode cX2_addQuarrel 77 = .ok (.iload 5, 2) := by decide +kernel
theorem dX2_addQuarrel_79 : decode cX2_addQuarrel 79 = .ok (.aload_n 0, 1) := by decide +kernel
theorem dX2_addQuarrel_80 : decode cX2_addQuarrel 80 = .ok (.getfield 11, 3) := by decide +kernel
theorem dX2_addQuarrel_83 : decode cX2_addQuarrel 83 = .ok (.invokevirtual 31, 3) := by decide +kernel
theorem dX2_addQuarrel_86 : decode cX2_addQuarrel 86 = .ok (.aload_n 0, 1) := by decide +kernel
theorem dX2_addQuarrel_87 : decode cX2_addQuarrel 87 = .ok (.bipush 92, 2) := by decide +kernel
theorem dX2_addQuarrel_89 : decode cX2_addQuarrel 89 = .ok (.iload 5, 2) := by decide +kernel
theorem dX2_addQuarrel_91 : decode cX2_addQuarrel 91 = .ok (.iconst 0, 1) := by decide +kernel
theorem dX2_addQuarrel_92 : decode cX2_addQuarrel 92 = .ok (.invokevirtual 31, 3) := by decide +kernel
theorem dX2_addQuarrel_95 : decode cX2_addQuarrel 95 = .ok (.aload_n 0, 1) := by decide +kernel
theorem dX2_addQuarrel_96 : decode cX2_addQuarrel 96 = .ok (.bipush 104, 2) := by decide +kernel
theorem dX2_addQuarrel_98 : decode cX2_addQuarrel 98 = .ok (.iload 5, 2) := by decide +kernel
theorem dX2_addQuarrel_100 : decode cX2_addQuarrel 100 = .ok (.bipush (-6), 2) := by decide +kernel
theorem dX2_addQuarrel_102 : decode cX2_addQuarrel 102 = .ok (.invokevirtual 31, 3) := by decide +kernel
theorem dX2_addQuarrel_105 : decode cX2_addQuarrel 105 = .ok (.aload_n 0, 1) := by decide +kernel
theorem dX2_addQuarrel_106 : decode cX2_addQuarrel 106 = .ok (.bipush 116, 2) := by decide +kernel
theorem dX2_addQuarrel_108 : decode cX2_addQuarrel 108 = .ok (.iload 5, 2) := by decide +kernel
theorem dX2_addQuarrel_110 : decode cX2_addQuarrel 110 = .ok (.iconst 0, 1) := by decide +kernel
theorem dX2_addQuarrel_111 : decode cX2_addQuarrel 111 = .ok (.invokevirtual 31, 3) := by decide +kernel
theorem dX2_addQuarrel_114 : decode cX2_addQuarrel 114 = .ok (.aload_n 0, 1) := by decide +kernel
theorem dX2_addQuarrel_115 : decode cX2_addQuarrel 115 = .ok (.sipush 128, 3) := by decide +kernel
theorem dX2_addQuarrel_118 : decode cX2_addQuarrel 118 = .ok (.iload 5, 2) := by decide +kernel
theorem dX2_addQuarrel_120 : decode cX2_addQuarrel 120 = .ok (.bipush (-6), 2) := by decide +kernel
theorem dX2_addQuarrel_122 : decode cX2_addQuarrel 122 = .ok (.invokevirtual 31, 3) := by decide +kernel
theorem dX2_addQuarrel_125 : decode cX2_addQuarrel 125 = .ok (.aload_n 0, 1) := by decide +kernel
theorem dX2_addQuarrel_126 : decode cX2_addQuarrel 126 = .ok (.dup, 1) := by decide +kernel
theorem dX2_addQuarrel_127 : decode cX2_addQuarrel 127 = .ok (.getfield 21, 3) := by decide +kernel
theorem dX2_addQuarrel_130 : decode cX2_addQuarrel 130 = .ok (.iconst 1, 1) := by decide +kernel
theorem dX2_addQuarrel_131 : decode cX2_addQuarrel 131 = .ok (.iadd, 1) := by decide +kernel
theorem dX2_addQuarrel_132 : decode cX2_addQuarrel 132 = .ok (.putfield 21, 3) := by decide +kernel
theorem dX2_addQuarrel_135 : decode cX2_addQuarrel 135 = .ok (.aload_n 0, 1) := by decide +kernel
theorem dX2_addQuarrel_136 : decode cX2_addQuarrel 136 = .ok (.iconst 0, 1) := by decide +kernel
theorem dX2_addQuarrel_137 : decode cX2_addQuarrel 137 = .ok (.iload 5, 2) := by decide +kernel
theorem dX2_addQuarrel_139 : decode cX2_addQuarrel 139 = .ok (.invokevirtual 84, 3) := by decide +kernel
theorem dX2_addQuarrel_142 : decode cX2_addQuarrel 142 = .ok (.iload 5, 2) := by decide +kernel
theorem dX2_addQuarrel_144 : decode cX2_addQuarrel 144 = .ok (.ireturn, 1) := by decide +kernel
theorem dX2_settleBy_0 : decode cX2_settleBy 0 = .ok (.aload_n 0, 1) := by decide +kernel
theorem dX2_settleBy_1 : decode cX2_settleBy 1 = .ok (.iload_n 1, 1) := by decide +kernel
theorem dX2_settleBy_2 : decode cX2_settleBy 2 = .ok (.invokevirtual 88, 3) := by decide +kernel
theorem dX2_settleBy_5 : decode cX2_settleBy 5 = .ok (.ifCond .eq 12, 3) := by decide +kernel
theorem dX2_settleBy_8 : decode cX2_settleBy 8 = .ok (.iload_n 2, 1) := by decide +kernel
theorem dX2_settleBy_9 : decode cX2_settleBy 9 = .ok (.ifCond .lt 8, 3) := by decide +kernel
theorem dX2_settleBy_12 : decode cX2_settleBy 12 = .ok (.iload_n 2, 1) := by decide +kernel
theorem dX2_settleBy_13 : decode cX2_settleBy 13 = .ok (.iconst 5, 1) := by decide +kernel
theorem dX2_settleBy_14 : decode cX2_settleBy 14 = .ok (.if_icmp .lt 5, 3) := by decide +kernel
theorem dX2_settleBy_17 : decode cX2_settleBy 17 = .ok (.iconst (-1), 1) := by decide +kernel
theorem dX2_settleBy_18 : decode cX2_settleBy 18 = .ok (.ireturn, 1) := by decide +kernel
theorem dX2_settleBy_19 : decode cX2_settleBy 19 = .ok (.aload_n 0, 1) := by decide +kernel
theorem dX2_settleBy_20 : decode cX2_settleBy 20 = .ok (.iload_n 1, 1) := by decide +kernel
theorem dX2_settleBy_21 : decode cX2_settleBy 21 = .ok (.invokevirtual 91, 3) := by decide +kernel
theorem dX2_settleBy_24 : decode cX2_settleBy 24 = .ok (.iconst 1, 1) := by decide +kernel
theorem dX2_settleBy_25 : decode cX2_settleBy 25 = .ok (.iload_n 2, 1) := by decide +kernel
theorem dX2_settleBy_26 : decode cX2_settleBy 26 = .ok (.ishl, 1) := by decide +kernel
theorem dX2_settleBy_27 : decode cX2_settleBy 27 = .ok (.iand, 1) := by decide +kernel
theorem dX2_settleBy_28 : decode cX2_settleBy 28 = .ok (.ifCond .ne 6, 3) := by decide +kernel
theorem dX2_settleBy_31 : decode cX2_settleBy 31 = .ok (.bipush (-5), 2) := by decide +kernel
theorem dX2_settleBy_33 : decode cX2_settleBy 33 = .ok (.ireturn, 1) := by decide +kernel
theorem dX2_settleBy_34 : decode cX2_settleBy 34 = .ok (.iload_n 2, 1) := by decide +kernel
theorem dX2_settleBy_35 : decode cX2_settleBy 35 = .ok (.ifCond .ne 19, 3) := by decide +kernel
theorem dX2_settleBy_38 : decode cX2_settleBy 38 = .ok (.aload_n 0, 1) := by decide +kernel
theorem dX2_settleBy_39 : decode cX2_settleBy 39 = .ok (.iconst 4, 1) := by decide +kernel
theorem dX2_settleBy_40 : decode cX2_settleBy 40 = .ok (.aload_n 0, 1) := by decide +kernel
theorem dX2_settleBy_41 : decode cX2_settleBy 41 = .ok (.bipush 44, 2) := by decide +kernel
theorem dX2_settleBy_43 : decode cX2_settleBy 43 = .ok (.iload_n 1, 1) := by decide +kernel
theorem dX2_settleBy_44 : decode cX2_settleBy 44 = .ok (.invokevirtual 47, 3) := by decide +kernel
theorem dX2_settleBy_47 : decode cX2_settleBy 47 = .ok (.iconst (-1), 1) := by decide +kernel
theorem dX2_settleBy_48 : decode cX2_settleBy 48 = .ok (.invokevirtual 95, 3) := by decide +kernel
theorem dX2_settleBy_51 : decode cX2_settleBy 51 = .ok (.goto 48, 3) := by decide +kernel
theorem dX2_settleBy_54 : decode cX2_settleBy 54 = .ok (.iload_n 2, 1) := by decide +kernel
theorem dX2_settleBy_55 : decode cX2_settleBy 55 = .ok (.iconst 1, 1) := by decide +kernel
theorem dX2_settleBy_56 : decode cX2_settleBy 56 = .ok (.if_icmp .ne 43, 3) := by decide +kernel
theorem dX2_settleBy_59 : decode cX2_settleBy 59 = .ok (.aload_n 0, 1) := by decide +kernel
theorem dX2_settleBy_60 : decode cX2_settleBy 60 = .ok (.bipush 14, 2) := by decide +kernel
theorem dX2_settleBy_62 : decode cX2_settleBy 62 = .ok (.aload_n 0, 1) := by decide +kernel
theorem dX2_settleBy_63 : decode cX2_settleBy 63 = .ok (.bipush 24, 2) := by decide +kernel
theorem dX2_settleBy_65 : decode cX2_settleBy 65 = .ok (.aload_n 0, 1) := by decide +kernel
theorem dX2_settleBy_66 : decode cX2_settleBy 66 = .ok (.bipush 44, 2) := by decide +kernel
theorem dX2_settleBy_68 : decode cX2_settleBy 68 = .ok (.iload_n 1, 1) := by decide +kernel
theorem dX2_settleBy_69 : decode cX2_settleBy 69 = .ok (.invokevirtual 47, 3) := by decide +kernel
theorem dX2_settleBy_72 : decode cX2_settleBy 72 = .ok (.invokevirtual 47, 3) := by decide +kernel
theorem dX2_settleBy_75 : decode cX2_settleBy 75 = .ok (.iconst 1, 1) := by decide +kernel
theorem dX2_settleBy_76 : decode cX2_settleBy 76 = .ok (.invokevirtual 95, 3) := by decide +kernel
theorem dX2_settleBy_79 : decode cX2_settleBy 79 = .ok (.aload_n 0, 1) := by decide +kernel
theorem dX2_settleBy_80 : decode cX2_settleBy 80 = .ok (.bipush 14, 2) := by decide +kernel
theorem dX2_settleBy_82 : decode cX2_settleBy 82 = .ok (.aload_n 0, 1) := by decide +kernel
theorem dX2_settleBy_83 : decode cX2_settleBy 83 = .ok (.bipush 24, 2) := by decide +kernel
theorem dX2_settleBy_85 : decode cX2_settleBy 85 = .ok (.aload_n 0, 1) := by decide +kernel
theorem dX2_settleBy_86 : decode cX2_settleBy 86 = .ok (.bipush 56, 2) := by decide +kernel
theorem dX2_settleBy_88 : decode cX2_settleBy 88 = .ok (.iload_n 1, 1) := by decide +kernel
theorem dX2_settleBy_89 : decode cX2_settleBy 89 = .ok (.invokevirtual 47, 3) := by decide +kernel
theorem dX2_settleBy_92 : decode cX2_settleBy 92 = .ok (.invokevirtual 47, 3) := by decide +kernel
theorem dX2_settleBy_95 : decode cX2_settleBy 95 = .ok (.iconst 1, 1) := by decide +kernel
theorem dX2_settleBy_96 : decode cX2_settleBy 96 = .ok (.invokevirtual 95, 3) := by decide +kernel
theorem dX2_settleBy_99 : decode cX2_settleBy 99 = .ok (.aload_n 0, 1) := by decide +kernel
theorem dX2_settleBy_100 : decode cX2_settleBy 100 = .ok (.bipush 92, 2) := by decide +kernel
theorem dX2_settleBy_102 : decode cX2_settleBy 102 = .ok (.iload_n 1, 1) := by decide +kernel
theorem dX2_settleBy_103 : decode cX2_settleBy 103 = .ok (.iconst 1, 1) := by decide +kernel
theorem dX2_settleBy_104 : decode cX2_settleBy 104 = .ok (.invokevirtual 31, 3) := by decide +kernel
theorem dX2_settleBy_107 : decode cX2_settleBy 107 = .ok (.aload_n 0, 1) := by decide +kernel
theorem dX2_settleBy_108 : decode cX2_settleBy 108 = .ok (.bipush 104, 2) := by decide +kernel
theorem dX2_settleBy_110 : decode cX2_settleBy 110 = .ok (.iload_n 1, 1) := by decide +kernel
theorem dX2_settleBy_111 : decode cX2_settleBy 111 = .ok (.iload_n 2, 1) := by decide +kernel
theorem dX2_settleBy_112 : decode cX2_settleBy 112 = .ok (.invokevirtual 31, 3) := by decide +kernel
theorem dX2_settleBy_115 : decode cX2_settleBy 115 = .ok (.aload_n 0, 1) := by decide +kernel
theorem dX2_settleBy_116 : decode cX2_settleBy 116 = .ok (.bipush 116, 2) := by decide +kernel
theorem dX2_settleBy_118 : decode cX2_settleBy 118 = .ok (.iload_n 1, 1) := by decide +kernel
theorem dX2_settleBy_119 : decode cX2_settleBy 119 = .ok (.aload_n 0, 1) := by decide +kernel
theorem dX2_settleBy_120 : decode cX2_settleBy 120 = .ok (.getfield 11, 3) := by decide +kernel
theorem dX2_settleBy_123 : decode cX2_settleBy 123 = .ok (.invokevirtual 31, 3) := by decide +kernel
theorem dX2_settleBy_126 : decode cX2_settleBy 126 = .ok (.aload_n 0, 1) := by decide +kernel
theorem dX2_settleBy_127 : decode cX2_settleBy 127 = .ok (.iconst 1, 1) := by decide +kernel
theorem dX2_settleBy_128 : decode cX2_settleBy 128 = .ok (.iload_n 1, 1) := by decide +kernel
theorem dX2_settleBy_129 : decode cX2_settleBy 129 = .ok (.invokevirtual 84, 3) := by decide +kernel
theorem dX2_settleBy_132 : decode cX2_settleBy 132 = .ok (.aload_n 0, 1) := by decide +kernel
theorem dX2_settleBy_133 : decode cX2_settleBy 133 = .ok (.bipush 92, 2) := by decide +kernel
theorem dX2_settleBy_135 : decode cX2_settleBy 135 = .ok (.iconst 0, 1) := by decide +kernel
theorem dX2_settleBy_136 : decode cX2_settleBy 136 = .ok (.invokevirtual 98, 3) := by decide +kernel
theorem dX2_settleBy_139 : decode cX2_settleBy 139 = .ok (.ireturn, 1) := by decide +kernel
theorem dX2_duel_0 : decode cX2_duel 0 = .ok (.aload_n 0, 1) := by decide +kernel
theorem dX2_duel_1 : decode cX2_duel 1 = .ok (.iload_n 1, 1) := by decide +kernel
theorem dX2_duel_2 : decode cX2_duel 2 = .ok (.invokevirtual 88, 3) := by decide +kernel
theorem dX2_duel_5 : decode cX2_duel 5 = .ok (.ifCond .ne 5, 3) := by decide +kernel
theorem dX2_duel_8 : decode cX2_duel 8 = .ok (.iconst (-1), 1) := by decide +kernel
theorem dX2_duel_9 : decode cX2_duel 9 = .ok (.ireturn, 1) := by decide +kernel
theorem dX2_duel_10 : decode cX2_duel 10 = .ok (.aload_n 0, 1) := by decide +kernel
theorem dX2_duel_11 : decode cX2_duel 11 = .ok (.iload_n 1, 1) := by decide +kernel
theorem dX2_duel_12 : decode cX2_duel 12 = .ok (.aload_n 0, 1) := by decide +kernel
theorem dX2_duel_13 : decode cX2_duel 13 = .ok (.iload_n 1, 1) := by decide +kernel
theorem dX2_duel_14 : decode cX2_duel 14 = .ok (.invokevirtual 91, 3) := by decide +kernel
theorem dX2_duel_17 : decode cX2_duel 17 = .ok (.invokevirtual 101, 3) := by decide +kernel
theorem dX2_duel_20 : decode cX2_duel 20 = .ok (.ifCond .eq 6, 3) := by decide +kernel
theorem dX2_duel_23 : decode cX2_duel 23 = .ok (.bipush (-5), 2) := by decide +kernel
theorem dX2_duel_25 : decode cX2_duel 25 = .ok (.ireturn, 1) := by decide +kernel
theorem dX2_duel_26 : decode cX2_duel 26 = .ok (.aload_n 0, 1) := by decide +kernel
theorem dX2_duel_27 : decode cX2_duel 27 = .ok (.bipush 44, 2) := by decide +kernel
theorem dX2_duel_29 : decode cX2_duel 29 = .ok (.iload_n 1, 1) := by decide +kernel
theorem dX2_duel_30 : decode cX2_duel 30 = .ok (.invokevirtual 47, 3) := by decide +kernel
theorem dX2_duel_33 : decode cX2_duel 33 = .ok (.istore_n 2, 1) := by decide +kernel
theorem dX2_duel_34 : decode cX2_duel 34 = .ok (.aload_n 0, 1) := by decide +kernel
theorem dX2_duel_35 : decode cX2_duel 35 = .ok (.bipush 56, 2) := by decide +kernel
theorem dX2_duel_37 : decode cX2_duel 37 = .ok (.iload_n 1, 1) := by decide +kernel
theorem dX2_duel_38 : decode cX2_duel 38 = .ok (.invokevirtual 47, 3) := by decide +kernel
theorem dX2_duel_41 : decode cX2_duel 41 = .ok (.istore_n 3, 1) := by decide +kernel
theorem dX2_duel_42 : decode cX2_duel 42 = .ok (.aload_n 0, 1) := by decide +kernel
theorem dX2_duel_43 : decode cX2_duel 43 = .ok (.iload_n 1, 1) := by decide +kernel
theorem dX2_duel_44 : decode cX2_duel 44 = .ok (.invokevirtual 104, 3) := by decide +kernel
theorem dX2_duel_47 : decode cX2_duel 47 = .ok (.istore 4, 2) := by decide +kernel
theorem dX2_duel_49 : decode cX2_duel 49 = .ok (.aload_n 0, 1) := by decide +kernel
theorem dX2_duel_50 : decode cX2_duel 50 = .ok (.iconst 4, 1) := by decide +kernel
theorem dX2_duel_51 : decode cX2_duel 51 = .ok (.iload 4, 2) := by decide +kernel
theorem dX2_duel_53 : decode cX2_duel 53 = .ok (.iconst 1, 1) := by decide +kernel
theorem dX2_duel_54 : decode cX2_duel 54 = .ok (.invokevirtual 95, 3) := by decide +kernel
theorem dX2_duel_57 : decode cX2_duel 57 = .ok (.aload_n 0, 1) := by decide +kernel
theorem dX2_duel_58 : decode cX2_duel 58 = .ok (.iconst 4, 1) := by decide +kernel
theorem dX2_duel_59 : decode cX2_duel 59 = .ok (.iload 4, 2) := by decide +kernel
theorem dX2_duel_61 : decode cX2_duel 61 = .ok (.iload_n 2, 1) := by decide +kernel
theorem dX2_duel_62 : decode cX2_duel 62 = .ok (.if_icmp .ne 7, 3) := by decide +kernel
theorem dX2_duel_65 : decode cX2_duel 65 = .ok (.iload_n 3, 1) := by decide +kernel
theorem dX2_duel_66 : decode cX2_duel 66 = .ok (.goto 4, 3) := by decide +kernel
theorem dX2_duel_69 : decode cX2_duel 69 = .ok (.iload_n 2, 1) := by decide +kernel
theorem dX2_duel_70 : decode cX2_duel 70 = .ok (.bipush (-2), 2) := by decide +kernel
theorem dX2_duel_72 : decode cX2_duel 72 = .ok (.invokevirtual 95, 3) := by decide +kernel
theorem dX2_duel_75 : decode cX2_duel 75 = .ok (.aload_n 0, 1) := by decide +kernel
theorem dX2_duel_76 : decode cX2_duel 76 = .ok (.iload_n 2, 1) := by decide +kernel
theorem dX2_duel_77 : decode cX2_duel 77 = .ok (.invokevirtual 107, 3) := by decide +kernel
theorem dX2_duel_80 : decode cX2_duel 80 = .ok (.aload_n 0, 1) := by decide +kernel
theorem dX2_duel_81 : decode cX2_duel 81 = .ok (.iload_n 3, 1) := by decide +kernel
theorem dX2_duel_82 : decode cX2_duel 82 = .ok (.invokevirtual 107, 3) := by decide +kernel
theorem dX2_duel_85 : decode cX2_duel 85 = .ok (.aload_n 0, 1) := by decide +kernel
theorem dX2_duel_86 : decode cX2_duel 86 = .ok (.bipush 92, 2) := by decide +kernel
theorem dX2_duel_88 : decode cX2_duel 88 = .ok (.iload_n 1, 1) := by decide +kernel
theorem dX2_duel_89 : decode cX2_duel 89 = .ok (.iconst 2, 1) := by decide +kernel
theorem dX2_duel_90 : decode cX2_duel 90 = .ok (.invokevirtual 31, 3) := by decide +kernel
theorem dX2_duel_93 : decode cX2_duel 93 = .ok (.aload_n 0, 1) := by decide +kernel
theorem dX2_duel_94 : decode cX2_duel 94 = .ok (.sipush 128, 3) := by decide +kernel
theorem dX2_duel_97 : decode cX2_duel 97 = .ok (.iload_n 1, 1) := by decide +kernel
theorem dX2_duel_98 : decode cX2_duel 98 = .ok (.iload 4, 2) := by decide +kernel
theorem dX2_duel_100 : decode cX2_duel 100 = .ok (.invokevirtual 31, 3) := by decide +kernel
theorem dX2_duel_103 : decode cX2_duel 103 = .ok (.aload_n 0, 1) := by decide +kernel
theorem dX2_duel_104 : decode cX2_duel 104 = .ok (.iconst 2, 1) := by decide +kernel
theorem dX2_duel_105 : decode cX2_duel 105 = .ok (.iload_n 1, 1) := by decide +kernel
theorem dX2_duel_106 : decode cX2_duel 106 = .ok (.invokevirtual 84, 3) := by decide +kernel
theorem dX2_duel_109 : decode cX2_duel 109 = .ok (.iload 4, 2) := by decide +kernel
theorem dX2_duel_111 : decode cX2_duel 111 = .ok (.ireturn, 1) := by decide +kernel
theorem dX2_takeOath_0 : decode cX2_takeOath 0 = .ok (.aload_n 0, 1) := by decide +kernel
theorem dX2_takeOath_1 : decode cX2_takeOath 1 = .ok (.iload_n 1, 1) := by decide +kernel
theorem dX2_takeOath_2 : decode cX2_takeOath 2 = .ok (.invokevirtual 63, 3) := by decide +kernel
theorem dX2_takeOath_5 : decode cX2_takeOath 5 = .ok (.ifCond .ne 5, 3) := by decide +kernel
theorem dX2_takeOath_8 : decode cX2_takeOath 8 = .ok (.iconst (-1), 1) := by decide +kernel
theorem dX2_takeOath_9 : decode cX2_takeOath 9 = .ok (.ireturn, 1) := by decide +kernel
theorem dX2_takeOath_10 : decode cX2_takeOath 10 = .ok (.aload_n 0, 1) := by decide +kernel
theorem dX2_takeOath_11 : decode cX2_takeOath 11 = .ok (.iload_n 1, 1) := by decide +kernel
theorem dX2_takeOath_12 : decode cX2_takeOath 12 = .ok (.invokevirtual 111, 3) := by decide +kernel
theorem dX2_takeOath_15 : decode cX2_takeOath 15 = .ok (.ifCond .le 6, 3) := by decide +kernel
theorem dX2_takeOath_18 : decode cX2_takeOath 18 = .ok (.bipush (-5), 2) := by decide +kernel
theorem dX2_takeOath_20 : decode cX2_takeOath 20 = .ok (.ireturn, 1) := by decide +kernel
theorem dX2_takeOath_21 : decode cX2_takeOath 21 = .ok (.aload_n 0, 1) := by decide +kernel
theorem dX2_takeOath_22 : decode cX2_takeOath 22 = .ok (.iload_n 1, 1) := by decide +kernel
theorem dX2_takeOath_23 : decode cX2_takeOath 23 = .ok (.invokevirtual 107, 3) := by decide +kernel
theorem dX2_takeOath_26 : decode cX2_takeOath 26 = .ok (.aload_n 0, 1) := by decide +kernel
theorem dX2_takeOath_27 : decode cX2_takeOath 27 = .ok (.iconst 3, 1) := by decide +kernel
theorem dX2_takeOath_28 : decode cX2_takeOath 28 = .ok (.iload_n 1, 1) := by decide +kernel
theorem dX2_takeOath_29 : decode cX2_takeOath 29 = .ok (.invokevirtual 84, 3) := by decide +kernel
theorem dX2_takeOath_32 : decode cX2_takeOath 32 = .ok (.aload_n 0, 1) := by decide +kernel
theorem dX2_takeOath_33 : decode cX2_takeOath 33 = .ok (.bipush 34, 2) := by decide +kernel
theorem dX2_takeOath_35 : decode cX2_takeOath 35 = .ok (.iload_n 1, 1) := by decide +kernel
theorem dX2_takeOath_36 : decode cX2_takeOath 36 = .ok (.invokevirtual 47, 3) := by decide +kernel
theorem dX2_takeOath_39 : decode cX2_takeOath 39 = .ok (.ireturn, 1) := by decide +kernel
theorem dX2_moveOn_0 : decode cX2_moveOn 0 = .ok (.iload_n 1, 1) := by decide +kernel
theorem dX2_moveOn_1 : decode cX2_moveOn 1 = .ok (.iconst 1, 1) := by decide +kernel
theorem dX2_moveOn_2 : decode cX2_moveOn 2 = .ok (.if_icmp .lt 9, 3) := by decide +kernel
theorem dX2_moveOn_5 : decode cX2_moveOn 5 = .ok (.iload_n 1, 1) := by decide +kernel
theorem dX2_moveOn_6 : decode cX2_moveOn 6 = .ok (.bipush 99, 2) := by decide +kernel
theorem dX2_moveOn_8 : decode cX2_moveOn 8 = .ok (.if_icmp .le 6, 3) := by decide +kernel
theorem dX2_moveOn_11 : decode cX2_moveOn 11 = .ok (.bipush (-2), 2) := by decide +kernel
theorem dX2_moveOn_13 : decode cX2_moveOn 13 = .ok (.ireturn, 1) := by decide +kernel
theorem dX2_moveOn_14 : decode cX2_moveOn 14 = .ok (.aload_n 0, 1) := by decide +kernel
theorem dX2_moveOn_15 : decode cX2_moveOn 15 = .ok (.getfield 11, 3) := by decide +kernel
theorem dX2_moveOn_18 : decode cX2_moveOn 18 = .ok (.iload_n 1, 1) := by decide +kernel
theorem dX2_moveOn_19 : decode cX2_moveOn 19 = .ok (.iadd, 1) := by decide +kernel
theorem dX2_moveOn_20 : decode cX2_moveOn 20 = .ok (.istore_n 2, 1) := by decide +kernel
theorem dX2_moveOn_21 : decode cX2_moveOn 21 = .ok (.iload_n 2, 1) := by decide +kernel
theorem dX2_moveOn_22 : decode cX2_moveOn 22 = .ok (.sipush 9999, 3) := by decide +kernel
theorem dX2_moveOn_25 : decode cX2_moveOn 25 = .ok (.if_icmp .le 6, 3) := by decide +kernel
theorem dX2_moveOn_28 : decode cX2_moveOn 28 = .ok (.bipush (-5), 2) := by decide +kernel
theorem dX2_moveOn_30 : decode cX2_moveOn 30 = .ok (.ireturn, 1) := by decide +kernel
theorem dX2_moveOn_31 : decode cX2_moveOn 31 = .ok (.aload_n 0, 1) := by decide +kernel
theorem dX2_moveOn_32 : decode cX2_moveOn 32 = .ok (.iload_n 2, 1) := by decide +kernel
theorem dX2_moveOn_33 : decode cX2_moveOn 33 = .ok (.putfield 11, 3) := by decide +kernel
theorem dX2_moveOn_36 : decode cX2_moveOn 36 = .ok (.iload_n 2, 1) := by decide +kernel
theorem dX2_moveOn_37 : decode cX2_moveOn 37 = .ok (.ireturn, 1) := by decide +kernel
theorem dX2_addPoints_0 : decode cX2_addPoints 0 = .ok (.aload_n 0, 1) := by decide +kernel
theorem dX2_addPoints_1 : decode cX2_addPoints 1 = .ok (.iload_n 1, 1) := by decide +kernel
theorem dX2_addPoints_2 : decode cX2_addPoints 2 = .ok (.iload_n 2, 1) := by decide +kernel
theorem dX2_addPoints_3 : decode cX2_addPoints 3 = .ok (.invokevirtual 47, 3) := by decide +kernel
theorem dX2_addPoints_6 : decode cX2_addPoints 6 = .ok (.iload_n 3, 1) := by decide +kernel
theorem dX2_addPoints_7 : decode cX2_addPoints 7 = .ok (.iadd, 1) := by decide +kernel
theorem dX2_addPoints_8 : decode cX2_addPoints 8 = .ok (.istore 4, 2) := by decide +kernel
theorem dX2_addPoints_10 : decode cX2_addPoints 10 = .ok (.aload_n 0, 1) := by decide +kernel
theorem dX2_addPoints_11 : decode cX2_addPoints 11 = .ok (.iload_n 1, 1) := by decide +kernel
theorem dX2_addPoints_12 : decode cX2_addPoints 12 = .ok (.iload_n 2, 1) := by decide +kernel
theorem dX2_addPoints_13 : decode cX2_addPoints 13 = .ok (.iconst 0, 1) := by decide +kernel
theorem dX2_addPoints_14 : decode cX2_addPoints 14 = .ok (.bipush 9, 2) := by decide +kernel
theorem dX2_addPoints_16 : decode cX2_addPoints 16 = .ok (.iload 4, 2) := by decide +kernel
theorem dX2_addPoints_18 : decode cX2_addPoints 18 = .ok (.invokestatic 35, 3) := by decide +kernel
theorem dX2_addPoints_21 : decode cX2_addPoints 21 = .ok (.invokestatic 50, 3) := by decide +kernel
theorem dX2_addPoints_24 : decode cX2_addPoints 24 = .ok (.invokevirtual 31, 3) := by decide +kernel
theorem dX2_addPoints_27 : decode cX2_addPoints 27 = .ok (.return_, 1) := by decide +kernel
theorem dX2_bindByOath_0 : decode cX2_bindByOath 0 = .ok (.aload_n 0, 1) := by decide +kernel
theorem dX2_bindByOath_1 : decode cX2_bindByOath 1 = .ok (.getfield 11, 3) := by decide +kernel
theorem dX2_bindByOath_4 : decode cX2_bindByOath 4 = .ok (.aload_n 0, 1) := by decide +kernel
theorem dX2_bindByOath_5 : decode cX2_bindByOath 5 = .ok (.iconst 0, 1) := by decide +kernel
theorem dX2_bindByOath_6 : decode cX2_bindByOath 6 = .ok (.iconst 2, 1) := by decide +kernel
theorem dX2_bindByOath_7 : decode cX2_bindByOath 7 = .ok (.invokevirtual 47, 3) := by decide +kernel
theorem dX2_bindByOath_10 : decode cX2_bindByOath 10 = .ok (.iadd, 1) := by decide +kernel
theorem dX2_bindByOath_11 : decode cX2_bindByOath 11 = .ok (.istore_n 2, 1) := by decide +kernel
theorem dX2_bindByOath_12 : decode cX2_bindByOath 12 = .ok (.aload_n 0, 1) := by decide +kernel
theorem dX2_bindByOath_13 : decode cX2_bindByOath 13 = .ok (.bipush 34, 2) := by decide +kernel
theorem dX2_bindByOath_15 : decode cX2_bindByOath 15 = .ok (.iload_n 1, 1) := by decide +kernel
theorem dX2_bindByOath_16 : decode cX2_bindByOath 16 = .ok (.iload_n 2, 1) := by decide +kernel
theorem dX2_bindByOath_17 : decode cX2_bindByOath 17 = .ok (.aload_n 0, 1) := by decide +kernel
theorem dX2_bindByOath_18 : decode cX2_bindByOath 18 = .ok (.bipush 34, 2) := by decide +kernel
theorem dX2_bindByOath_20 : decode cX2_bindByOath 20 = .ok (.iload_n 1, 1) := by decide +kernel
theorem dX2_bindByOath_21 : decode cX2_bindByOath 21 = .ok (.invokevirtual 47, 3) := by decide +kernel
theorem dX2_bindByOath_24 : decode cX2_bindByOath 24 = .ok (.invokestatic 50, 3) := by decide +kernel
theorem dX2_bindByOath_27 : decode cX2_bindByOath 27 = .ok (.invokevirtual 31, 3) := by decide +kernel
theorem dX2_bindByOath_30 : decode cX2_bindByOath 30 = .ok (.return_, 1) := by decide +kernel
theorem dX2_addEvent_0 : decode cX2_addEvent 0 = .ok (.aload_n 0, 1) := by decide +kernel
theorem dX2_addEvent_1 : decode cX2_addEvent 1 = .ok (.getfield 24, 3) := by decide +kernel
theorem dX2_addEvent_4 : decode cX2_addEvent 4 = .ok (.bipush 12, 2) := by decide +kernel
theorem dX2_addEvent_6 : decode cX2_addEvent 6 = .ok (.invokestatic 114, 3) := by decide +kernel
theorem dX2_addEvent_9 : decode cX2_addEvent 9 = .ok (.istore_n 3, 1) := by decide +kernel
theorem dX2_addEvent_10 : decode cX2_addEvent 10 = .ok (.aload_n 0, 1) := by decide +kernel
theorem dX2_addEvent_11 : decode cX2_addEvent 11 = .ok (.sipush 140, 3) := by decide +kernel
theorem dX2_addEvent_14 : decode cX2_addEvent 14 = .ok (.iload_n 3, 1) := by decide +kernel
theorem dX2_addEvent_15 : decode cX2_addEvent 15 = .ok (.iload_n 1, 1) := by decide +kernel
theorem dX2_addEvent_16 : decode cX2_addEvent 16 = .ok (.invokevirtual 31, 3) := by decide +kernel
theorem dX2_addEvent_19 : decode cX2_addEvent 19 = .ok (.aload_n 0, 1) := by decide +kernel
theorem dX2_addEvent_20 : decode cX2_addEvent 20 = .ok (.sipush 152, 3) := by decide +kernel
theorem dX2_addEvent_23 : decode cX2_addEvent 23 = .ok (.iload_n 3, 1) := by decide +kernel
theorem dX2_addEvent_24 : decode cX2_addEvent 24 = .ok (.aload_n 0, 1) := by decide +kernel
theorem dX2_addEvent_25 : decode cX2_addEvent 25 = .ok (.getfield 11, 3) := by decide +kernel
theorem dX2_addEvent_28 : decode cX2_addEvent 28 = .ok (.invokevirtual 31, 3) := by decide +kernel
theorem dX2_addEvent_31 : decode cX2_addEvent 31 = .ok (.aload_n 0, 1) := by decide +kernel
theorem dX2_addEvent_32 : decode cX2_addEvent 32 = .ok (.sipush 164, 3) := by decide +kernel
theorem dX2_addEvent_35 : decode cX2_addEvent 35 = .ok (.iload_n 3, 1) := by decide +kernel
theorem dX2_addEvent_36 : decode cX2_addEvent 36 = .ok (.iload_n 2, 1) := by decide +kernel
theorem dX2_addEvent_37 : decode cX2_addEvent 37 = .ok (.invokevirtual 31, 3) := by decide +kernel
theorem dX2_addEvent_40 : decode cX2_addEvent 40 = .ok (.aload_n 0, 1) := by decide +kernel
theorem dX2_addEvent_41 : decode cX2_addEvent 41 = .ok (.dup, 1) := by decide +kernel
theorem dX2_addEvent_42 : decode cX2_addEvent 42 = .ok (.getfield 24, 3) := by decide +kernel
theorem dX2_addEvent_45 : decode cX2_addEvent 45 = .ok (.iconst 1, 1) := by decide +kernel
theorem dX2_addEvent_46 : decode cX2_addEvent 46 = .ok (.iadd, 1) := by decide +kernel
theorem dX2_addEvent_47 : decode cX2_addEvent 47 = .ok (.putfield 24, 3) := by decide +kernel
theorem dX2_addEvent_50 : decode cX2_addEvent 50 = .ok (.return_, 1) := by decide +kernel
theorem dX2_waysOf_0 : decode cX2_waysOf 0 = .ok (.aload_n 0, 1) := by decide +kernel
theorem dX2_waysOf_1 : decode cX2_waysOf 1 = .ok (.iload_n 1, 1) := by decide +kernel
theorem dX2_waysOf_2 : decode cX2_waysOf 2 = .ok (.invokevirtual 69, 3) := by decide +kernel
theorem dX2_waysOf_5 : decode cX2_waysOf 5 = .ok (.ifCond .ne 5, 3) := by decide +kernel
theorem dX2_waysOf_8 : decode cX2_waysOf 8 = .ok (.iconst 0, 1) := by decide +kernel
theorem dX2_waysOf_9 : decode cX2_waysOf 9 = .ok (.ireturn, 1) := by decide +kernel
theorem dX2_waysOf_10 : decode cX2_waysOf 10 = .ok (.aload_n 0, 1) := by decide +kernel
theorem dX2_waysOf_11 : decode cX2_waysOf 11 = .ok (.aload_n 0, 1) := by decide +kernel
theorem dX2_waysOf_12 : decode cX2_waysOf 12 = .ok (.bipush 44, 2) := by decide +kernel
theorem dX2_waysOf_14 : decode cX2_waysOf 14 = .ok (.iload_n 1, 1) := by decide +kernel
theorem dX2_waysOf_15 : decode cX2_waysOf 15 = .ok (.invokevirtual 47, 3) := by decide +kernel
theorem dX2_waysOf_18 : decode cX2_waysOf 18 = .ok (.aload_n 0, 1) := by decide +kernel
theorem dX2_waysOf_19 : decode cX2_waysOf 19 = .ok (.bipush 56, 2) := by decide +kernel
theorem dX2_waysOf_21 : decode cX2_waysOf 21 = .ok (.iload_n 1, 1) := by decide +kernel
theorem dX2_waysOf_22 : decode cX2_waysOf 22 = .ok (.invokevirtual 47, 3) := by decide +kernel
theorem dX2_waysOf_25 : decode cX2_waysOf 25 = .ok (.aload_n 0, 1) := by decide +kernel
theorem dX2_waysOf_26 : decode cX2_waysOf 26 = .ok (.bipush 68, 2) := by decide +kernel
theorem dX2_waysOf_28 : decode cX2_waysOf 28 = .ok (.iload_n 1, 1) := by decide +kernel
theorem dX2_waysOf_29 : decode cX2_waysOf 29 = .ok (.invokevirtual 47, 3) := by decide +kernel
theorem dX2_waysOf_32 : decode cX2_waysOf 32 = .ok (.aload_n 0, 1) := by decide +kernel
theorem dX2_waysOf_33 : decode cX2_waysOf 33 = .ok (.iload_n 1, 1) := by decide +kernel
theorem dX2_waysOf_34 : decode cX2_waysOf 34 = .ok (.invokevirtual 117, 3) := by decide +kernel
theorem dX2_waysOf_37 : decode cX2_waysOf 37 = .ok (.invokevirtual 120, 3) := by decide +kernel
theorem dX2_waysOf_40 : decode cX2_waysOf 40 = .ok (.ireturn, 1) := by decide +kernel
theorem dX2_waysBetween_0 : decode cX2_waysBetween 0 = .ok (.iconst 0, 1) := by decide +kernel
theorem dX2_waysBetween_1 : decode cX2_waysBetween 1 = .ok (.istore 5, 2) := by decide +kernel
theorem dX2_waysBetween_3 : decode cX2_waysBetween 3 = .ok (.aload_n 0, 1) := by decide +kernel
theorem dX2_waysBetween_4 : decode cX2_waysBetween 4 = .ok (.iconst 4, 1) := by decide +kernel
theorem dX2_waysBetween_5 : decode cX2_waysBetween 5 = .ok (.iload_n 1, 1) := by decide +kernel
theorem dX2_waysBetween_6 : decode cX2_waysBetween 6 = .ok (.invokevirtual 47, 3) := by decide +kernel
theorem dX2_waysBetween_9 : decode cX2_waysBetween 9 = .ok (.iload_n 3, 1) := by decide +kernel
theorem dX2_waysBetween_10 : decode cX2_waysBetween 10 = .ok (.iadd, 1) := by decide +kernel
theorem dX2_waysBetween_11 : decode cX2_waysBetween 11 = .ok (.bipush 9, 2) := by decide +kernel
theorem dX2_waysBetween_13 : decode cX2_waysBetween 13 = .ok (.if_icmp .gt 9, 3) := by decide +kernel
theorem dX2_waysBetween_16 : decode cX2_waysBetween 16 = .ok (.iload 5, 2) := by decide +kernel
theorem dX2_waysBetween_18 : decode cX2_waysBetween 18 = .ok (.iconst 1, 1) := by decide +kernel
theorem dX2_waysBetween_19 : decode cX2_waysBetween 19 = .ok (.ior, 1) := by decide +kernel
theorem dX2_waysBetween_20 : decode cX2_waysBetween 20 = .ok (.istore 5, 2) := by decide +kernel
theorem dX2_waysBetween_22 : decode cX2_waysBetween 22 = .ok (.aload_n 0, 1) := by decide +kernel
theorem dX2_waysBetween_23 : decode cX2_waysBetween 23 = .ok (.iload_n 1, 1) := by decide +kernel
theorem dX2_waysBetween_24 : decode cX2_waysBetween 24 = .ok (.iload_n 2, 1) := by decide +kernel
theorem dX2_waysBetween_25 : decode cX2_waysBetween 25 = .ok (.iload_n 3, 1) := by decide +kernel
theorem dX2_waysBetween_26 : decode cX2_waysBetween 26 = .ok (.invokevirtual 124, 3) := by decide +kernel
theorem dX2_waysBetween_29 : decode cX2_waysBetween 29 = .ok (.ifCond .eq 9, 3) := by decide +kernel
theorem dX2_waysBetween_32 : decode cX2_waysBetween 32 = .ok (.iload 5, 2) := by decide +kernel
theorem dX2_waysBetween_34 : decode cX2_waysBetween 34 = .ok (.iconst 2, 1) := by decide +kernel
theorem dX2_waysBetween_35 : decode cX2_waysBetween 35 = .ok (.ior, 1) := by decide +kernel
theorem dX2_waysBetween_36 : decode cX2_waysBetween 36 = .ok (.istore 5, 2) := by decide +kernel
theorem dX2_waysBetween_38 : decode cX2_waysBetween 38 = .ok (.iload 4, 2) := by decide +kernel
theorem dX2_waysBetween_40 : decode cX2_waysBetween 40 = .ok (.aload_n 0, 1) := by decide +kernel
theorem dX2_waysBetween_41 : decode cX2_waysBetween 41 = .ok (.iload_n 3, 1) := by decide +kernel
theorem dX2_waysBetween_42 : decode cX2_waysBetween 42 = .ok (.invokevirtual 128, 3) := by decide +kernel
theorem dX2_waysBetween_45 : decode cX2_waysBetween 45 = .ok (.if_icmp .lt 9, 3) := by decide +kernel
theorem dX2_waysBetween_48 : decode cX2_waysBetween 48 = .ok (.iload 5, 2) := by decide +kernel
theorem dX2_waysBetween_50 : decode cX2_waysBetween 50 = .ok (.iconst 4, 1) := by decide +kernel
theorem dX2_waysBetween_51 : decode cX2_waysBetween 51 = .ok (.ior, 1) := by decide +kernel
theorem dX2_waysBetween_52 : decode cX2_waysBetween 52 = .ok (.istore 5, 2) := by decide +kernel
theorem dX2_waysBetween_54 : decode cX2_waysBetween 54 = .ok (.aload_n 0, 1) := by decide +kernel
theorem dX2_waysBetween_55 : decode cX2_waysBetween 55 = .ok (.iload_n 1, 1) := by decide +kernel
theorem dX2_waysBetween_56 : decode cX2_waysBetween 56 = .ok (.invokevirtual 111, 3) := by decide +kernel
theorem dX2_waysBetween_59 : decode cX2_waysBetween 59 = .ok (.ifCond .gt 11, 3) := by decide +kernel
theorem dX2_waysBetween_62 : decode cX2_waysBetween 62 = .ok (.aload_n 0, 1) := by decide +kernel
theorem dX2_waysBetween_63 : decode cX2_waysBetween 63 = .ok (.iload_n 2, 1) := by decide +kernel
theorem dX2_waysBetween_64 : decode cX2_waysBetween 64 = .ok (.invokevirtual 111, 3) := by decide +kernel
theorem dX2_waysBetween_67 : decode cX2_waysBetween 67 = .ok (.ifCond .le 10, 3) := by decide +kernel
theorem dX2_waysBetween_70 : decode cX2_waysBetween 70 = .ok (.iload 5, 2) := by decide +kernel
theorem dX2_waysBetween_72 : decode cX2_waysBetween 72 = .ok (.bipush 8, 2) := by decide +kernel
theorem dX2_waysBetween_74 : decode cX2_waysBetween 74 = .ok (.ior, 1) := by decide +kernel
theorem dX2_waysBetween_75 : decode cX2_waysBetween 75 = .ok (.istore 5, 2) := by decide +kernel
theorem dX2_waysBetween_77 : decode cX2_waysBetween 77 = .ok (.aload_n 0, 1) := by decide +kernel
theorem dX2_waysBetween_78 : decode cX2_waysBetween 78 = .ok (.iload_n 1, 1) := by decide +kernel
theorem dX2_waysBetween_79 : decode cX2_waysBetween 79 = .ok (.iload_n 2, 1) := by decide +kernel
theorem dX2_waysBetween_80 : decode cX2_waysBetween 80 = .ok (.invokevirtual 131, 3) := by decide +kernel
theorem dX2_waysBetween_83 : decode cX2_waysBetween 83 = .ok (.ifCond .lt 10, 3) := by decide +kernel
theorem dX2_waysBetween_86 : decode cX2_waysBetween 86 = .ok (.iload 5, 2) := by decide +kernel
theorem dX2_waysBetween_88 : decode cX2_waysBetween 88 = .ok (.bipush 16, 2) := by decide +kernel
theorem dX2_waysBetween_90 : decode cX2_waysBetween 90 = .ok (.ior, 1) := by decide +kernel
theorem dX2_waysBetween_91 : decode cX2_waysBetween 91 = .ok (.istore 5, 2) := by decide +kernel
theorem dX2_waysBetween_93 : decode cX2_waysBetween 93 = .ok (.iload 5, 2) := by decide +kernel
theorem dX2_waysBetween_95 : decode cX2_waysBetween 95 = .ok (.aload_n 0, 1) := by decide +kernel
theorem dX2_waysBetween_96 : decode cX2_waysBetween 96 = .ok (.getfield 15, 3) := by decide +kernel
theorem dX2_waysBetween_99 : decode cX2_waysBetween 99 = .ok (.iand, 1) := by decide +kernel
theorem dX2_waysBetween_100 : decode cX2_waysBetween 100 = .ok (.ireturn, 1) := by decide +kernel
theorem dX2_firstOf_0 : decode cX2_firstOf 0 = .ok (.iconst 0, 1) := by decide +kernel
theorem dX2_firstOf_1 : decode cX2_firstOf 1 = .ok (.istore_n 1, 1) := by decide +kernel
theorem dX2_firstOf_2 : decode cX2_firstOf 2 = .ok (.iload_n 1, 1) := by decide +kernel
theorem dX2_firstOf_3 : decode cX2_firstOf 3 = .ok (.iconst 5, 1) := by decide +kernel
theorem dX2_firstOf_4 : decode cX2_firstOf 4 = .ok (.if_icmp .ge 19, 3) := by decide +kernel
theorem dX2_firstOf_7 : decode cX2_firstOf 7 = .ok (.iload_n 0, 1) := by decide +kernel
theorem dX2_firstOf_8 : decode cX2_firstOf 8 = .ok (.iconst 1, 1) := by decide +kernel
theorem dX2_firstOf_9 : decode cX2_firstOf 9 = .ok (.iload_n 1, 1) := by decide +kernel
theorem dX2_firstOf_10 : decode cX2_firstOf 10 = .ok (.ishl, 1) := by decide +kernel
theorem dX2_firstOf_11 : decode cX2_firstOf 11 = .ok (.iand, 1) := by decide +kernel
theorem dX2_firstOf_12 : decode cX2_firstOf 12 = .ok (.ifCond .eq 5, 3) := by decide +kernel
theorem dX2_firstOf_15 : decode cX2_firstOf 15 = .ok (.iload_n 1, 1) := by decide +kernel
theorem dX2_firstOf_16 : decode cX2_firstOf 16 = .ok (.ireturn, 1) := by decide +kernel
theorem dX2_firstOf_17 : decode cX2_firstOf 17 = .ok (.iinc 1 1, 3) := by decide +kernel
theorem dX2_firstOf_20 : decode cX2_firstOf 20 = .ok (.goto (-18), 3) := by decide +kernel
theorem dX2_firstOf_23 : decode cX2_firstOf 23 = .ok (.bipush (-6), 2) := by decide +kernel
theorem dX2_firstOf_25 : decode cX2_firstOf 25 = .ok (.ireturn, 1) := by decide +kernel
theorem dX2_secondsCanSettle_0 : decode cX2_secondsCanSettle 0 = .ok (.aload_n 0, 1) := by decide +kernel
theorem dX2_secondsCanSettle_1 : decode cX2_secondsCanSettle 1 = .ok (.bipush 24, 2) := by decide +kernel
theorem dX2_secondsCanSettle_3 : decode cX2_secondsCanSettle 3 = .ok (.iload_n 1, 1) := by decide +kernel
theorem dX2_secondsCanSettle_4 : decode cX2_secondsCanSettle 4 = .ok (.invokevirtual 47, 3) := by decide +kernel
theorem dX2_secondsCanSettle_7 : decode cX2_secondsCanSettle 7 = .ok (.istore 4, 2) := by decide +kernel
theorem dX2_secondsCanSettle_9 : decode cX2_secondsCanSettle 9 = .ok (.aload_n 0, 1) := by decide +kernel
theorem dX2_secondsCanSettle_10 : decode cX2_secondsCanSettle 10 = .ok (.bipush 24, 2) := by decide +kernel
theorem dX2_secondsCanSettle_12 : decode cX2_secondsCanSettle 12 = .ok (.iload_n 2, 1) := by decide +kernel
theorem dX2_secondsCanSettle_13 : decode cX2_secondsCanSettle 13 = .ok (.invokevirtual 47, 3) := by decide +kernel
theorem dX2_secondsCanSettle_16 : decode cX2_secondsCanSettle 16 = .ok (.istore 5, 2) := by decide +kernel
theorem dX2_secondsCanSettle_18 : decode cX2_secondsCanSettle 18 = .ok (.iload 4, 2) := by decide +kernel
theorem dX2_secondsCanSettle_20 : decode cX2_secondsCanSettle 20 = .ok (.bipush (-6), 2) := by decide +kernel
theorem dX2_secondsCanSettle_22 : decode cX2_secondsCanSettle 22 = .ok (.if_icmp .eq 29, 3) := by decide +kernel
theorem dX2_secondsCanSettle_25 : decode cX2_secondsCanSettle 25 = .ok (.iload 5, 2) := by decide +kernel
theorem dX2_secondsCanSettle_27 : decode cX2_secondsCanSettle 27 = .ok (.bipush (-6), 2) := by decide +kernel
theorem dX2_secondsCanSettle_29 : decode cX2_secondsCanSettle 29 = .ok (.if_icmp .eq 22, 3) := by decide +kernel
theorem dX2_secondsCanSettle_32 : decode cX2_secondsCanSettle 32 = .ok (.iload 4, 2) := by decide +kernel
theorem dX2_secondsCanSettle_34 : decode cX2_secondsCanSettle 34 = .ok (.iload 5, 2) := by decide +kernel
theorem dX2_secondsCanSettle_36 : decode cX2_secondsCanSettle 36 = .ok (.if_icmp .eq 15, 3) := by decide +kernel
theorem dX2_secondsCanSettle_39 : decode cX2_secondsCanSettle 39 = .ok (.iload 4, 2) := by decide +kernel
theorem dX2_secondsCanSettle_41 : decode cX2_secondsCanSettle 41 = .ok (.iload_n 2, 1) := by decide +kernel
theorem dX2_secondsCanSettle_42 : decode cX2_secondsCanSettle 42 = .ok (.if_icmp .eq 9, 3) := by decide +kernel
theorem dX2_secondsCanSettle_45 : decode cX2_secondsCanSettle 45 = .ok (.iload 5, 2) := by decide +kernel
theorem dX2_secondsCanSettle_47 : decode cX2_secondsCanSettle 47 = .ok (.iload_n 1, 1) := by decide +kernel
theorem dX2_secondsCanSettle_48 : decode cX2_secondsCanSettle 48 = .ok (.if_icmp .ne 5, 3) := by decide +kernel
theorem dX2_secondsCanSettle_51 : decode cX2_secondsCanSettle 51 = .ok (.iconst 0, 1) := by decide +kernel
theorem dX2_secondsCanSettle_52 : decode cX2_secondsCanSettle 52 = .ok (.ireturn, 1) := by decide +kernel
theorem dX2_secondsCanSettle_53 : decode cX2_secondsCanSettle 53 = .ok (.aload_n 0, 1) := by decide +kernel
theorem dX2_secondsCanSettle_54 : decode cX2_secondsCanSettle 54 = .ok (.bipush 14, 2) := by decide +kernel
theorem dX2_secondsCanSettle_56 : decode cX2_secondsCanSettle 56 = .ok (.iload 4, 2) := by decide +kernel
theorem dX2_secondsCanSettle_58 : decode cX2_secondsCanSettle 58 = .ok (.invokevirtual 47, 3) := by decide +kernel
theorem dX2_secondsCanSettle_61 : decode cX2_secondsCanSettle 61 = .ok (.aload_n 0, 1) := by decide +kernel
theorem dX2_secondsCanSettle_62 : decode cX2_secondsCanSettle 62 = .ok (.bipush 14, 2) := by decide +kernel
theorem dX2_secondsCanSettle_64 : decode cX2_secondsCanSettle 64 = .ok (.iload 5, 2) := by decide +kernel
theorem dX2_secondsCanSettle_66 : decode cX2_secondsCanSettle 66 = .ok (.invokevirtual 47, 3) := by decide +kernel
theorem dX2_secondsCanSettle_69 : decode cX2_secondsCanSettle 69 = .ok (.iadd, 1) := by decide +kernel
theorem dX2_secondsCanSettle_70 : decode cX2_secondsCanSettle 70 = .ok (.iconst 2, 1) := by decide +kernel
theorem dX2_secondsCanSettle_71 : decode cX2_secondsCanSettle 71 = .ok (.iload_n 3, 1) := by decide +kernel
theorem dX2_secondsCanSettle_72 : decode cX2_secondsCanSettle 72 = .ok (.imul, 1) := by decide +kernel
theorem dX2_secondsCanSettle_73 : decode cX2_secondsCanSettle 73 = .ok (.if_icmp .lt 7, 3) := by decide +kernel
theorem dX2_secondsCanSettle_76 : decode cX2_secondsCanSettle 76 = .ok (.iconst 1, 1) := by decide +kernel
theorem dX2_secondsCanSettle_77 : decode cX2_secondsCanSettle 77 = .ok (.goto 4, 3) := by decide +kernel
theorem dX2_secondsCanSettle_80 : decode cX2_secondsCanSettle 80 = .ok (.iconst 0, 1) := by decide +kernel
theorem dX2_secondsCanSettle_81 : decode cX2_secondsCanSettle 81 = .ok (.ireturn, 1) := by decide +kernel
theorem dX2_hoursToCool_0 : decode cX2_hoursToCool 0 = .ok (.aload_n 0, 1) := by decide +kernel
theorem dX2_hoursToCool_1 : decode cX2_hoursToCool 1 = .ok (.iconst 0, 1) := by decide +kernel
theorem dX2_hoursToCool_2 : decode cX2_hoursToCool 2 = .ok (.iconst 0, 1) := by decide +kernel
theorem dX2_hoursToCool_3 : decode cX2_hoursToCool 3 = .ok (.invokevirtual 47, 3) := by decide +kernel
theorem dX2_hoursToCool_6 : decode cX2_hoursToCool 6 = .ok (.iload_n 1, 1) := by decide +kernel
theorem dX2_hoursToCool_7 : decode cX2_hoursToCool 7 = .ok (.imul, 1) := by decide +kernel
theorem dX2_hoursToCool_8 : decode cX2_hoursToCool 8 = .ok (.ireturn, 1) := by decide +kernel
theorem dX2_peaceLeft_0 : decode cX2_peaceLeft 0 = .ok (.iconst (-1), 1) := by decide +kernel
theorem dX2_peaceLeft_1 : decode cX2_peaceLeft 1 = .ok (.istore_n 3, 1) := by decide +kernel
theorem dX2_peaceLeft_2 : decode cX2_peaceLeft 2 = .ok (.iconst 0, 1) := by decide +kernel
theorem dX2_peaceLeft_3 : decode cX2_peaceLeft 3 = .ok (.istore 4, 2) := by decide +kernel
theorem dX2_peaceLeft_5 : decode cX2_peaceLeft 5 = .ok (.iload 4, 2) := by decide +kernel
theorem dX2_peaceLeft_7 : decode cX2_peaceLeft 7 = .ok (.aload_n 0, 1) := by decide +kernel
theorem dX2_peaceLeft_8 : decode cX2_peaceLeft 8 = .ok (.getfield 21, 3) := by decide +kernel
theorem dX2_peaceLeft_11 : decode cX2_peaceLeft 11 = .ok (.if_icmp .ge 70, 3) := by decide +kernel
theorem dX2_peaceLeft_14 : decode cX2_peaceLeft 14 = .ok (.aload_n 0, 1) := by decide +kernel
theorem dX2_peaceLeft_15 : decode cX2_peaceLeft 15 = .ok (.bipush 92, 2) := by decide +kernel
theorem dX2_peaceLeft_17 : decode cX2_peaceLeft 17 = .ok (.iload 4, 2) := by decide +kernel
theorem dX2_peaceLeft_19 : decode cX2_peaceLeft 19 = .ok (.invokevirtual 47, 3) := by decide +kernel
theorem dX2_peaceLeft_22 : decode cX2_peaceLeft 22 = .ok (.iconst 1, 1) := by decide +kernel
theorem dX2_peaceLeft_23 : decode cX2_peaceLeft 23 = .ok (.if_icmp .ne 52, 3) := by decide +kernel
theorem dX2_peaceLeft_26 : decode cX2_peaceLeft 26 = .ok (.iload_n 1, 1) := by decide +kernel
theorem dX2_peaceLeft_27 : decode cX2_peaceLeft 27 = .ok (.iload_n 2, 1) := by decide +kernel
theorem dX2_peaceLeft_28 : decode cX2_peaceLeft 28 = .ok (.aload_n 0, 1) := by decide +kernel
theorem dX2_peaceLeft_29 : decode cX2_peaceLeft 29 = .ok (.bipush 44, 2) := by decide +kernel
theorem dX2_peaceLeft_31 : decode cX2_peaceLeft 31 = .ok (.iload 4, 2) := by decide +kernel
theorem dX2_peaceLeft_33 : decode cX2_peaceLeft 33 = .ok (.invokevirtual 47, 3) := by decide +kernel
theorem dX2_peaceLeft_36 : decode cX2_peaceLeft 36 = .ok (.aload_n 0, 1) := by decide +kernel
theorem dX2_peaceLeft_37 : decode cX2_peaceLeft 37 = .ok (.bipush 56, 2) := by decide +kernel
theorem dX2_peaceLeft_39 : decode cX2_peaceLeft 39 = .ok (.iload 4, 2) := by decide +kernel
theorem dX2_peaceLeft_41 : decode cX2_peaceLeft 41 = .ok (.invokevirtual 47, 3) := by decide +kernel
theorem dX2_peaceLeft_44 : decode cX2_peaceLeft 44 = .ok (.invokestatic 72, 3) := by decide +kernel
theorem dX2_peaceLeft_47 : decode cX2_peaceLeft 47 = .ok (.ifCond .eq 28, 3) := by decide +kernel
theorem dX2_peaceLeft_50 : decode cX2_peaceLeft 50 = .ok (.iload_n 3, 1) := by decide +kernel
theorem dX2_peaceLeft_51 : decode cX2_peaceLeft 51 = .ok (.aload_n 0, 1) := by decide +kernel
theorem dX2_peaceLeft_52 : decode cX2_peaceLeft 52 = .ok (.bipush 116, 2) := by decide +kernel
theorem dX2_peaceLeft_54 : decode cX2_peaceLeft 54 = .ok (.iload 4, 2) := by decide +kernel
theorem dX2_peaceLeft_56 : decode cX2_peaceLeft 56 = .ok (.invokevirtual 47, 3) := by decide +kernel
theorem dX2_peaceLeft_59 : decode cX2_peaceLeft 59 = .ok (.aload_n 0, 1) := by decide +kernel
theorem dX2_peaceLeft_60 : decode cX2_peaceLeft 60 = .ok (.iconst 0, 1) := by decide +kernel
theorem dX2_peaceLeft_61 : decode cX2_peaceLeft 61 = .ok (.iconst 3, 1) := by decide +kernel
theorem dX2_peaceLeft_62 : decode cX2_peaceLeft 62 = .ok (.invokevirtual 47, 3) := by decide +kernel
theorem dX2_peaceLeft_65 : decode cX2_peaceLeft 65 = .ok (.iadd, 1) := by decide +kernel
theorem dX2_peaceLeft_66 : decode cX2_peaceLeft 66 = .ok (.aload_n 0, 1) := by decide +kernel
theorem dX2_peaceLeft_67 : decode cX2_peaceLeft 67 = .ok (.getfield 11, 3) := by decide +kernel
theorem dX2_peaceLeft_70 : decode cX2_peaceLeft 70 = .ok (.isub, 1) := by decide +kernel
theorem dX2_peaceLeft_71 : decode cX2_peaceLeft 71 = .ok (.invokestatic 50, 3) := by decide +kernel
theorem dX2_peaceLeft_74 : decode cX2_peaceLeft 74 = .ok (.istore_n 3, 1) := by decide +kernel
theorem dX2_peaceLeft_75 : decode cX2_peaceLeft 75 = .ok (.iinc 4 1, 3) := by decide +kernel
theorem dX2_peaceLeft_78 : decode cX2_peaceLeft 78 = .ok (.goto (-73), 3) := by decide +kernel
theorem dX2_peaceLeft_81 : decode cX2_peaceLeft 81 = .ok (.iload_n 3, 1) := by decide +kernel
theorem dX2_peaceLeft_82 : decode cX2_peaceLeft 82 = .ok (.ireturn, 1) := by decide +kernel
theorem dX2_whyNotDue_0 : decode cX2_whyNotDue 0 = .ok (.aload_n 0, 1) := by decide +kernel
theorem dX2_whyNotDue_1 : decode cX2_whyNotDue 1 = .ok (.iload_n 1, 1) := by decide +kernel
theorem dX2_whyNotDue_2 : decode cX2_whyNotDue 2 = .ok (.invokevirtual 69, 3) := by decide +kernel
theorem dX2_whyNotDue_5 : decode cX2_whyNotDue 5 = .ok (.ifCond .ne 5, 3) := by decide +kernel
theorem dX2_whyNotDue_8 : decode cX2_whyNotDue 8 = .ok (.iconst 1, 1) := by decide +kernel
theorem dX2_whyNotDue_9 : decode cX2_whyNotDue 9 = .ok (.ireturn, 1) := by decide +kernel
theorem dX2_whyNotDue_10 : decode cX2_whyNotDue 10 = .ok (.iload_n 2, 1) := by decide +kernel
theorem dX2_whyNotDue_11 : decode cX2_whyNotDue 11 = .ok (.ifCond .eq 5, 3) := by decide +kernel
theorem dX2_whyNotDue_14 : decode cX2_whyNotDue 14 = .ok (.iconst 2, 1) := by decide +kernel
theorem dX2_whyNotDue_15 : decode cX2_whyNotDue 15 = .ok (.ireturn, 1) := by decide +kernel
theorem dX2_whyNotDue_16 : decode cX2_whyNotDue 16 = .ok (.aload_n 0, 1) := by decide +kernel
theorem dX2_whyNotDue_17 : decode cX2_whyNotDue 17 = .ok (.iload_n 1, 1) := by decide +kernel
theorem dX2_whyNotDue_18 : decode cX2_whyNotDue 18 = .ok (.invokevirtual 117, 3) := by decide +kernel
theorem dX2_whyNotDue_21 : decode cX2_whyNotDue 21 = .ok (.aload_n 0, 1) := by decide +kernel
theorem dX2_whyNotDue_22 : decode cX2_whyNotDue 22 = .ok (.iconst 0, 1) := by decide +kernel
theorem dX2_whyNotDue_23 : decode cX2_whyNotDue 23 = .ok (.iconst 1, 1) := by decide +kernel
theorem dX2_whyNotDue_24 : decode cX2_whyNotDue 24 = .ok (.invokevirtual 47, 3) := by decide +kernel
theorem dX2_whyNotDue_27 : decode cX2_whyNotDue 27 = .ok (.if_icmp .ge 7, 3) := by decide +kernel
theorem dX2_whyNotDue_30 : decode cX2_whyNotDue 30 = .ok (.iconst 3, 1) := by decide +kernel
theorem dX2_whyNotDue_31 : decode cX2_whyNotDue 31 = .ok (.goto 4, 3) := by decide +kernel
theorem dX2_whyNotDue_34 : decode cX2_whyNotDue 34 = .ok (.iconst 0, 1) := by decide +kernel
theorem dX2_whyNotDue_35 : decode cX2_whyNotDue 35 = .ok (.ireturn, 1) := by decide +kernel
theorem dX2_hoursUntilWay_0 : decode cX2_hoursUntilWay 0 = .ok (.aload_n 0, 1) := by decide +kernel
theorem dX2_hoursUntilWay_1 : decode cX2_hoursUntilWay 1 = .ok (.iload_n 1, 1) := by decide +kernel
theorem dX2_hoursUntilWay_2 : decode cX2_hoursUntilWay 2 = .ok (.invokevirtual 91, 3) := by decide +kernel
theorem dX2_hoursUntilWay_5 : decode cX2_hoursUntilWay 5 = .ok (.ifCond .eq 5, 3) := by decide +kernel
theorem dX2_hoursUntilWay_8 : decode cX2_hoursUntilWay 8 = .ok (.iconst 0, 1) := by decide +kernel
theorem dX2_hoursUntilWay_9 : decode cX2_hoursUntilWay 9 = .ok (.ireturn, 1) := by decide +kernel
theorem dX2_hoursUntilWay_10 : decode cX2_hoursUntilWay 10 = .ok (.aload_n 0, 1) := by decide +kernel
theorem dX2_hoursUntilWay_11 : decode cX2_hoursUntilWay 11 = .ok (.iconst 2, 1) := by decide +kernel
theorem dX2_hoursUntilWay_12 : decode cX2_hoursUntilWay 12 = .ok (.invokevirtual 134, 3) := by decide +kernel
theorem dX2_hoursUntilWay_15 : decode cX2_hoursUntilWay 15 = .ok (.ifCond .eq 14, 3) := by decide +kernel
theorem dX2_hoursUntilWay_18 : decode cX2_hoursUntilWay 18 = .ok (.aload_n 0, 1) := by decide +kernel
theorem dX2_hoursUntilWay_19 : decode cX2_hoursUntilWay 19 = .ok (.iload_n 1, 1) := by decide +kernel
theorem dX2_hoursUntilWay_20 : decode cX2_hoursUntilWay 20 = .ok (.invokevirtual 137, 3) := by decide +kernel
theorem dX2_hoursUntilWay_23 : decode cX2_hoursUntilWay 23 = .ok (.invokestatic 140, 3) := by decide +kernel
theorem dX2_hoursUntilWay_26 : decode cX2_hoursUntilWay 26 = .ok (.goto 5, 3) := by decide +kernel
theorem dX2_hoursUntilWay_29 : decode cX2_hoursUntilWay 29 = .ok (.bipush (-6), 2) := by decide +kernel
theorem dX2_hoursUntilWay_31 : decode cX2_hoursUntilWay 31 = .ok (.ireturn, 1) := by decide +kernel
theorem dX2_hoursUntilDuel_0 : decode cX2_hoursUntilDuel 0 = .ok (.aload_n 0, 1) := by decide +kernel
theorem dX2_hoursUntilDuel_1 : decode cX2_hoursUntilDuel 1 = .ok (.iload_n 1, 1) := by decide +kernel
theorem dX2_hoursUntilDuel_2 : decode cX2_hoursUntilDuel 2 = .ok (.invokevirtual 91, 3) := by decide +kernel
theorem dX2_hoursUntilDuel_5 : decode cX2_hoursUntilDuel 5 = .ok (.iconst 3, 1) := by decide +kernel
theorem dX2_hoursUntilDuel_6 : decode cX2_hoursUntilDuel 6 = .ok (.iand, 1) := by decide +kernel
theorem dX2_hoursUntilDuel_7 : decode cX2_hoursUntilDuel 7 = .ok (.ifCond .eq 6, 3) := by decide +kernel
theorem dX2_hoursUntilDuel_10 : decode cX2_hoursUntilDuel 10 = .ok (.bipush (-6), 2) := by decide +kernel
theorem dX2_hoursUntilDuel_12 : decode cX2_hoursUntilDuel 12 = .ok (.ireturn, 1) := by decide +kernel
theorem dX2_hoursUntilDuel_13 : decode cX2_hoursUntilDuel 13 = .ok (.aload_n 0, 1) := by decide +kernel
theorem dX2_hoursUntilDuel_14 : decode cX2_hoursUntilDuel 14 = .ok (.bipush 44, 2) := by decide +kernel
theorem dX2_hoursUntilDuel_16 : decode cX2_hoursUntilDuel 16 = .ok (.iload_n 1, 1) := by decide +kernel
theorem dX2_hoursUntilDuel_17 : decode cX2_hoursUntilDuel 17 = .ok (.invokevirtual 47, 3) := by decide +kernel
theorem dX2_hoursUntilDuel_20 : decode cX2_hoursUntilDuel 20 = .ok (.istore_n 2, 1) := by decide +kernel
theorem dX2_hoursUntilDuel_21 : decode cX2_hoursUntilDuel 21 = .ok (.aload_n 0, 1) := by decide +kernel
theorem dX2_hoursUntilDuel_22 : decode cX2_hoursUntilDuel 22 = .ok (.bipush 56, 2) := by decide +kernel
theorem dX2_hoursUntilDuel_24 : decode cX2_hoursUntilDuel 24 = .ok (.iload_n 1, 1) := by decide +kernel
theorem dX2_hoursUntilDuel_25 : decode cX2_hoursUntilDuel 25 = .ok (.invokevirtual 47, 3) := by decide +kernel
theorem dX2_hoursUntilDuel_28 : decode cX2_hoursUntilDuel 28 = .ok (.istore_n 3, 1) := by decide +kernel
theorem dX2_hoursUntilDuel_29 : decode cX2_hoursUntilDuel 29 = .ok (.iconst 0, 1) := by decide +kernel
theorem dX2_hoursUntilDuel_30 : decode cX2_hoursUntilDuel 30 = .ok (.aload_n 0, 1) := by decide +kernel
theorem dX2_hoursUntilDuel_31 : decode cX2_hoursUntilDuel 31 = .ok (.iconst 0, 1) := by decide +kernel
theorem dX2_hoursUntilDuel_32 : decode cX2_hoursUntilDuel 32 = .ok (.iconst 1, 1) := by decide +kernel
theorem dX2_hoursUntilDuel_33 : decode cX2_hoursUntilDuel 33 = .ok (.invokevirtual 47, 3) := by decide +kernel
theorem dX2_hoursUntilDuel_36 : decode cX2_hoursUntilDuel 36 = .ok (.aload_n 0, 1) := by decide +kernel
theorem dX2_hoursUntilDuel_37 : decode cX2_hoursUntilDuel 37 = .ok (.iload_n 1, 1) := by decide +kernel
theorem dX2_hoursUntilDuel_38 : decode cX2_hoursUntilDuel 38 = .ok (.invokevirtual 117, 3) := by decide +kernel
theorem dX2_hoursUntilDuel_41 : decode cX2_hoursUntilDuel 41 = .ok (.isub, 1) := by decide +kernel
theorem dX2_hoursUntilDuel_42 : decode cX2_hoursUntilDuel 42 = .ok (.invokestatic 50, 3) := by decide +kernel
theorem dX2_hoursUntilDuel_45 : decode cX2_hoursUntilDuel 45 = .ok (.istore 4, 2) := by decide +kernel
theorem dX2_hoursUntilDuel_47 : decode cX2_hoursUntilDuel 47 = .ok (.aload_n 0, 1) := by decide +kernel
theorem dX2_hoursUntilDuel_48 : decode cX2_hoursUntilDuel 48 = .ok (.iconst 3, 1) := by decide +kernel
theorem dX2_hoursUntilDuel_49 : decode cX2_hoursUntilDuel 49 = .ok (.invokevirtual 134, 3) := by decide +kernel
theorem dX2_hoursUntilDuel_52 : decode cX2_hoursUntilDuel 52 = .ok (.ifCond .eq 23, 3) := by decide +kernel
theorem dX2_hoursUntilDuel_55 : decode cX2_hoursUntilDuel 55 = .ok (.iload 4, 2) := by decide +kernel
theorem dX2_hoursUntilDuel_57 : decode cX2_hoursUntilDuel 57 = .ok (.aload_n 0, 1) := by decide +kernel
theorem dX2_hoursUntilDuel_58 : decode cX2_hoursUntilDuel 58 = .ok (.iload_n 2, 1) := by decide +kernel
theorem dX2_hoursUntilDuel_59 : decode cX2_hoursUntilDuel 59 = .ok (.invokevirtual 111, 3) := by decide +kernel
theorem dX2_hoursUntilDuel_62 : decode cX2_hoursUntilDuel 62 = .ok (.aload_n 0, 1) := by decide +kernel
theorem dX2_hoursUntilDuel_63 : decode cX2_hoursUntilDuel 63 = .ok (.iload_n 3, 1) := by decide +kernel
theorem dX2_hoursUntilDuel_64 : decode cX2_hoursUntilDuel 64 = .ok (.invokevirtual 111, 3) := by decide +kernel
theorem dX2_hoursUntilDuel_67 : decode cX2_hoursUntilDuel 67 = .ok (.invokestatic 50, 3) := by decide +kernel
theorem dX2_hoursUntilDuel_70 : decode cX2_hoursUntilDuel 70 = .ok (.invokestatic 50, 3) := by decide +kernel
theorem dX2_hoursUntilDuel_73 : decode cX2_hoursUntilDuel 73 = .ok (.istore 4, 2) := by decide +kernel
theorem dX2_hoursUntilDuel_75 : decode cX2_hoursUntilDuel 75 = .ok (.aload_n 0, 1) := by decide +kernel
theorem dX2_hoursUntilDuel_76 : decode cX2_hoursUntilDuel 76 = .ok (.iconst 4, 1) := by decide +kernel
theorem dX2_hoursUntilDuel_77 : decode cX2_hoursUntilDuel 77 = .ok (.invokevirtual 134, 3) := by decide +kernel
theorem dX2_hoursUntilDuel_80 : decode cX2_hoursUntilDuel 80 = .ok (.ifCond .eq 18, 3) := by decide +kernel
theorem dX2_hoursUntilDuel_83 : decode cX2_hoursUntilDuel 83 = .ok (.iload 4, 2) := by decide +kernel
theorem dX2_hoursUntilDuel_85 : decode cX2_hoursUntilDuel 85 = .ok (.aload_n 0, 1) := by decide +kernel
theorem dX2_hoursUntilDuel_86 : decode cX2_hoursUntilDuel 86 = .ok (.iload_n 2, 1) := by decide +kernel
theorem dX2_hoursUntilDuel_87 : decode cX2_hoursUntilDuel 87 = .ok (.iload_n 3, 1) := by decide +kernel
theorem dX2_hoursUntilDuel_88 : decode cX2_hoursUntilDuel 88 = .ok (.invokevirtual 131, 3) := by decide +kernel
theorem dX2_hoursUntilDuel_91 : decode cX2_hoursUntilDuel 91 = .ok (.iconst 1, 1) := by decide +kernel
theorem dX2_hoursUntilDuel_92 : decode cX2_hoursUntilDuel 92 = .ok (.iadd, 1) := by decide +kernel
theorem dX2_hoursUntilDuel_93 : decode cX2_hoursUntilDuel 93 = .ok (.invokestatic 50, 3) := by decide +kernel
theorem dX2_hoursUntilDuel_96 : decode cX2_hoursUntilDuel 96 = .ok (.istore 4, 2) := by decide +kernel
theorem dX2_hoursUntilDuel_98 : decode cX2_hoursUntilDuel 98 = .ok (.aload_n 0, 1) := by decide +kernel
theorem dX2_hoursUntilDuel_99 : decode cX2_hoursUntilDuel 99 = .ok (.iconst 2, 1) := by decide +kernel
theorem dX2_hoursUntilDuel_100 : decode cX2_hoursUntilDuel 100 = .ok (.invokevirtual 134, 3) := by decide +kernel
theorem dX2_hoursUntilDuel_103 : decode cX2_hoursUntilDuel 103 = .ok (.ifCond .eq 18, 3) := by decide +kernel
theorem dX2_hoursUntilDuel_106 : decode cX2_hoursUntilDuel 106 = .ok (.iload 4, 2) := by decide +kernel
theorem dX2_hoursUntilDuel_108 : decode cX2_hoursUntilDuel 108 = .ok (.aload_n 0, 1) := by decide +kernel
theorem dX2_hoursUntilDuel_109 : decode cX2_hoursUntilDuel 109 = .ok (.iload_n 1, 1) := by decide +kernel
theorem dX2_hoursUntilDuel_110 : decode cX2_hoursUntilDuel 110 = .ok (.invokevirtual 137, 3) := by decide +kernel
theorem dX2_hoursUntilDuel_113 : decode cX2_hoursUntilDuel 113 = .ok (.if_icmp .lt 8, 3) := by decide +kernel
theorem dX2_hoursUntilDuel_116 : decode cX2_hoursUntilDuel 116 = .ok (.bipush (-6), 2) := by decide +kernel
theorem dX2_hoursUntilDuel_118 : decode cX2_hoursUntilDuel 118 = .ok (.goto 8, 3) := by decide +kernel
theorem dX2_hoursUntilDuel_121 : decode cX2_hoursUntilDuel 121 = .ok (.iload 4, 2) := by decide +kernel
theorem dX2_hoursUntilDuel_123 : decode cX2_hoursUntilDuel 123 = .ok (.invokestatic 140, 3) := by decide +kernel
theorem dX2_hoursUntilDuel_126 : decode cX2_hoursUntilDuel 126 = .ok (.ireturn, 1) := by decide +kernel
theorem dX2_hoursUntilCool_0 : decode cX2_hoursUntilCool 0 = .ok (.aload_n 0, 1) := by decide +kernel
theorem dX2_hoursUntilCool_1 : decode cX2_hoursUntilCool 1 = .ok (.aload_n 0, 1) := by decide +kernel
theorem dX2_hoursUntilCool_2 : decode cX2_hoursUntilCool 2 = .ok (.bipush 68, 2) := by decide +kernel
theorem dX2_hoursUntilCool_4 : decode cX2_hoursUntilCool 4 = .ok (.iload_n 1, 1) := by decide +kernel
theorem dX2_hoursUntilCool_5 : decode cX2_hoursUntilCool 5 = .ok (.invokevirtual 47, 3) := by decide +kernel
theorem dX2_hoursUntilCool_8 : decode cX2_hoursUntilCool 8 = .ok (.invokevirtual 128, 3) := by decide +kernel
theorem dX2_hoursUntilCool_11 : decode cX2_hoursUntilCool 11 = .ok (.aload_n 0, 1) := by decide +kernel
theorem dX2_hoursUntilCool_12 : decode cX2_hoursUntilCool 12 = .ok (.iload_n 1, 1) := by decide +kernel
theorem dX2_hoursUntilCool_13 : decode cX2_hoursUntilCool 13 = .ok (.invokevirtual 117, 3) := by decide +kernel
theorem dX2_hoursUntilCool_16 : decode cX2_hoursUntilCool 16 = .ok (.isub, 1) := by decide +kernel
theorem dX2_hoursUntilCool_17 : decode cX2_hoursUntilCool 17 = .ok (.ireturn, 1) := by decide +kernel
theorem dX2_orNoneIfTooFar_0 : decode cX2_orNoneIfTooFar 0 = .ok (.iload_n 0, 1) := by decide +kernel
theorem dX2_orNoneIfTooFar_1 : decode cX2_orNoneIfTooFar 1 = .ok (.sipush 500, 3) := by decide +kernel
theorem dX2_orNoneIfTooFar_4 : decode cX2_orNoneIfTooFar 4 = .ok (.if_icmp .le 8, 3) := by decide +kernel
theorem dX2_orNoneIfTooFar_7 : decode cX2_orNoneIfTooFar 7 = .ok (.bipush (-6), 2) := by decide +kernel
theorem dX2_orNoneIfTooFar_9 : decode cX2_orNoneIfTooFar 9 = .ok (.goto 4, 3) := by decide +kernel
theorem dX2_orNoneIfTooFar_12 : decode cX2_orNoneIfTooFar 12 = .ok (.iload_n 0, 1) := by decide +kernel
theorem dX2_orNoneIfTooFar_13 : decode cX2_orNoneIfTooFar 13 = .ok (.ireturn, 1) := by decide +kernel
theorem dX2_winnerOf_0 : decode cX2_winnerOf 0 = .ok (.aload_n 0, 1) := by decide +kernel
theorem dX2_winnerOf_1 : decode cX2_winnerOf 1 = .ok (.bipush 44, 2) := by decide +kernel
theorem dX2_winnerOf_3 : decode cX2_winnerOf 3 = .ok (.iload_n 1, 1) := by decide +kernel
theorem dX2_winnerOf_4 : decode cX2_winnerOf 4 = .ok (.invokevirtual 47, 3) := by decide +kernel
theorem dX2_winnerOf_7 : decode cX2_winnerOf 7 = .ok (.istore_n 2, 1) := by decide +kernel
theorem dX2_winnerOf_8 : decode cX2_winnerOf 8 = .ok (.aload_n 0, 1) := by decide +kernel
theorem dX2_winnerOf_9 : decode cX2_winnerOf 9 = .ok (.bipush 56, 2) := by decide +kernel
theorem dX2_winnerOf_11 : decode cX2_winnerOf 11 = .ok (.iload_n 1, 1) := by decide +kernel
theorem dX2_winnerOf_12 : decode cX2_winnerOf 12 = .ok (.invokevirtual 47, 3) := by decide +kernel
theorem dX2_winnerOf_15 : decode cX2_winnerOf 15 = .ok (.istore_n 3, 1) := by decide +kernel
theorem dX2_winnerOf_16 : decode cX2_winnerOf 16 = .ok (.aload_n 0, 1) := by decide +kernel
theorem dX2_winnerOf_17 : decode cX2_winnerOf 17 = .ok (.iload_n 2, 1) := by decide +kernel
theorem dX2_winnerOf_18 : decode cX2_winnerOf 18 = .ok (.invokevirtual 143, 3) := by decide +kernel
theorem dX2_winnerOf_21 : decode cX2_winnerOf 21 = .ok (.aload_n 0, 1) := by decide +kernel
theorem dX2_winnerOf_22 : decode cX2_winnerOf 22 = .ok (.iload_n 3, 1) := by decide +kernel
theorem dX2_winnerOf_23 : decode cX2_winnerOf 23 = .ok (.invokevirtual 143, 3) := by decide +kernel
theorem dX2_winnerOf_26 : decode cX2_winnerOf 26 = .ok (.if_icmp .le 7, 3) := by decide +kernel
theorem dX2_winnerOf_29 : decode cX2_winnerOf 29 = .ok (.iload_n 2, 1) := by decide +kernel
theorem dX2_winnerOf_30 : decode cX2_winnerOf 30 = .ok (.goto 4, 3) := by decide +kernel
theorem dX2_winnerOf_33 : decode cX2_winnerOf 33 = .ok (.iload_n 3, 1) := by decide +kernel
theorem dX2_winnerOf_34 : decode cX2_winnerOf 34 = .ok (.ireturn, 1) := by decide +kernel
theorem dX2_skillOf_0 : decode cX2_skillOf 0 = .ok (.iconst 2, 1) := by decide +kernel
theorem dX2_skillOf_1 : decode cX2_skillOf 1 = .ok (.aload_n 0, 1) := by decide +kernel
theorem dX2_skillOf_2 : decode cX2_skillOf 2 = .ok (.bipush 14, 2) := by decide +kernel
theorem dX2_skillOf_4 : decode cX2_skillOf 4 = .ok (.iload_n 1, 1) := by decide +kernel
theorem dX2_skillOf_5 : decode cX2_skillOf 5 = .ok (.invokevirtual 47, 3) := by decide +kernel
theorem dX2_skillOf_8 : decode cX2_skillOf 8 = .ok (.imul, 1) := by decide +kernel
theorem dX2_skillOf_9 : decode cX2_skillOf 9 = .ok (.aload_n 0, 1) := by decide +kernel
theorem dX2_skillOf_10 : decode cX2_skillOf 10 = .ok (.iconst 4, 1) := by decide +kernel
theorem dX2_skillOf_11 : decode cX2_skillOf 11 = .ok (.iload_n 1, 1) := by decide +kernel
theorem dX2_skillOf_12 : decode cX2_skillOf 12 = .ok (.invokevirtual 47, 3) := by decide +kernel
theorem dX2_skillOf_15 : decode cX2_skillOf 15 = .ok (.iadd, 1) := by decide +kernel
theorem dX2_skillOf_16 : decode cX2_skillOf 16 = .ok (.ireturn, 1) := by decide +kernel
theorem dX2_tellPerson_0 : decode cX2_tellPerson 0 = .ok (.aload_n 0, 1) := by decide +kernel
theorem dX2_tellPerson_1 : decode cX2_tellPerson 1 = .ok (.iload_n 1, 1) := by decide +kernel
theorem dX2_tellPerson_2 : decode cX2_tellPerson 2 = .ok (.invokevirtual 63, 3) := by decide +kernel
theorem dX2_tellPerson_5 : decode cX2_tellPerson 5 = .ok (.ifCond .ne 5, 3) := by decide +kernel
theorem dX2_tellPerson_8 : decode cX2_tellPerson 8 = .ok (.iconst (-1), 1) := by decide +kernel
theorem dX2_tellPerson_9 : decode cX2_tellPerson 9 = .ok (.ireturn, 1) := by decide +kernel
theorem dX2_tellPerson_10 : decode cX2_tellPerson 10 = .ok (.iload_n 2, 1) := by decide +kernel
theorem dX2_tellPerson_11 : decode cX2_tellPerson 11 = .ok (.tableswitch 115 0 8 #[49, 56, 64, 72, 78, 86, 94, 103, 109], 49) := by decide +kernel
theorem dX2_tellPerson_60 : decode cX2_tellPerson 60 = .ok (.aload_n 0, 1) := by decide +kernel
theorem dX2_tellPerson_61 : decode cX2_tellPerson 61 = .ok (.iconst 4, 1) := by decide +kernel
theorem dX2_tellPerson_62 : decode cX2_tellPerson 62 = .ok (.iload_n 1, 1) := by decide +kernel
theorem dX2_tellPerson_63 : decode cX2_tellPerson 63 = .ok (.invokevirtual 47, 3) := by decide +kernel
theorem dX2_tellPerson_66 : decode cX2_tellPerson 66 = .ok (.ireturn, 1) := by decide +kernel
theorem dX2_tellPerson_67 : decode cX2_tellPerson 67 = .ok (.aload_n 0, 1) := by decide +kernel
theorem dX2_tellPerson_68 : decode cX2_tellPerson 68 = .ok (.bipush 14, 2) := by decide +kernel
theorem dX2_tellPerson_70 : decode cX2_tellPerson 70 = .ok (.iload_n 1, 1) := by decide +kernel
theorem dX2_tellPerson_71 : decode cX2_tellPerson 71 = .ok (.invokevirtual 47, 3) := by decide +kernel
theorem dX2_tellPerson_74 : decode cX2_tellPerson 74 = .ok (.ireturn, 1) := by decide +kernel
theorem dX2_tellPerson_75 : decode cX2_tellPerson 75 = .ok (.aload_n 0, 1) := by decide +kernel
theorem dX2_tellPerson_76 : decode cX2_tellPerson 76 = .ok (.bipush 24, 2) := by decide +kernel
theorem dX2_tellPerson_78 : decode cX2_tellPerson 78 = .ok (.iload_n 1, 1) := by decide +kernel
theorem dX2_tellPerson_79 : decode cX2_tellPerson 79 = .ok (.invokevirtual 47, 3) := by decide +kernel
theorem dX2_tellPerson_82 : decode cX2_tellPerson 82 = .ok (.ireturn, 1) := by decide +kernel
theorem dX2_tellPerson_83 : decode cX2_tellPerson 83 = .ok (.aload_n 0, 1) := by decide +kernel
theorem dX2_tellPerson_84 : decode cX2_tellPerson 84 = .ok (.iload_n 1, 1) := by decide +kernel
theorem dX2_tellPerson_85 : decode cX2_tellPerson 85 = .ok (.invokevirtual 111, 3) := by decide +kernel
theorem dX2_tellPerson_88 : decode cX2_tellPerson 88 = .ok (.ireturn, 1) := by decide +kernel
theorem dX2_tellPerson_89 : decode cX2_tellPerson 89 = .ok (.aload_n 0, 1) := by decide +kernel
theorem dX2_tellPerson_90 : decode cX2_tellPerson 90 = .ok (.bipush 44, 2) := by decide +kernel
theorem dX2_tellPerson_92 : decode cX2_tellPerson 92 = .ok (.iload_n 1, 1) := by decide +kernel
theorem dX2_tellPerson_93 : decode cX2_tellPerson 93 = .ok (.invokevirtual 98, 3) := by decide +kernel
theorem dX2_tellPerson_96 : decode cX2_tellPerson 96 = .ok (.ireturn, 1) := by decide +kernel
theorem dX2_tellPerson_97 : decode cX2_tellPerson 97 = .ok (.aload_n 0, 1) := by decide +kernel
theorem dX2_tellPerson_98 : decode cX2_tellPerson 98 = .ok (.bipush 56, 2) := by decide +kernel
theorem dX2_tellPerson_100 : decode cX2_tellPerson 100 = .ok (.iload_n 1, 1) := by decide +kernel
theorem dX2_tellPerson_101 : decode cX2_tellPerson 101 = .ok (.invokevirtual 98, 3) := by decide +kernel
theorem dX2_tellPerson_104 : decode cX2_tellPerson 104 = .ok (.ireturn, 1) := by decide +kernel
theorem dX2_tellPerson_105 : decode cX2_tellPerson 105 = .ok (.aload_n 0, 1) := by decide +kernel
theorem dX2_tellPerson_106 : decode cX2_tellPerson 106 = .ok (.sipush 128, 3) := by decide +kernel
theorem dX2_tellPerson_109 : decode cX2_tellPerson 109 = .ok (.iload_n 1, 1) := by decide +kernel
theorem dX2_tellPerson_110 : decode cX2_tellPerson 110 = .ok (.invokevirtual 98, 3) := by decide +kernel
theorem dX2_tellPerson_113 : decode cX2_tellPerson 113 = .ok (.ireturn, 1) := by decide +kernel
theorem dX2_tellPerson_114 : decode cX2_tellPerson 114 = .ok (.aload_n 0, 1) := by decide +kernel
theorem dX2_tellPerson_115 : decode cX2_tellPerson 115 = .ok (.iload_n 1, 1) := by decide +kernel
theorem dX2_tellPerson_116 : decode cX2_tellPerson 116 = .ok (.invokevirtual 146, 3) := by decide +kernel
theorem dX2_tellPerson_119 : decode cX2_tellPerson 119 = .ok (.ireturn, 1) := by decide +kernel
theorem dX2_tellPerson_120 : decode cX2_tellPerson 120 = .ok (.aload_n 0, 1) := by decide +kernel
theorem dX2_tellPerson_121 : decode cX2_tellPerson 121 = .ok (.iload_n 1, 1) := by decide +kernel
theorem dX2_tellPerson_122 : decode cX2_tellPerson 122 = .ok (.invokevirtual 149, 3) := by decide +kernel
theorem dX2_tellPerson_125 : decode cX2_tellPerson 125 = .ok (.ireturn, 1) := by decide +kernel
theorem dX2_tellPerson_126 : decode cX2_tellPerson 126 = .ok (.bipush (-2), 2) := by decide +kernel
theorem dX2_tellPerson_128 : decode cX2_tellPerson 128 = .ok (.ireturn, 1) := by decide +kernel
theorem dX2_tellQuarrel_0 : decode cX2_tellQuarrel 0 = .ok (.aload_n 0, 1) := by decide +kernel
theorem dX2_tellQuarrel_1 : decode cX2_tellQuarrel 1 = .ok (.iload_n 1, 1) := by decide +kernel
theorem dX2_tellQuarrel_2 : decode cX2_tellQuarrel 2 = .ok (.invokevirtual 88, 3) := by decide +kernel
theorem dX2_tellQuarrel_5 : decode cX2_tellQuarrel 5 = .ok (.ifCond .ne 5, 3) := by decide +kernel
theorem dX2_tellQuarrel_8 : decode cX2_tellQuarrel 8 = .ok (.iconst (-1), 1) := by decide +kernel
theorem dX2_tellQuarrel_9 : decode cX2_tellQuarrel 9 = .ok (.ireturn, 1) := by decide +kernel
theorem dX2_tellQuarrel_10 : decode cX2_tellQuarrel 10 = .ok (.iload_n 2, 1) := by decide +kernel
theorem dX2_tellQuarrel_11 : decode cX2_tellQuarrel 11 = .ok (.tableswitch 106 0 7 #[45, 53, 61, 69, 75, 83, 91, 100], 45) := by decide +kernel
theorem dX2_tellQuarrel_56 : decode cX2_tellQuarrel 56 = .ok (.aload_n 0, 1) := by decide +kernel
theorem dX2_tellQuarrel_57 : decode cX2_tellQuarrel 57 = .ok (.bipush 44, 2) := by decide +kernel
theorem dX2_tellQuarrel_59 : decode cX2_tellQuarrel 59 = .ok (.iload_n 1, 1) := by decide +kernel
theorem dX2_tellQuarrel_60 : decode cX2_tellQuarrel 60 = .ok (.invokevirtual 47, 3) := by decide +kernel
theorem dX2_tellQuarrel_63 : decode cX2_tellQuarrel 63 = .ok (.ireturn, 1) := by decide +kernel
theorem dX2_tellQuarrel_64 : decode cX2_tellQuarrel 64 = .ok (.aload_n 0, 1) := by decide +kernel
theorem dX2_tellQuarrel_65 : decode cX2_tellQuarrel 65 = .ok (.bipush 56, 2) := by decide +kernel
theorem dX2_tellQuarrel_67 : decode cX2_tellQuarrel 67 = .ok (.iload_n 1, 1) := by decide +kernel
theorem dX2_tellQuarrel_68 : decode cX2_tellQuarrel 68 = .ok (.invokevirtual 47, 3) := by decide +kernel
theorem dX2_tellQuarrel_71 : decode cX2_tellQuarrel 71 = .ok (.ireturn, 1) := by decide +kernel
theorem dX2_tellQuarrel_72 : decode cX2_tellQuarrel 72 = .ok (.aload_n 0, 1) := by decide +kernel
theorem dX2_tellQuarrel_73 : decode cX2_tellQuarrel 73 = .ok (.bipush 68, 2) := by decide +kernel
theorem dX2_tellQuarrel_75 : decode cX2_tellQuarrel 75 = .ok (.iload_n 1, 1) := by decide +kernel
theorem dX2_tellQuarrel_76 : decode cX2_tellQuarrel 76 = .ok (.invokevirtual 47, 3) := by decide +kernel
theorem dX2_tellQuarrel_79 : decode cX2_tellQuarrel 79 = .ok (.ireturn, 1) := by decide +kernel
theorem dX2_tellQuarrel_80 : decode cX2_tellQuarrel 80 = .ok (.aload_n 0, 1) := by decide +kernel
theorem dX2_tellQuarrel_81 : decode cX2_tellQuarrel 81 = .ok (.iload_n 1, 1) := by decide +kernel
theorem dX2_tellQuarrel_82 : decode cX2_tellQuarrel 82 = .ok (.invokevirtual 117, 3) := by decide +kernel
theorem dX2_tellQuarrel_85 : decode cX2_tellQuarrel 85 = .ok (.ireturn, 1) := by decide +kernel
theorem dX2_tellQuarrel_86 : decode cX2_tellQuarrel 86 = .ok (.aload_n 0, 1) := by decide +kernel
theorem dX2_tellQuarrel_87 : decode cX2_tellQuarrel 87 = .ok (.bipush 92, 2) := by decide +kernel
theorem dX2_tellQuarrel_89 : decode cX2_tellQuarrel 89 = .ok (.iload_n 1, 1) := by decide +kernel
theorem dX2_tellQuarrel_90 : decode cX2_tellQuarrel 90 = .ok (.invokevirtual 47, 3) := by decide +kernel
theorem dX2_tellQuarrel_93 : decode cX2_tellQuarrel 93 = .ok (.ireturn, 1) := by decide +kernel
theorem dX2_tellQuarrel_94 : decode cX2_tellQuarrel 94 = .ok (.aload_n 0, 1) := by decide +kernel
theorem dX2_tellQuarrel_95 : decode cX2_tellQuarrel 95 = .ok (.bipush 104, 2) := by decide +kernel
theorem dX2_tellQuarrel_97 : decode cX2_tellQuarrel 97 = .ok (.iload_n 1, 1) := by decide +kernel
theorem dX2_tellQuarrel_98 : decode cX2_tellQuarrel 98 = .ok (.invokevirtual 47, 3) := by decide +kernel
theorem dX2_tellQuarrel_101 : decode cX2_tellQuarrel 101 = .ok (.ireturn, 1) := by decide +kernel
theorem dX2_tellQuarrel_102 : decode cX2_tellQuarrel 102 = .ok (.aload_n 0, 1) := by decide +kernel
theorem dX2_tellQuarrel_103 : decode cX2_tellQuarrel 103 = .ok (.sipush 128, 3) := by decide +kernel
theorem dX2_tellQuarrel_106 : decode cX2_tellQuarrel 106 = .ok (.iload_n 1, 1) := by decide +kernel
theorem dX2_tellQuarrel_107 : decode cX2_tellQuarrel 107 = .ok (.invokevirtual 47, 3) := by decide +kernel
theorem dX2_tellQuarrel_110 : decode cX2_tellQuarrel 110 = .ok (.ireturn, 1) := by decide +kernel
theorem dX2_tellQuarrel_111 : decode cX2_tellQuarrel 111 = .ok (.aload_n 0, 1) := by decide +kernel
theorem dX2_tellQuarrel_112 : decode cX2_tellQuarrel 112 = .ok (.iload_n 1, 1) := by decide +kernel
theorem dX2_tellQuarrel_113 : decode cX2_tellQuarrel 113 = .ok (.invokevirtual 91, 3) := by decide +kernel
theorem dX2_tellQuarrel_116 : decode cX2_tellQuarrel 116 = .ok (.ireturn, 1) := by decide +kernel
theorem dX2_tellQuarrel_117 : decode cX2_tellQuarrel 117 = .ok (.bipush (-2), 2) := by decide +kernel
theorem dX2_tellQuarrel_119 : decode cX2_tellQuarrel 119 = .ok (.ireturn, 1) := by decide +kernel
theorem dX2_tellEvent_0 : decode cX2_tellEvent 0 = .ok (.iload_n 1, 1) := by decide +kernel
theorem dX2_tellEvent_1 : decode cX2_tellEvent 1 = .ok (.ifCond .lt 16, 3) := by decide +kernel
theorem dX2_tellEvent_4 : decode cX2_tellEvent 4 = .ok (.iload_n 1, 1) := by decide +kernel
theorem dX2_tellEvent_5 : decode cX2_tellEvent 5 = .ok (.aload_n 0, 1) := by decide +kernel
theorem dX2_tellEvent_6 : decode cX2_tellEvent 6 = .ok (.getfield 24, 3) := by decide +kernel
theorem dX2_tellEvent_9 : decode cX2_tellEvent 9 = .ok (.bipush 12, 2) := by decide +kernel
theorem dX2_tellEvent_11 : decode cX2_tellEvent 11 = .ok (.invokestatic 35, 3) := by decide +kernel
theorem dX2_tellEvent_14 : decode cX2_tellEvent 14 = .ok (.if_icmp .lt 5, 3) := by decide +kernel
theorem dX2_tellEvent_17 : decode cX2_tellEvent 17 = .ok (.iconst (-1), 1) := by decide +kernel
theorem dX2_tellEvent_18 : decode cX2_tellEvent 18 = .ok (.ireturn, 1) := by decide +kernel
theorem dX2_tellEvent_19 : decode cX2_tellEvent 19 = .ok (.aload_n 0, 1) := by decide +kernel
theorem dX2_tellEvent_20 : decode cX2_tellEvent 20 = .ok (.getfield 24, 3) := by decide +kernel
theorem dX2_tellEvent_23 : decode cX2_tellEvent 23 = .ok (.iconst 1, 1) := by decide +kernel
theorem dX2_tellEvent_24 : decode cX2_tellEvent 24 = .ok (.isub, 1) := by decide +kernel
theorem dX2_tellEvent_25 : decode cX2_tellEvent 25 = .ok (.iload_n 1, 1) := by decide +kernel
theorem dX2_tellEvent_26 : decode cX2_tellEvent 26 = .ok (.isub, 1) := by decide +kernel
theorem dX2_tellEvent_27 : decode cX2_tellEvent 27 = .ok (.bipush 12, 2) := by decide +kernel
theorem dX2_tellEvent_29 : decode cX2_tellEvent 29 = .ok (.invokestatic 114, 3) := by decide +kernel
theorem dX2_tellEvent_32 : decode cX2_tellEvent 32 = .ok (.istore_n 3, 1) := by decide +kernel
theorem dX2_tellEvent_33 : decode cX2_tellEvent 33 = .ok (.iload_n 2, 1) := by decide +kernel
theorem dX2_tellEvent_34 : decode cX2_tellEvent 34 = .ok (.tableswitch 53 0 2 #[26, 35, 44], 26) := by decide +kernel
theorem dX2_tellEvent_60 : decode cX2_tellEvent 60 = .ok (.aload_n 0, 1) := by decide +kernel
theorem dX2_tellEvent_61 : decode cX2_tellEvent 61 = .ok (.sipush 140, 3) := by decide +kernel
theorem dX2_tellEvent_64 : decode cX2_tellEvent 64 = .ok (.iload_n 3, 1) := by decide +kernel
theorem dX2_tellEvent_65 : decode cX2_tellEvent 65 = .ok (.invokevirtual 47, 3) := by decide +kernel
theorem dX2_tellEvent_68 : decode cX2_tellEvent 68 = .ok (.ireturn, 1) := by decide +kernel
theorem dX2_tellEvent_69 : decode cX2_tellEvent 69 = .ok (.aload_n 0, 1) := by decide +kernel
theorem dX2_tellEvent_70 : decode cX2_tellEvent 70 = .ok (.sipush 152, 3) := by decide +kernel
theorem dX2_tellEvent_73 : decode cX2_tellEvent 73 = .ok (.iload_n 3, 1) := by decide +kernel
theorem dX2_tellEvent_74 : decode cX2_tellEvent 74 = .ok (.invokevirtual 47, 3) := by decide +kernel
theorem dX2_tellEvent_77 : decode cX2_tellEvent 77 = .ok (.ireturn, 1) := by decide +kernel
theorem dX2_tellEvent_78 : decode cX2_tellEvent 78 = .ok (.aload_n 0, 1) := by decide +kernel
theorem dX2_tellEvent_79 : decode cX2_tellEvent 79 = .ok (.sipush 164, 3) := by decide +kernel
theorem dX2_tellEvent_82 : decode cX2_tellEvent 82 = .ok (.iload_n 3, 1) := by decide +kernel
theorem dX2_tellEvent_83 : decode cX2_tellEvent 83 = .ok (.invokevirtual 47, 3) := by decide +kernel
theorem dX2_tellEvent_86 : decode cX2_tellEvent 86 = .ok (.ireturn, 1) := by decide +kernel
theorem dX2_tellEvent_87 : decode cX2_tellEvent 87 = .ok (.bipush (-2), 2) := by decide +kernel
theorem dX2_tellEvent_89 : decode cX2_tellEvent 89 = .ok (.ireturn, 1) := by decide +kernel
theorem dX2_quarrelThatPresses_0 : decode cX2_quarrelThatPresses 0 = .ok (.iconst 0, 1) := by decide +kernel
theorem dX2_quarrelThatPresses_1 : decode cX2_quarrelThatPresses 1 = .ok (.istore_n 2, 1) := by decide +kernel
theorem dX2_quarrelThatPresses_2 : decode cX2_quarrelThatPresses 2 = .ok (.iload_n 2, 1) := by decide +kernel
theorem dX2_quarrelThatPresses_3 : decode cX2_quarrelThatPresses 3 = .ok (.aload_n 0, 1) := by decide +kernel
theorem dX2_quarrelThatPresses_4 : decode cX2_quarrelThatPresses 4 = .ok (.getfield 21, 3) := by decide +kernel
theorem dX2_quarrelThatPresses_7 : decode cX2_quarrelThatPresses 7 = .ok (.if_icmp .ge 28, 3) := by decide +kernel
theorem dX2_quarrelThatPresses_10 : decode cX2_quarrelThatPresses 10 = .ok (.aload_n 0, 1) := by decide +kernel
theorem dX2_quarrelThatPresses_11 : decode cX2_quarrelThatPresses 11 = .ok (.iload_n 2, 1) := by decide +kernel
theorem dX2_quarrelThatPresses_12 : decode cX2_quarrelThatPresses 12 = .ok (.invokevirtual 69, 3) := by decide +kernel
theorem dX2_quarrelThatPresses_15 : decode cX2_quarrelThatPresses 15 = .ok (.ifCond .eq 14, 3) := by decide +kernel
theorem dX2_quarrelThatPresses_18 : decode cX2_quarrelThatPresses 18 = .ok (.aload_n 0, 1) := by decide +kernel
theorem dX2_quarrelThatPresses_19 : decode cX2_quarrelThatPresses 19 = .ok (.iload_n 2, 1) := by decide +kernel
theorem dX2_quarrelThatPresses_20 : decode cX2_quarrelThatPresses 20 = .ok (.invokevirtual 152, 3) := by decide +kernel
theorem dX2_quarrelThatPresses_23 : decode cX2_quarrelThatPresses 23 = .ok (.iload_n 1, 1) := by decide +kernel
theorem dX2_quarrelThatPresses_24 : decode cX2_quarrelThatPresses 24 = .ok (.if_icmp .ne 5, 3) := by decide +kernel
theorem dX2_quarrelThatPresses_27 : decode cX2_quarrelThatPresses 27 = .ok (.iload_n 2, 1) := by decide +kernel
theorem dX2_quarrelThatPresses_28 : decode cX2_quarrelThatPresses 28 = .ok (.ireturn, 1) := by decide +kernel
theorem dX2_quarrelThatPresses_29 : decode cX2_quarrelThatPresses 29 = .ok (.iinc 2 1, 3) := by decide +kernel
theorem dX2_quarrelThatPresses_32 : decode cX2_quarrelThatPresses 32 = .ok (.goto (-30), 3) := by decide +kernel
theorem dX2_quarrelThatPresses_35 : decode cX2_quarrelThatPresses 35 = .ok (.iconst (-1), 1) := by decide +kernel
theorem dX2_quarrelThatPresses_36 : decode cX2_quarrelThatPresses 36 = .ok (.ireturn, 1) := by decide +kernel
theorem dX2_quarrelsBefore_0 : decode cX2_quarrelsBefore 0 = .ok (.iconst 0, 1) := by decide +kernel
theorem dX2_quarrelsBefore_1 : decode cX2_quarrelsBefore 1 = .ok (.istore_n 2, 1) := by decide +kernel
theorem dX2_quarrelsBefore_2 : decode cX2_quarrelsBefore 2 = .ok (.iconst 0, 1) := by decide +kernel
theorem dX2_quarrelsBefore_3 : decode cX2_quarrelsBefore 3 = .ok (.istore_n 3, 1) := by decide +kernel
theorem dX2_quarrelsBefore_4 : decode cX2_quarrelsBefore 4 = .ok (.iload_n 3, 1) := by decide +kernel
theorem dX2_quarrelsBefore_5 : decode cX2_quarrelsBefore 5 = .ok (.aload_n 0, 1) := by decide +kernel
theorem dX2_quarrelsBefore_6 : decode cX2_quarrelsBefore 6 = .ok (.getfield 21, 3) := by decide +kernel
theorem dX2_quarrelsBefore_9 : decode cX2_quarrelsBefore 9 = .ok (.if_icmp .ge 48, 3) := by decide +kernel
theorem dX2_quarrelsBefore_12 : decode cX2_quarrelsBefore 12 = .ok (.aload_n 0, 1) := by decide +kernel
theorem dX2_quarrelsBefore_13 : decode cX2_quarrelsBefore 13 = .ok (.iload_n 3, 1) := by decide +kernel
theorem dX2_quarrelsBefore_14 : decode cX2_quarrelsBefore 14 = .ok (.invokevirtual 155, 3) := by decide +kernel
theorem dX2_quarrelsBefore_17 : decode cX2_quarrelsBefore 17 = .ok (.aload_n 0, 1) := by decide +kernel
theorem dX2_quarrelsBefore_18 : decode cX2_quarrelsBefore 18 = .ok (.iload_n 1, 1) := by decide +kernel
theorem dX2_quarrelsBefore_19 : decode cX2_quarrelsBefore 19 = .ok (.invokevirtual 155, 3) := by decide +kernel
theorem dX2_quarrelsBefore_22 : decode cX2_quarrelsBefore 22 = .ok (.isub, 1) := by decide +kernel
theorem dX2_quarrelsBefore_23 : decode cX2_quarrelsBefore 23 = .ok (.istore 4, 2) := by decide +kernel
theorem dX2_quarrelsBefore_25 : decode cX2_quarrelsBefore 25 = .ok (.aload_n 0, 1) := by decide +kernel
theorem dX2_quarrelsBefore_26 : decode cX2_quarrelsBefore 26 = .ok (.iload_n 3, 1) := by decide +kernel
theorem dX2_quarrelsBefore_27 : decode cX2_quarrelsBefore 27 = .ok (.invokevirtual 69, 3) := by decide +kernel
theorem dX2_quarrelsBefore_30 : decode cX2_quarrelsBefore 30 = .ok (.ifCond .eq 21, 3) := by decide +kernel
theorem dX2_quarrelsBefore_33 : decode cX2_quarrelsBefore 33 = .ok (.iload 4, 2) := by decide +kernel
theorem dX2_quarrelsBefore_35 : decode cX2_quarrelsBefore 35 = .ok (.ifCond .gt 13, 3) := by decide +kernel
theorem dX2_quarrelsBefore_38 : decode cX2_quarrelsBefore 38 = .ok (.iload 4, 2) := by decide +kernel
theorem dX2_quarrelsBefore_40 : decode cX2_quarrelsBefore 40 = .ok (.ifCond .ne 11, 3) := by decide +kernel
theorem dX2_quarrelsBefore_43 : decode cX2_quarrelsBefore 43 = .ok (.iload_n 3, 1) := by decide +kernel
theorem dX2_quarrelsBefore_44 : decode cX2_quarrelsBefore 44 = .ok (.iload_n 1, 1) := by decide +kernel
theorem dX2_quarrelsBefore_45 : decode cX2_quarrelsBefore 45 = .ok (.if_icmp .ge 6, 3) := by decide +kernel
theorem dX2_quarrelsBefore_48 : decode cX2_quarrelsBefore 48 = .ok (.iinc 2 1, 3) := by decide +kernel
theorem dX2_quarrelsBefore_51 : decode cX2_quarrelsBefore 51 = .ok (.iinc 3 1, 3) := by decide +kernel
theorem dX2_quarrelsBefore_54 : decode cX2_quarrelsBefore 54 = .ok (.goto (-50), 3) := by decide +kernel
theorem dX2_quarrelsBefore_57 : decode cX2_quarrelsBefore 57 = .ok (.iload_n 2, 1) := by decide +kernel
theorem dX2_quarrelsBefore_58 : decode cX2_quarrelsBefore 58 = .ok (.ireturn, 1) := by decide +kernel
theorem dX2_pressureOf_0 : decode cX2_pressureOf 0 = .ok (.aload_n 0, 1) := by decide +kernel
theorem dX2_pressureOf_1 : decode cX2_pressureOf 1 = .ok (.iload_n 1, 1) := by decide +kernel
theorem dX2_pressureOf_2 : decode cX2_pressureOf 2 = .ok (.invokevirtual 117, 3) := by decide +kernel
theorem dX2_pressureOf_5 : decode cX2_pressureOf 5 = .ok (.iconst 1, 1) := by decide +kernel
theorem dX2_pressureOf_6 : decode cX2_pressureOf 6 = .ok (.iadd, 1) := by decide +kernel
theorem dX2_pressureOf_7 : decode cX2_pressureOf 7 = .ok (.aload_n 0, 1) := by decide +kernel
theorem dX2_pressureOf_8 : decode cX2_pressureOf 8 = .ok (.bipush 68, 2) := by decide +kernel
theorem dX2_pressureOf_10 : decode cX2_pressureOf 10 = .ok (.iload_n 1, 1) := by decide +kernel
theorem dX2_pressureOf_11 : decode cX2_pressureOf 11 = .ok (.invokevirtual 47, 3) := by decide +kernel
theorem dX2_pressureOf_14 : decode cX2_pressureOf 14 = .ok (.imul, 1) := by decide +kernel
theorem dX2_pressureOf_15 : decode cX2_pressureOf 15 = .ok (.ireturn, 1) := by decide +kernel
theorem dX2_insultsFrom_0 : decode cX2_insultsFrom 0 = .ok (.iload_n 1, 1) := by decide +kernel
theorem dX2_insultsFrom_1 : decode cX2_insultsFrom 1 = .ok (.invokestatic 66, 3) := by decide +kernel
theorem dX2_insultsFrom_4 : decode cX2_insultsFrom 4 = .ok (.ifCond .ne 6, 3) := by decide +kernel
theorem dX2_insultsFrom_7 : decode cX2_insultsFrom 7 = .ok (.bipush (-2), 2) := by decide +kernel
theorem dX2_insultsFrom_9 : decode cX2_insultsFrom 9 = .ok (.ireturn, 1) := by decide +kernel
theorem dX2_insultsFrom_10 : decode cX2_insultsFrom 10 = .ok (.iconst 0, 1) := by decide +kernel
theorem dX2_insultsFrom_11 : decode cX2_insultsFrom 11 = .ok (.istore_n 2, 1) := by decide +kernel
theorem dX2_insultsFrom_12 : decode cX2_insultsFrom 12 = .ok (.iconst 0, 1) := by decide +kernel
theorem dX2_insultsFrom_13 : decode cX2_insultsFrom 13 = .ok (.istore_n 3, 1) := by decide +kernel
theorem dX2_insultsFrom_14 : decode cX2_insultsFrom 14 = .ok (.iload_n 3, 1) := by decide +kernel
theorem dX2_insultsFrom_15 : decode cX2_insultsFrom 15 = .ok (.aload_n 0, 1) := by decide +kernel
theorem dX2_insultsFrom_16 : decode cX2_insultsFrom 16 = .ok (.getfield 21, 3) := by decide +kernel
theorem dX2_insultsFrom_19 : decode cX2_insultsFrom 19 = .ok (.if_icmp .ge 23, 3) := by decide +kernel
theorem dX2_insultsFrom_22 : decode cX2_insultsFrom 22 = .ok (.aload_n 0, 1) := by decide +kernel
theorem dX2_insultsFrom_23 : decode cX2_insultsFrom 23 = .ok (.bipush 68, 2) := by decide +kernel
theorem dX2_insultsFrom_25 : decode cX2_insultsFrom 25 = .ok (.iload_n 3, 1) := by decide +kernel
theorem dX2_insultsFrom_26 : decode cX2_insultsFrom 26 = .ok (.invokevirtual 47, 3) := by decide +kernel
theorem dX2_insultsFrom_29 : decode cX2_insultsFrom 29 = .ok (.iload_n 1, 1) := by decide +kernel
theorem dX2_insultsFrom_30 : decode cX2_insultsFrom 30 = .ok (.if_icmp .lt 6, 3) := by decide +kernel
theorem dX2_insultsFrom_33 : decode cX2_insultsFrom 33 = .ok (.iinc 2 1, 3) := by decide +kernel
theorem dX2_insultsFrom_36 : decode cX2_insultsFrom 36 = .ok (.iinc 3 1, 3) := by decide +kernel
theorem dX2_insultsFrom_39 : decode cX2_insultsFrom 39 = .ok (.goto (-25), 3) := by decide +kernel
theorem dX2_insultsFrom_42 : decode cX2_insultsFrom 42 = .ok (.iload_n 2, 1) := by decide +kernel
theorem dX2_insultsFrom_43 : decode cX2_insultsFrom 43 = .ok (.ireturn, 1) := by decide +kernel
theorem dX2_tellNumber_0 : decode cX2_tellNumber 0 = .ok (.iload_n 1, 1) := by decide +kernel
theorem dX2_tellNumber_1 : decode cX2_tellNumber 1 = .ok (.tableswitch 146 0 12 #[67, 72, 77, 82, 87, 92, 100, 108, 113, 118, 125, 132, 139], 67) := by decide +kernel
theorem dX2_tellNumber_68 : decode cX2_tellNumber 68 = .ok (.aload_n 0, 1) := by decide +kernel
theorem dX2_tellNumber_69 : decode cX2_tellNumber 69 = .ok (.getfield 11, 3) := by decide +kernel
theorem dX2_tellNumber_72 : decode cX2_tellNumber 72 = .ok (.ireturn, 1) := by decide +kernel
theorem dX2_tellNumber_73 : decode cX2_tellNumber 73 = .ok (.aload_n 0, 1) := by decide +kernel
theorem dX2_tellNumber_74 : decode cX2_tellNumber 74 = .ok (.getfield 18, 3) := by decide +kernel
theorem dX2_tellNumber_77 : decode cX2_tellNumber 77 = .ok (.ireturn, 1) := by decide +kernel
theorem dX2_tellNumber_78 : decode cX2_tellNumber 78 = .ok (.aload_n 0, 1) := by decide +kernel
theorem dX2_tellNumber_79 : decode cX2_tellNumber 79 = .ok (.getfield 21, 3) := by decide +kernel
theorem dX2_tellNumber_82 : decode cX2_tellNumber 82 = .ok (.ireturn, 1) := by decide +kernel
theorem dX2_tellNumber_83 : decode cX2_tellNumber 83 = .ok (.aload_n 0, 1) := by decide +kernel
theorem dX2_tellNumber_84 : decode cX2_tellNumber 84 = .ok (.invokevirtual 158, 3) := by decide +kernel
theorem dX2_tellNumber_87 : decode cX2_tellNumber 87 = .ok (.ireturn, 1) := by decide +kernel
theorem dX2_tellNumber_88 : decode cX2_tellNumber 88 = .ok (.aload_n 0, 1) := by decide +kernel
theorem dX2_tellNumber_89 : decode cX2_tellNumber 89 = .ok (.invokevirtual 162, 3) := by decide +kernel
theorem dX2_tellNumber_92 : decode cX2_tellNumber 92 = .ok (.ireturn, 1) := by decide +kernel
theorem dX2_tellNumber_93 : decode cX2_tellNumber 93 = .ok (.aload_n 0, 1) := by decide +kernel
theorem dX2_tellNumber_94 : decode cX2_tellNumber 94 = .ok (.bipush 92, 2) := by decide +kernel
theorem dX2_tellNumber_96 : decode cX2_tellNumber 96 = .ok (.iconst 1, 1) := by decide +kernel
theorem dX2_tellNumber_97 : decode cX2_tellNumber 97 = .ok (.invokevirtual 98, 3) := by decide +kernel
theorem dX2_tellNumber_100 : decode cX2_tellNumber 100 = .ok (.ireturn, 1) := by decide +kernel
theorem dX2_tellNumber_101 : decode cX2_tellNumber 101 = .ok (.aload_n 0, 1) := by decide +kernel
theorem dX2_tellNumber_102 : decode cX2_tellNumber 102 = .ok (.bipush 92, 2) := by decide +kernel
theorem dX2_tellNumber_104 : decode cX2_tellNumber 104 = .ok (.iconst 2, 1) := by decide +kernel
theorem dX2_tellNumber_105 : decode cX2_tellNumber 105 = .ok (.invokevirtual 98, 3) := by decide +kernel
theorem dX2_tellNumber_108 : decode cX2_tellNumber 108 = .ok (.ireturn, 1) := by decide +kernel
theorem dX2_tellNumber_109 : decode cX2_tellNumber 109 = .ok (.aload_n 0, 1) := by decide +kernel
theorem dX2_tellNumber_110 : decode cX2_tellNumber 110 = .ok (.getfield 15, 3) := by decide +kernel
theorem dX2_tellNumber_113 : decode cX2_tellNumber 113 = .ok (.ireturn, 1) := by decide +kernel
theorem dX2_tellNumber_114 : decode cX2_tellNumber 114 = .ok (.aload_n 0, 1) := by decide +kernel
theorem dX2_tellNumber_115 : decode cX2_tellNumber 115 = .ok (.invokevirtual 165, 3) := by decide +kernel
theorem dX2_tellNumber_118 : decode cX2_tellNumber 118 = .ok (.ireturn, 1) := by decide +kernel
theorem dX2_tellNumber_119 : decode cX2_tellNumber 119 = .ok (.aload_n 0, 1) := by decide +kernel
theorem dX2_tellNumber_120 : decode cX2_tellNumber 120 = .ok (.iconst 0, 1) := by decide +kernel
theorem dX2_tellNumber_121 : decode cX2_tellNumber 121 = .ok (.iconst 0, 1) := by decide +kernel
theorem dX2_tellNumber_122 : decode cX2_tellNumber 122 = .ok (.invokevirtual 47, 3) := by decide +kernel
theorem dX2_tellNumber_125 : decode cX2_tellNumber 125 = .ok (.ireturn, 1) := by decide +kernel
theorem dX2_tellNumber_126 : decode cX2_tellNumber 126 = .ok (.aload_n 0, 1) := by decide +kernel
theorem dX2_tellNumber_127 : decode cX2_tellNumber 127 = .ok (.iconst 0, 1) := by decide +kernel
theorem dX2_tellNumber_128 : decode cX2_tellNumber 128 = .ok (.iconst 1, 1) := by decide +kernel
theorem dX2_tellNumber_129 : decode cX2_tellNumber 129 = .ok (.invokevirtual 47, 3) := by decide +kernel
theorem dX2_tellNumber_132 : decode cX2_tellNumber 132 = .ok (.ireturn, 1) := by decide +kernel
theorem dX2_tellNumber_133 : decode cX2_tellNumber 133 = .ok (.aload_n 0, 1) := by decide +kernel
theorem dX2_tellNumber_134 : decode cX2_tellNumber 134 = .ok (.iconst 0, 1) := by decide +kernel
theorem dX2_tellNumber_135 : decode cX2_tellNumber 135 = .ok (.iconst 2, 1) := by decide +kernel
theorem dX2_tellNumber_136 : decode cX2_tellNumber 136 = .ok (.invokevirtual 47, 3) := by decide +kernel
theorem dX2_tellNumber_139 : decode cX2_tellNumber 139 = .ok (.ireturn, 1) := by decide +kernel
theorem dX2_tellNumber_140 : decode cX2_tellNumber 140 = .ok (.aload_n 0, 1) := by decide +kernel
theorem dX2_tellNumber_141 : decode cX2_tellNumber 141 = .ok (.iconst 0, 1) := by decide +kernel
theorem dX2_tellNumber_142 : decode cX2_tellNumber 142 = .ok (.iconst 3, 1) := by decide +kernel
theorem dX2_tellNumber_143 : decode cX2_tellNumber 143 = .ok (.invokevirtual 47, 3) := by decide +kernel
theorem dX2_tellNumber_146 : decode cX2_tellNumber 146 = .ok (.ireturn, 1) := by decide +kernel
theorem dX2_tellNumber_147 : decode cX2_tellNumber 147 = .ok (.bipush (-2), 2) := by decide +kernel
theorem dX2_tellNumber_149 : decode cX2_tellNumber 149 = .ok (.ireturn, 1) := by decide +kernel
theorem dX2_quarrelsWith_0 : decode cX2_quarrelsWith 0 = .ok (.iconst 0, 1) := by decide +kernel
theorem dX2_quarrelsWith_1 : decode cX2_quarrelsWith 1 = .ok (.istore_n 3, 1) := by decide +kernel
theorem dX2_quarrelsWith_2 : decode cX2_quarrelsWith 2 = .ok (.iconst 0, 1) := by decide +kernel
theorem dX2_quarrelsWith_3 : decode cX2_quarrelsWith 3 = .ok (.istore 4, 2) := by decide +kernel
theorem dX2_quarrelsWith_5 : decode cX2_quarrelsWith 5 = .ok (.iload 4, 2) := by decide +kernel
theorem dX2_quarrelsWith_7 : decode cX2_quarrelsWith 7 = .ok (.aload_n 0, 1) := by decide +kernel
theorem dX2_quarrelsWith_8 : decode cX2_quarrelsWith 8 = .ok (.getfield 21, 3) := by decide +kernel
theorem dX2_quarrelsWith_11 : decode cX2_quarrelsWith 11 = .ok (.if_icmp .ge 23, 3) := by decide +kernel
theorem dX2_quarrelsWith_14 : decode cX2_quarrelsWith 14 = .ok (.aload_n 0, 1) := by decide +kernel
theorem dX2_quarrelsWith_15 : decode cX2_quarrelsWith 15 = .ok (.iload_n 1, 1) := by decide +kernel
theorem dX2_quarrelsWith_16 : decode cX2_quarrelsWith 16 = .ok (.iload 4, 2) := by decide +kernel
theorem dX2_quarrelsWith_18 : decode cX2_quarrelsWith 18 = .ok (.invokevirtual 47, 3) := by decide +kernel
theorem dX2_quarrelsWith_21 : decode cX2_quarrelsWith 21 = .ok (.iload_n 2, 1) := by decide +kernel
theorem dX2_quarrelsWith_22 : decode cX2_quarrelsWith 22 = .ok (.if_icmp .ne 6, 3) := by decide +kernel
theorem dX2_quarrelsWith_25 : decode cX2_quarrelsWith 25 = .ok (.iinc 3 1, 3) := by decide +kernel
theorem dX2_quarrelsWith_28 : decode cX2_quarrelsWith 28 = .ok (.iinc 4 1, 3) := by decide +kernel
theorem dX2_quarrelsWith_31 : decode cX2_quarrelsWith 31 = .ok (.goto (-26), 3) := by decide +kernel
theorem dX2_quarrelsWith_34 : decode cX2_quarrelsWith 34 = .ok (.iload_n 3, 1) := by decide +kernel
theorem dX2_quarrelsWith_35 : decode cX2_quarrelsWith 35 = .ok (.ireturn, 1) := by decide +kernel
theorem dX2_duelsOf_0 : decode cX2_duelsOf 0 = .ok (.iconst 0, 1) := by decide +kernel
theorem dX2_duelsOf_1 : decode cX2_duelsOf 1 = .ok (.istore_n 2, 1) := by decide +kernel
theorem dX2_duelsOf_2 : decode cX2_duelsOf 2 = .ok (.iconst 0, 1) := by decide +kernel
theorem dX2_duelsOf_3 : decode cX2_duelsOf 3 = .ok (.istore_n 3, 1) := by decide +kernel
theorem dX2_duelsOf_4 : decode cX2_duelsOf 4 = .ok (.iload_n 3, 1) := by decide +kernel
theorem dX2_duelsOf_5 : decode cX2_duelsOf 5 = .ok (.aload_n 0, 1) := by decide +kernel
theorem dX2_duelsOf_6 : decode cX2_duelsOf 6 = .ok (.getfield 21, 3) := by decide +kernel
theorem dX2_duelsOf_9 : decode cX2_duelsOf 9 = .ok (.if_icmp .ge 57, 3) := by decide +kernel
theorem dX2_duelsOf_12 : decode cX2_duelsOf 12 = .ok (.aload_n 0, 1) := by decide +kernel
theorem dX2_duelsOf_13 : decode cX2_duelsOf 13 = .ok (.bipush 44, 2) := by decide +kernel
theorem dX2_duelsOf_15 : decode cX2_duelsOf 15 = .ok (.iload_n 3, 1) := by decide +kernel
theorem dX2_duelsOf_16 : decode cX2_duelsOf 16 = .ok (.invokevirtual 47, 3) := by decide +kernel
theorem dX2_duelsOf_19 : decode cX2_duelsOf 19 = .ok (.iload_n 1, 1) := by decide +kernel
theorem dX2_duelsOf_20 : decode cX2_duelsOf 20 = .ok (.if_icmp .eq 14, 3) := by decide +kernel
theorem dX2_duelsOf_23 : decode cX2_duelsOf 23 = .ok (.aload_n 0, 1) := by decide +kernel
theorem dX2_duelsOf_24 : decode cX2_duelsOf 24 = .ok (.bipush 56, 2) := by decide +kernel
theorem dX2_duelsOf_26 : decode cX2_duelsOf 26 = .ok (.iload_n 3, 1) := by decide +kernel
theorem dX2_duelsOf_27 : decode cX2_duelsOf 27 = .ok (.invokevirtual 47, 3) := by decide +kernel
theorem dX2_duelsOf_30 : decode cX2_duelsOf 30 = .ok (.iload_n 1, 1) := by decide +kernel
theorem dX2_duelsOf_31 : decode cX2_duelsOf 31 = .ok (.if_icmp .ne 7, 3) := by decide +kernel
theorem dX2_duelsOf_34 : decode cX2_duelsOf 34 = .ok (.iconst 1, 1) := by decide +kernel
theorem dX2_duelsOf_35 : decode cX2_duelsOf 35 = .ok (.goto 4, 3) := by decide +kernel
theorem dX2_duelsOf_38 : decode cX2_duelsOf 38 = .ok (.iconst 0, 1) := by decide +kernel
theorem dX2_duelsOf_39 : decode cX2_duelsOf 39 = .ok (.istore 4, 2) := by decide +kernel
theorem dX2_duelsOf_41 : decode cX2_duelsOf 41 = .ok (.iload 4, 2) := by decide +kernel
theorem dX2_duelsOf_43 : decode cX2_duelsOf 43 = .ok (.ifCond .eq 17, 3) := by decide +kernel
theorem dX2_duelsOf_46 : decode cX2_duelsOf 46 = .ok (.aload_n 0, 1) := by decide +kernel
theorem dX2_duelsOf_47 : decode cX2_duelsOf 47 = .ok (.bipush 92, 2) := by decide +kernel
theorem dX2_duelsOf_49 : decode cX2_duelsOf 49 = .ok (.iload_n 3, 1) := by decide +kernel
theorem dX2_duelsOf_50 : decode cX2_duelsOf 50 = .ok (.invokevirtual 47, 3) := by decide +kernel
theorem dX2_duelsOf_53 : decode cX2_duelsOf 53 = .ok (.iconst 2, 1) := by decide +kernel
theorem dX2_duelsOf_54 : decode cX2_duelsOf 54 = .ok (.if_icmp .ne 6, 3) := by decide +kernel
theorem dX2_duelsOf_57 : decode cX2_duelsOf 57 = .ok (.iinc 2 1, 3) := by decide +kernel
theorem dX2_duelsOf_60 : decode cX2_duelsOf 60 = .ok (.iinc 3 1, 3) := by decide +kernel
theorem dX2_duelsOf_63 : decode cX2_duelsOf 63 = .ok (.goto (-59), 3) := by decide +kernel
theorem dX2_duelsOf_66 : decode cX2_duelsOf 66 = .ok (.iload_n 2, 1) := by decide +kernel

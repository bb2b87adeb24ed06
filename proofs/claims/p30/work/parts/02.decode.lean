theorem dX0_init_0 : decode cX0_init 0 = .ok (.aload_n 0, 1) := by decide +kernel
theorem dX0_init_1 : decode cX0_init 1 = .ok (.invokespecial 1, 3) := by decide +kernel
theorem dX0_init_4 : decode cX0_init 4 = .ok (.aload_n 0, 1) := by decide +kernel
theorem dX0_init_5 : decode cX0_init 5 = .ok (.iload_n 1, 1) := by decide +kernel
theorem dX0_init_6 : decode cX0_init 6 = .ok (.putfield 7, 3) := by decide +kernel
theorem dX0_init_9 : decode cX0_init 9 = .ok (.aload_n 0, 1) := by decide +kernel
theorem dX0_init_10 : decode cX0_init 10 = .ok (.iload_n 2, 1) := by decide +kernel
theorem dX0_init_11 : decode cX0_init 11 = .ok (.putfield 13, 3) := by decide +kernel
theorem dX0_init_14 : decode cX0_init 14 = .ok (.aload_n 0, 1) := by decide +kernel
theorem dX0_init_15 : decode cX0_init 15 = .ok (.iload_n 3, 1) := by decide +kernel
theorem dX0_init_16 : decode cX0_init 16 = .ok (.putfield 16, 3) := by decide +kernel
theorem dX0_init_19 : decode cX0_init 19 = .ok (.return_, 1) := by decide +kernel
theorem dX1_init_0 : decode cX1_init 0 = .ok (.aload_n 0, 1) := by decide +kernel
theorem dX1_init_1 : decode cX1_init 1 = .ok (.invokespecial 3, 3) := by decide +kernel
theorem dX1_init_4 : decode cX1_init 4 = .ok (.aload_n 0, 1) := by decide +kernel
theorem dX1_init_5 : decode cX1_init 5 = .ok (.bipush 24, 2) := by decide +kernel
theorem dX1_init_7 : decode cX1_init 7 = .ok (.newarray .int, 2) := by decide +kernel
theorem dX1_init_9 : decode cX1_init 9 = .ok (.putfield 9, 3) := by decide +kernel
theorem dX1_init_12 : decode cX1_init 12 = .ok (.aload_n 0, 1) := by decide +kernel
theorem dX1_init_13 : decode cX1_init 13 = .ok (.bipush 24, 2) := by decide +kernel
theorem dX1_init_15 : decode cX1_init 15 = .ok (.newarray .int, 2) := by decide +kernel
theorem dX1_init_17 : decode cX1_init 17 = .ok (.putfield 15, 3) := by decide +kernel
theorem dX1_init_20 : decode cX1_init 20 = .ok (.return_, 1) := by decide +kernel
theorem dX1_isFull_0 : decode cX1_isFull 0 = .ok (.aload_n 0, 1) := by decide +kernel
theorem dX1_isFull_1 : decode cX1_isFull 1 = .ok (.getfield 18, 3) := by decide +kernel
theorem dX1_isFull_4 : decode cX1_isFull 4 = .ok (.bipush 24, 2) := by decide +kernel
theorem dX1_isFull_6 : decode cX1_isFull 6 = .ok (.if_icmp .lt 7, 3) := by decide +kernel
theorem dX1_isFull_9 : decode cX1_isFull 9 = .ok (.iconst 1, 1) := by decide +kernel
theorem dX1_isFull_10 : decode cX1_isFull 10 = .ok (.goto 4, 3) := by decide +kernel
theorem dX1_isFull_13 : decode cX1_isFull 13 = .ok (.iconst 0, 1) := by decide +kernel
theorem dX1_isFull_14 : decode cX1_isFull 14 = .ok (.ireturn, 1) := by decide +kernel
theorem dX1_append_0 : decode cX1_append 0 = .ok (.aload_n 0, 1) := by decide +kernel
theorem dX1_append_1 : decode cX1_append 1 = .ok (.invokevirtual 22, 3) := by decide +kernel
theorem dX1_append_4 : decode cX1_append 4 = .ok (.ifCond .eq 4, 3) := by decide +kernel
theorem dX1_append_7 : decode cX1_append 7 = .ok (.return_, 1) := by decide +kernel
theorem dX1_append_8 : decode cX1_append 8 = .ok (.aload_n 0, 1) := by decide +kernel
theorem dX1_append_9 : decode cX1_append 9 = .ok (.getfield 9, 3) := by decide +kernel
theorem dX1_append_12 : decode cX1_append 12 = .ok (.aload_n 0, 1) := by decide +kernel
theorem dX1_append_13 : decode cX1_append 13 = .ok (.getfield 18, 3) := by decide +kernel
theorem dX1_append_16 : decode cX1_append 16 = .ok (.iload_n 1, 1) := by decide +kernel
theorem dX1_append_17 : decode cX1_append 17 = .ok (.iastore, 1) := by decide +kernel
theorem dX1_append_18 : decode cX1_append 18 = .ok (.aload_n 0, 1) := by decide +kernel
theorem dX1_append_19 : decode cX1_append 19 = .ok (.getfield 15, 3) := by decide +kernel
theorem dX1_append_22 : decode cX1_append 22 = .ok (.aload_n 0, 1) := by decide +kernel
theorem dX1_append_23 : decode cX1_append 23 = .ok (.getfield 18, 3) := by decide +kernel
theorem dX1_append_26 : decode cX1_append 26 = .ok (.iload_n 2, 1) := by decide +kernel
theorem dX1_append_27 : decode cX1_append 27 = .ok (.iastore, 1) := by decide +kernel
theorem dX1_append_28 : decode cX1_append 28 = .ok (.aload_n 0, 1) := by decide +kernel
theorem dX1_append_29 : decode cX1_append 29 = .ok (.dup, 1) := by decide +kernel
theorem dX1_append_30 : decode cX1_append 30 = .ok (.getfield 18, 3) := by decide +kernel
theorem dX1_append_33 : decode cX1_append 33 = .ok (.iconst 1, 1) := by decide +kernel
theorem dX1_append_34 : decode cX1_append 34 = .ok (.iadd, 1) := by decide +kernel
theorem dX1_append_35 : decode cX1_append 35 = .ok (.putfield 18, 3) := by decide +kernel
theorem dX1_append_38 : decode cX1_append 38 = .ok (.return_, 1) := by decide +kernel
theorem dX2_init_0 : decode cX2_init 0 = .ok (.aload_n 0, 1) := by decide +kernel
theorem dX2_init_1 : decode cX2_init 1 = .ok (.invokespecial 3, 3) := by decide +kernel
theorem dX2_init_4 : decode cX2_init 4 = .ok (.aload_n 0, 1) := by decide +kernel
theorem dX2_init_5 : decode cX2_init 5 = .ok (.new 9, 3) := by decide +kernel
theorem dX2_init_8 : decode cX2_init 8 = .ok (.dup, 1) := by decide +kernel
theorem dX2_init_9 : decode cX2_init 9 = .ok (.invokespecial 11, 3) := by decide +kernel
theorem dX2_init_12 : decode cX2_init 12 = .ok (.putfield 12, 3) := by decide +kernel
theorem dX2_init_15 : decode cX2_init 15 = .ok (.aload_n 0, 1) := by decide +kernel
theorem dX2_init_16 : decode cX2_init 16 = .ok (.new 9, 3) := by decide +kernel
theorem dX2_init_19 : decode cX2_init 19 = .ok (.dup, 1) := by decide +kernel
theorem dX2_init_20 : decode cX2_init 20 = .ok (.invokespecial 11, 3) := by decide +kernel
theorem dX2_init_23 : decode cX2_init 23 = .ok (.putfield 18, 3) := by decide +kernel
theorem dX2_init_26 : decode cX2_init 26 = .ok (.aload_n 0, 1) := by decide +kernel
theorem dX2_init_27 : decode cX2_init 27 = .ok (.bipush 60, 2) := by decide +kernel
theorem dX2_init_29 : decode cX2_init 29 = .ok (.putfield 21, 3) := by decide +kernel
theorem dX2_init_32 : decode cX2_init 32 = .ok (.aload_n 0, 1) := by decide +kernel
theorem dX2_init_33 : decode cX2_init 33 = .ok (.iconst 4, 1) := by decide +kernel
theorem dX2_init_34 : decode cX2_init 34 = .ok (.newarray .int, 2) := by decide +kernel
theorem dX2_init_36 : decode cX2_init 36 = .ok (.putfield 25, 3) := by decide +kernel
theorem dX2_init_39 : decode cX2_init 39 = .ok (.aload_n 0, 1) := by decide +kernel
theorem dX2_init_40 : decode cX2_init 40 = .ok (.iconst 4, 1) := by decide +kernel
theorem dX2_init_41 : decode cX2_init 41 = .ok (.newarray .int, 2) := by decide +kernel
theorem dX2_init_43 : decode cX2_init 43 = .ok (.putfield 29, 3) := by decide +kernel
theorem dX2_init_46 : decode cX2_init 46 = .ok (.iconst 0, 1) := by decide +kernel
theorem dX2_init_47 : decode cX2_init 47 = .ok (.istore_n 1, 1) := by decide +kernel
theorem dX2_init_48 : decode cX2_init 48 = .ok (.iload_n 1, 1) := by decide +kernel
theorem dX2_init_49 : decode cX2_init 49 = .ok (.iconst 4, 1) := by decide +kernel
theorem dX2_init_50 : decode cX2_init 50 = .ok (.if_icmp .ge 17, 3) := by decide +kernel
theorem dX2_init_53 : decode cX2_init 53 = .ok (.aload_n 0, 1) := by decide +kernel
theorem dX2_init_54 : decode cX2_init 54 = .ok (.getfield 25, 3) := by decide +kernel
theorem dX2_init_57 : decode cX2_init 57 = .ok (.iload_n 1, 1) := by decide +kernel
theorem dX2_init_58 : decode cX2_init 58 = .ok (.bipush 20, 2) := by decide +kernel
theorem dX2_init_60 : decode cX2_init 60 = .ok (.iastore, 1) := by decide +kernel
theorem dX2_init_61 : decode cX2_init 61 = .ok (.iinc 1 1, 3) := by decide +kernel
theorem dX2_init_64 : decode cX2_init 64 = .ok (.goto (-16), 3) := by decide +kernel
theorem dX2_init_67 : decode cX2_init 67 = .ok (.return_, 1) := by decide +kernel
theorem dX2_makeVersion_0 : decode cX2_makeVersion 0 = .ok (.aload_n 0, 1) := by decide +kernel
theorem dX2_makeVersion_1 : decode cX2_makeVersion 1 = .ok (.aload_n 0, 1) := by decide +kernel
theorem dX2_makeVersion_2 : decode cX2_makeVersion 2 = .ok (.getfield 12, 3) := by decide +kernel
theorem dX2_makeVersion_5 : decode cX2_makeVersion 5 = .ok (.putfield 18, 3) := by decide +kernel
theorem dX2_makeVersion_8 : decode cX2_makeVersion 8 = .ok (.aload_n 0, 1) := by decide +kernel
theorem dX2_makeVersion_9 : decode cX2_makeVersion 9 = .ok (.new 9, 3) := by decide +kernel
theorem dX2_makeVersion_12 : decode cX2_makeVersion 12 = .ok (.dup, 1) := by decide +kernel
theorem dX2_makeVersion_13 : decode cX2_makeVersion 13 = .ok (.invokespecial 11, 3) := by decide +kernel
theorem dX2_makeVersion_16 : decode cX2_makeVersion 16 = .ok (.putfield 12, 3) := by decide +kernel
theorem dX2_makeVersion_19 : decode cX2_makeVersion 19 = .ok (.aload_n 0, 1) := by decide +kernel
theorem dX2_makeVersion_20 : decode cX2_makeVersion 20 = .ok (.dup, 1) := by decide +kernel
theorem dX2_makeVersion_21 : decode cX2_makeVersion 21 = .ok (.getfield 32, 3) := by decide +kernel
theorem dX2_makeVersion_24 : decode cX2_makeVersion 24 = .ok (.iconst 1, 1) := by decide +kernel
theorem dX2_makeVersion_25 : decode cX2_makeVersion 25 = .ok (.iadd, 1) := by decide +kernel
theorem dX2_makeVersion_26 : decode cX2_makeVersion 26 = .ok (.putfield 32, 3) := by decide +kernel
theorem dX2_makeVersion_29 : decode cX2_makeVersion 29 = .ok (.return_, 1) := by decide +kernel
theorem dX2_newestNumber_0 : decode cX2_newestNumber 0 = .ok (.aload_n 0, 1) := by decide +kernel
theorem dX2_newestNumber_1 : decode cX2_newestNumber 1 = .ok (.getfield 32, 3) := by decide +kernel
theorem dX2_newestNumber_4 : decode cX2_newestNumber 4 = .ok (.iconst 1, 1) := by decide +kernel
theorem dX2_newestNumber_5 : decode cX2_newestNumber 5 = .ok (.isub, 1) := by decide +kernel
theorem dX2_newestNumber_6 : decode cX2_newestNumber 6 = .ok (.ireturn, 1) := by decide +kernel
theorem dX2_isFullFor_0 : decode cX2_isFullFor 0 = .ok (.aload_n 0, 1) := by decide +kernel
theorem dX2_isFullFor_1 : decode cX2_isFullFor 1 = .ok (.getfield 29, 3) := by decide +kernel
theorem dX2_isFullFor_4 : decode cX2_isFullFor 4 = .ok (.iload_n 1, 1) := by decide +kernel
theorem dX2_isFullFor_5 : decode cX2_isFullFor 5 = .ok (.invokestatic 35, 3) := by decide +kernel
theorem dX2_isFullFor_8 : decode cX2_isFullFor 8 = .ok (.aload_n 0, 1) := by decide +kernel
theorem dX2_isFullFor_9 : decode cX2_isFullFor 9 = .ok (.getfield 25, 3) := by decide +kernel
theorem dX2_isFullFor_12 : decode cX2_isFullFor 12 = .ok (.iload_n 1, 1) := by decide +kernel
theorem dX2_isFullFor_13 : decode cX2_isFullFor 13 = .ok (.invokestatic 35, 3) := by decide +kernel
theorem dX2_isFullFor_16 : decode cX2_isFullFor 16 = .ok (.if_icmp .lt 7, 3) := by decide +kernel
theorem dX2_isFullFor_19 : decode cX2_isFullFor 19 = .ok (.iconst 1, 1) := by decide +kernel
theorem dX2_isFullFor_20 : decode cX2_isFullFor 20 = .ok (.goto 4, 3) := by decide +kernel
theorem dX2_isFullFor_23 : decode cX2_isFullFor 23 = .ok (.iconst 0, 1) := by decide +kernel
theorem dX2_isFullFor_24 : decode cX2_isFullFor 24 = .ok (.ireturn, 1) := by decide +kernel
theorem dX3_init_0 : decode cX3_init 0 = .ok (.aload_n 0, 1) := by decide +kernel
theorem dX3_init_1 : decode cX3_init 1 = .ok (.invokespecial 3, 3) := by decide +kernel
theorem dX3_init_4 : decode cX3_init 4 = .ok (.aload_n 0, 1) := by decide +kernel
theorem dX3_init_5 : decode cX3_init 5 = .ok (.bipush 8, 2) := by decide +kernel
theorem dX3_init_7 : decode cX3_init 7 = .ok (.newarray .int, 2) := by decide +kernel
theorem dX3_init_9 : decode cX3_init 9 = .ok (.putfield 9, 3) := by decide +kernel
theorem dX3_init_12 : decode cX3_init 12 = .ok (.aload_n 0, 1) := by decide +kernel
theorem dX3_init_13 : decode cX3_init 13 = .ok (.bipush 8, 2) := by decide +kernel
theorem dX3_init_15 : decode cX3_init 15 = .ok (.newarray .int, 2) := by decide +kernel
theorem dX3_init_17 : decode cX3_init 17 = .ok (.putfield 15, 3) := by decide +kernel
theorem dX3_init_20 : decode cX3_init 20 = .ok (.aload_n 0, 1) := by decide +kernel
theorem dX3_init_21 : decode cX3_init 21 = .ok (.bipush 16, 2) := by decide +kernel
theorem dX3_init_23 : decode cX3_init 23 = .ok (.newarray .int, 2) := by decide +kernel
theorem dX3_init_25 : decode cX3_init 25 = .ok (.putfield 18, 3) := by decide +kernel
theorem dX3_init_28 : decode cX3_init 28 = .ok (.return_, 1) := by decide +kernel
theorem dX3_reset_0 : decode cX3_reset 0 = .ok (.iconst 0, 1) := by decide +kernel
theorem dX3_reset_1 : decode cX3_reset 1 = .ok (.istore_n 2, 1) := by decide +kernel
theorem dX3_reset_2 : decode cX3_reset 2 = .ok (.iload_n 2, 1) := by decide +kernel
theorem dX3_reset_3 : decode cX3_reset 3 = .ok (.bipush 8, 2) := by decide +kernel
theorem dX3_reset_5 : decode cX3_reset 5 = .ok (.if_icmp .ge 16, 3) := by decide +kernel
theorem dX3_reset_8 : decode cX3_reset 8 = .ok (.aload_n 0, 1) := by decide +kernel
theorem dX3_reset_9 : decode cX3_reset 9 = .ok (.getfield 15, 3) := by decide +kernel
theorem dX3_reset_12 : decode cX3_reset 12 = .ok (.iload_n 2, 1) := by decide +kernel
theorem dX3_reset_13 : decode cX3_reset 13 = .ok (.iconst 0, 1) := by decide +kernel
theorem dX3_reset_14 : decode cX3_reset 14 = .ok (.iastore, 1) := by decide +kernel
theorem dX3_reset_15 : decode cX3_reset 15 = .ok (.iinc 2 1, 3) := by decide +kernel
theorem dX3_reset_18 : decode cX3_reset 18 = .ok (.goto (-16), 3) := by decide +kernel
theorem dX3_reset_21 : decode cX3_reset 21 = .ok (.iconst 0, 1) := by decide +kernel
theorem dX3_reset_22 : decode cX3_reset 22 = .ok (.istore_n 2, 1) := by decide +kernel
theorem dX3_reset_23 : decode cX3_reset 23 = .ok (.iload_n 2, 1) := by decide +kernel
theorem dX3_reset_24 : decode cX3_reset 24 = .ok (.bipush 16, 2) := by decide +kernel
theorem dX3_reset_26 : decode cX3_reset 26 = .ok (.if_icmp .ge 16, 3) := by decide +kernel
theorem dX3_reset_29 : decode cX3_reset 29 = .ok (.aload_n 0, 1) := by decide +kernel
theorem dX3_reset_30 : decode cX3_reset 30 = .ok (.getfield 18, 3) := by decide +kernel
theorem dX3_reset_33 : decode cX3_reset 33 = .ok (.iload_n 2, 1) := by decide +kernel
theorem dX3_reset_34 : decode cX3_reset 34 = .ok (.iconst 0, 1) := by decide +kernel
theorem dX3_reset_35 : decode cX3_reset 35 = .ok (.iastore, 1) := by decide +kernel
theorem dX3_reset_36 : decode cX3_reset 36 = .ok (.iinc 2 1, 3) := by decide +kernel
theorem dX3_reset_39 : decode cX3_reset 39 = .ok (.goto (-16), 3) := by decide +kernel
theorem dX3_reset_42 : decode cX3_reset 42 = .ok (.aload_n 0, 1) := by decide +kernel
theorem dX3_reset_43 : decode cX3_reset 43 = .ok (.iconst 0, 1) := by decide +kernel
theorem dX3_reset_44 : decode cX3_reset 44 = .ok (.putfield 21, 3) := by decide +kernel
theorem dX3_reset_47 : decode cX3_reset 47 = .ok (.aload_n 0, 1) := by decide +kernel
theorem dX3_reset_48 : decode cX3_reset 48 = .ok (.iconst 0, 1) := by decide +kernel
theorem dX3_reset_49 : decode cX3_reset 49 = .ok (.putfield 25, 3) := by decide +kernel
theorem dX3_reset_52 : decode cX3_reset 52 = .ok (.aload_n 0, 1) := by decide +kernel
theorem dX3_reset_53 : decode cX3_reset 53 = .ok (.iload_n 1, 1) := by decide +kernel
theorem dX3_reset_54 : decode cX3_reset 54 = .ok (.putfield 28, 3) := by decide +kernel
theorem dX3_reset_57 : decode cX3_reset 57 = .ok (.aload_n 0, 1) := by decide +kernel
theorem dX3_reset_58 : decode cX3_reset 58 = .ok (.iconst 0, 1) := by decide +kernel
theorem dX3_reset_59 : decode cX3_reset 59 = .ok (.putfield 31, 3) := by decide +kernel
theorem dX3_reset_62 : decode cX3_reset 62 = .ok (.aload_n 0, 1) := by decide +kernel
theorem dX3_reset_63 : decode cX3_reset 63 = .ok (.bipush 7, 2) := by decide +kernel
theorem dX3_reset_65 : decode cX3_reset 65 = .ok (.putfield 34, 3) := by decide +kernel
theorem dX3_reset_68 : decode cX3_reset 68 = .ok (.aload_n 0, 1) := by decide +kernel
theorem dX3_reset_69 : decode cX3_reset 69 = .ok (.iconst 0, 1) := by decide +kernel
theorem dX3_reset_70 : decode cX3_reset 70 = .ok (.putfield 37, 3) := by decide +kernel
theorem dX3_reset_73 : decode cX3_reset 73 = .ok (.return_, 1) := by decide +kernel
theorem dX3_takeAnswer_0 : decode cX3_takeAnswer 0 = .ok (.aload_n 0, 1) := by decide +kernel
theorem dX3_takeAnswer_1 : decode cX3_takeAnswer 1 = .ok (.bipush 7, 2) := by decide +kernel
theorem dX3_takeAnswer_3 : decode cX3_takeAnswer 3 = .ok (.putfield 34, 3) := by decide +kernel
theorem dX3_takeAnswer_6 : decode cX3_takeAnswer 6 = .ok (.aload_n 0, 1) := by decide +kernel
theorem dX3_takeAnswer_7 : decode cX3_takeAnswer 7 = .ok (.iload_n 1, 1) := by decide +kernel
theorem dX3_takeAnswer_8 : decode cX3_takeAnswer 8 = .ok (.invokevirtual 40, 3) := by decide +kernel
theorem dX3_takeAnswer_11 : decode cX3_takeAnswer 11 = .ok (.return_, 1) := by decide +kernel
theorem dX3_goOn_0 : decode cX3_goOn 0 = .ok (.aload_n 0, 1) := by decide +kernel
theorem dX3_goOn_1 : decode cX3_goOn 1 = .ok (.iload_n 2, 1) := by decide +kernel
theorem dX3_goOn_2 : decode cX3_goOn 2 = .ok (.putfield 44, 3) := by decide +kernel
theorem dX3_goOn_5 : decode cX3_goOn 5 = .ok (.iconst 0, 1) := by decide +kernel
theorem dX3_goOn_6 : decode cX3_goOn 6 = .ok (.istore_n 3, 1) := by decide +kernel
theorem dX3_goOn_7 : decode cX3_goOn 7 = .ok (.iload_n 3, 1) := by decide +kernel
theorem dX3_goOn_8 : decode cX3_goOn 8 = .ok (.sipush 200, 3) := by decide +kernel
theorem dX3_goOn_11 : decode cX3_goOn 11 = .ok (.if_icmp .gt 63, 3) := by decide +kernel
theorem dX3_goOn_14 : decode cX3_goOn 14 = .ok (.aload_n 0, 1) := by decide +kernel
theorem dX3_goOn_15 : decode cX3_goOn 15 = .ok (.getfield 34, 3) := by decide +kernel
theorem dX3_goOn_18 : decode cX3_goOn 18 = .ok (.bipush 7, 2) := by decide +kernel
theorem dX3_goOn_20 : decode cX3_goOn 20 = .ok (.if_icmp .ne 54, 3) := by decide +kernel
theorem dX3_goOn_23 : decode cX3_goOn 23 = .ok (.aload_n 0, 1) := by decide +kernel
theorem dX3_goOn_24 : decode cX3_goOn 24 = .ok (.aload_n 1, 1) := by decide +kernel
theorem dX3_goOn_25 : decode cX3_goOn 25 = .ok (.getfield 47, 3) := by decide +kernel
theorem dX3_goOn_28 : decode cX3_goOn 28 = .ok (.invokevirtual 53, 3) := by decide +kernel
theorem dX3_goOn_31 : decode cX3_goOn 31 = .ok (.istore 4, 2) := by decide +kernel
theorem dX3_goOn_33 : decode cX3_goOn 33 = .ok (.iload 4, 2) := by decide +kernel
theorem dX3_goOn_35 : decode cX3_goOn 35 = .ok (.iconst (-1), 1) := by decide +kernel
theorem dX3_goOn_36 : decode cX3_goOn 36 = .ok (.if_icmp .eq 32, 3) := by decide +kernel
theorem dX3_goOn_39 : decode cX3_goOn 39 = .ok (.aload_n 0, 1) := by decide +kernel
theorem dX3_goOn_40 : decode cX3_goOn 40 = .ok (.aload_n 1, 1) := by decide +kernel
theorem dX3_goOn_41 : decode cX3_goOn 41 = .ok (.aload_n 1, 1) := by decide +kernel
theorem dX3_goOn_42 : decode cX3_goOn 42 = .ok (.getfield 47, 3) := by decide +kernel
theorem dX3_goOn_45 : decode cX3_goOn 45 = .ok (.getfield 57, 3) := by decide +kernel
theorem dX3_goOn_48 : decode cX3_goOn 48 = .ok (.iload 4, 2) := by decide +kernel
theorem dX3_goOn_50 : decode cX3_goOn 50 = .ok (.invokestatic 62, 3) := by decide +kernel
theorem dX3_goOn_53 : decode cX3_goOn 53 = .ok (.aload_n 1, 1) := by decide +kernel
theorem dX3_goOn_54 : decode cX3_goOn 54 = .ok (.getfield 47, 3) := by decide +kernel
theorem dX3_goOn_57 : decode cX3_goOn 57 = .ok (.getfield 66, 3) := by decide +kernel
theorem dX3_goOn_60 : decode cX3_goOn 60 = .ok (.iload 4, 2) := by decide +kernel
theorem dX3_goOn_62 : decode cX3_goOn 62 = .ok (.invokestatic 62, 3) := by decide +kernel
theorem dX3_goOn_65 : decode cX3_goOn 65 = .ok (.invokevirtual 69, 3) := by decide +kernel
theorem dX3_goOn_68 : decode cX3_goOn 68 = .ok (.iinc 3 1, 3) := by decide +kernel
theorem dX3_goOn_71 : decode cX3_goOn 71 = .ok (.goto (-64), 3) := by decide +kernel
theorem dX3_goOn_74 : decode cX3_goOn 74 = .ok (.return_, 1) := by decide +kernel
theorem dX3_payForNext_0 : decode cX3_payForNext 0 = .ok (.aload_n 0, 1) := by decide +kernel
theorem dX3_payForNext_1 : decode cX3_payForNext 1 = .ok (.getfield 25, 3) := by decide +kernel
theorem dX3_payForNext_4 : decode cX3_payForNext 4 = .ok (.iconst 0, 1) := by decide +kernel
theorem dX3_payForNext_5 : decode cX3_payForNext 5 = .ok (.aload_n 1, 1) := by decide +kernel
theorem dX3_payForNext_6 : decode cX3_payForNext 6 = .ok (.getfield 73, 3) := by decide +kernel
theorem dX3_payForNext_9 : decode cX3_payForNext 9 = .ok (.iconst 1, 1) := by decide +kernel
theorem dX3_payForNext_10 : decode cX3_payForNext 10 = .ok (.isub, 1) := by decide +kernel
theorem dX3_payForNext_11 : decode cX3_payForNext 11 = .ok (.invokestatic 76, 3) := by decide +kernel
theorem dX3_payForNext_14 : decode cX3_payForNext 14 = .ok (.ifCond .ne 10, 3) := by decide +kernel
theorem dX3_payForNext_17 : decode cX3_payForNext 17 = .ok (.aload_n 0, 1) := by decide +kernel
theorem dX3_payForNext_18 : decode cX3_payForNext 18 = .ok (.iconst 5, 1) := by decide +kernel
theorem dX3_payForNext_19 : decode cX3_payForNext 19 = .ok (.putfield 34, 3) := by decide +kernel
theorem dX3_payForNext_22 : decode cX3_payForNext 22 = .ok (.iconst (-1), 1) := by decide +kernel
theorem dX3_payForNext_23 : decode cX3_payForNext 23 = .ok (.ireturn, 1) := by decide +kernel
theorem dX3_payForNext_24 : decode cX3_payForNext 24 = .ok (.aload_n 1, 1) := by decide +kernel
theorem dX3_payForNext_25 : decode cX3_payForNext 25 = .ok (.getfield 57, 3) := by decide +kernel
theorem dX3_payForNext_28 : decode cX3_payForNext 28 = .ok (.aload_n 0, 1) := by decide +kernel
theorem dX3_payForNext_29 : decode cX3_payForNext 29 = .ok (.getfield 25, 3) := by decide +kernel
theorem dX3_payForNext_32 : decode cX3_payForNext 32 = .ok (.invokestatic 62, 3) := by decide +kernel
theorem dX3_payForNext_35 : decode cX3_payForNext 35 = .ok (.ifCond .ne 7, 3) := by decide +kernel
theorem dX3_payForNext_38 : decode cX3_payForNext 38 = .ok (.iconst 3, 1) := by decide +kernel
theorem dX3_payForNext_39 : decode cX3_payForNext 39 = .ok (.goto 4, 3) := by decide +kernel
theorem dX3_payForNext_42 : decode cX3_payForNext 42 = .ok (.iconst 1, 1) := by decide +kernel
theorem dX3_payForNext_43 : decode cX3_payForNext 43 = .ok (.istore_n 2, 1) := by decide +kernel
theorem dX3_payForNext_44 : decode cX3_payForNext 44 = .ok (.aload_n 0, 1) := by decide +kernel
theorem dX3_payForNext_45 : decode cX3_payForNext 45 = .ok (.getfield 28, 3) := by decide +kernel
theorem dX3_payForNext_48 : decode cX3_payForNext 48 = .ok (.iload_n 2, 1) := by decide +kernel
theorem dX3_payForNext_49 : decode cX3_payForNext 49 = .ok (.if_icmp .ge 10, 3) := by decide +kernel
theorem dX3_payForNext_52 : decode cX3_payForNext 52 = .ok (.aload_n 0, 1) := by decide +kernel
theorem dX3_payForNext_53 : decode cX3_payForNext 53 = .ok (.iconst 4, 1) := by decide +kernel
theorem dX3_payForNext_54 : decode cX3_payForNext 54 = .ok (.putfield 34, 3) := by decide +kernel
theorem dX3_payForNext_57 : decode cX3_payForNext 57 = .ok (.iconst (-1), 1) := by decide +kernel
theorem dX3_payForNext_58 : decode cX3_payForNext 58 = .ok (.ireturn, 1) := by decide +kernel
theorem dX3_payForNext_59 : decode cX3_payForNext 59 = .ok (.aload_n 0, 1) := by decide +kernel
theorem dX3_payForNext_60 : decode cX3_payForNext 60 = .ok (.dup, 1) := by decide +kernel
theorem dX3_payForNext_61 : decode cX3_payForNext 61 = .ok (.getfield 28, 3) := by decide +kernel
theorem dX3_payForNext_64 : decode cX3_payForNext 64 = .ok (.iload_n 2, 1) := by decide +kernel
theorem dX3_payForNext_65 : decode cX3_payForNext 65 = .ok (.isub, 1) := by decide +kernel
theorem dX3_payForNext_66 : decode cX3_payForNext 66 = .ok (.putfield 28, 3) := by decide +kernel
theorem dX3_payForNext_69 : decode cX3_payForNext 69 = .ok (.aload_n 0, 1) := by decide +kernel
theorem dX3_payForNext_70 : decode cX3_payForNext 70 = .ok (.dup, 1) := by decide +kernel
theorem dX3_payForNext_71 : decode cX3_payForNext 71 = .ok (.getfield 25, 3) := by decide +kernel
theorem dX3_payForNext_74 : decode cX3_payForNext 74 = .ok (.iconst 1, 1) := by decide +kernel
theorem dX3_payForNext_75 : decode cX3_payForNext 75 = .ok (.iadd, 1) := by decide +kernel
theorem dX3_payForNext_76 : decode cX3_payForNext 76 = .ok (.putfield 25, 3) := by decide +kernel
theorem dX3_payForNext_79 : decode cX3_payForNext 79 = .ok (.aload_n 0, 1) := by decide +kernel
theorem dX3_payForNext_80 : decode cX3_payForNext 80 = .ok (.getfield 25, 3) := by decide +kernel
theorem dX3_payForNext_83 : decode cX3_payForNext 83 = .ok (.iconst 1, 1) := by decide +kernel
theorem dX3_payForNext_84 : decode cX3_payForNext 84 = .ok (.isub, 1) := by decide +kernel
theorem dX3_payForNext_85 : decode cX3_payForNext 85 = .ok (.ireturn, 1) := by decide +kernel
theorem dX3_perform_0 : decode cX3_perform 0 = .ok (.iload_n 2, 1) := by decide +kernel
theorem dX3_perform_1 : decode cX3_perform 1 = .ok (.tableswitch 175 0 12 #[67, 76, 84, 99, 175, 175, 175, 175, 107, 115, 123, 136, 156], 67) := by decide +kernel
theorem dX3_perform_68 : decode cX3_perform 68 = .ok (.aload_n 0, 1) := by decide +kernel
theorem dX3_perform_69 : decode cX3_perform 69 = .ok (.aload_n 1, 1) := by decide +kernel
theorem dX3_perform_70 : decode cX3_perform 70 = .ok (.iload_n 3, 1) := by decide +kernel
theorem dX3_perform_71 : decode cX3_perform 71 = .ok (.invokevirtual 80, 3) := by decide +kernel
theorem dX3_perform_74 : decode cX3_perform 74 = .ok (.goto 107, 3) := by decide +kernel
theorem dX3_perform_77 : decode cX3_perform 77 = .ok (.aload_n 0, 1) := by decide +kernel
theorem dX3_perform_78 : decode cX3_perform 78 = .ok (.iload_n 3, 1) := by decide +kernel
theorem dX3_perform_79 : decode cX3_perform 79 = .ok (.invokevirtual 40, 3) := by decide +kernel
theorem dX3_perform_82 : decode cX3_perform 82 = .ok (.goto 99, 3) := by decide +kernel
theorem dX3_perform_85 : decode cX3_perform 85 = .ok (.aload_n 0, 1) := by decide +kernel
theorem dX3_perform_86 : decode cX3_perform 86 = .ok (.aload_n 0, 1) := by decide +kernel
theorem dX3_perform_87 : decode cX3_perform 87 = .ok (.getfield 15, 3) := by decide +kernel
theorem dX3_perform_90 : decode cX3_perform 90 = .ok (.iload_n 3, 1) := by decide +kernel
theorem dX3_perform_91 : decode cX3_perform 91 = .ok (.invokestatic 62, 3) := by decide +kernel
theorem dX3_perform_94 : decode cX3_perform 94 = .ok (.invokevirtual 40, 3) := by decide +kernel
theorem dX3_perform_97 : decode cX3_perform 97 = .ok (.goto 84, 3) := by decide +kernel
theorem dX3_perform_100 : decode cX3_perform 100 = .ok (.aload_n 0, 1) := by decide +kernel
theorem dX3_perform_101 : decode cX3_perform 101 = .ok (.iload_n 3, 1) := by decide +kernel
theorem dX3_perform_102 : decode cX3_perform 102 = .ok (.invokevirtual 84, 3) := by decide +kernel
theorem dX3_perform_105 : decode cX3_perform 105 = .ok (.goto 76, 3) := by decide +kernel
theorem dX3_perform_108 : decode cX3_perform 108 = .ok (.aload_n 0, 1) := by decide +kernel
theorem dX3_perform_109 : decode cX3_perform 109 = .ok (.iload_n 3, 1) := by decide +kernel
theorem dX3_perform_110 : decode cX3_perform 110 = .ok (.putfield 25, 3) := by decide +kernel
theorem dX3_perform_113 : decode cX3_perform 113 = .ok (.goto 68, 3) := by decide +kernel
theorem dX3_perform_116 : decode cX3_perform 116 = .ok (.aload_n 0, 1) := by decide +kernel
theorem dX3_perform_117 : decode cX3_perform 117 = .ok (.iload_n 3, 1) := by decide +kernel
theorem dX3_perform_118 : decode cX3_perform 118 = .ok (.invokevirtual 87, 3) := by decide +kernel
theorem dX3_perform_121 : decode cX3_perform 121 = .ok (.goto 60, 3) := by decide +kernel
theorem dX3_perform_124 : decode cX3_perform 124 = .ok (.aload_n 0, 1) := by decide +kernel
theorem dX3_perform_125 : decode cX3_perform 125 = .ok (.dup, 1) := by decide +kernel
theorem dX3_perform_126 : decode cX3_perform 126 = .ok (.getfield 31, 3) := by decide +kernel
theorem dX3_perform_129 : decode cX3_perform 129 = .ok (.iload_n 3, 1) := by decide +kernel
theorem dX3_perform_130 : decode cX3_perform 130 = .ok (.iadd, 1) := by decide +kernel
theorem dX3_perform_131 : decode cX3_perform 131 = .ok (.putfield 31, 3) := by decide +kernel
theorem dX3_perform_134 : decode cX3_perform 134 = .ok (.goto 47, 3) := by decide +kernel
theorem dX3_perform_137 : decode cX3_perform 137 = .ok (.aload_n 0, 1) := by decide +kernel
theorem dX3_perform_138 : decode cX3_perform 138 = .ok (.aload_n 0, 1) := by decide +kernel
theorem dX3_perform_139 : decode cX3_perform 139 = .ok (.invokevirtual 90, 3) := by decide +kernel
theorem dX3_perform_142 : decode cX3_perform 142 = .ok (.ifCond .eq 8, 3) := by decide +kernel
theorem dX3_perform_145 : decode cX3_perform 145 = .ok (.bipush 7, 2) := by decide +kernel
theorem dX3_perform_147 : decode cX3_perform 147 = .ok (.goto 4, 3) := by decide +kernel
theorem dX3_perform_150 : decode cX3_perform 150 = .ok (.iconst 3, 1) := by decide +kernel
theorem dX3_perform_151 : decode cX3_perform 151 = .ok (.putfield 34, 3) := by decide +kernel
theorem dX3_perform_154 : decode cX3_perform 154 = .ok (.goto 27, 3) := by decide +kernel
theorem dX3_perform_157 : decode cX3_perform 157 = .ok (.aload_n 0, 1) := by decide +kernel
theorem dX3_perform_158 : decode cX3_perform 158 = .ok (.aload_n 0, 1) := by decide +kernel
theorem dX3_perform_159 : decode cX3_perform 159 = .ok (.invokevirtual 90, 3) := by decide +kernel
theorem dX3_perform_162 : decode cX3_perform 162 = .ok (.ifCond .eq 7, 3) := by decide +kernel
theorem dX3_perform_165 : decode cX3_perform 165 = .ok (.iconst 2, 1) := by decide +kernel
theorem dX3_perform_166 : decode cX3_perform 166 = .ok (.goto 4, 3) := by decide +kernel
theorem dX3_perform_169 : decode cX3_perform 169 = .ok (.iconst 3, 1) := by decide +kernel
theorem dX3_perform_170 : decode cX3_perform 170 = .ok (.putfield 34, 3) := by decide +kernel
theorem dX3_perform_173 : decode cX3_perform 173 = .ok (.goto 8, 3) := by decide +kernel
theorem dX3_perform_176 : decode cX3_perform 176 = .ok (.aload_n 0, 1) := by decide +kernel
theorem dX3_perform_177 : decode cX3_perform 177 = .ok (.iload_n 2, 1) := by decide +kernel
theorem dX3_perform_178 : decode cX3_perform 178 = .ok (.invokevirtual 94, 3) := by decide +kernel
theorem dX3_perform_181 : decode cX3_perform 181 = .ok (.return_, 1) := by decide +kernel
theorem dX3_ask_0 : decode cX3_ask 0 = .ok (.aload_n 0, 1) := by decide +kernel
theorem dX3_ask_1 : decode cX3_ask 1 = .ok (.getfield 18, 3) := by decide +kernel
theorem dX3_ask_4 : decode cX3_ask 4 = .ok (.iload_n 2, 1) := by decide +kernel
theorem dX3_ask_5 : decode cX3_ask 5 = .ok (.iconst 1, 1) := by decide +kernel
theorem dX3_ask_6 : decode cX3_ask 6 = .ok (.invokestatic 97, 3) := by decide +kernel
theorem dX3_ask_9 : decode cX3_ask 9 = .ok (.aload_n 1, 1) := by decide +kernel
theorem dX3_ask_10 : decode cX3_ask 10 = .ok (.iload_n 2, 1) := by decide +kernel
theorem dX3_ask_11 : decode cX3_ask 11 = .ok (.aload_n 0, 1) := by decide +kernel
theorem dX3_ask_12 : decode cX3_ask 12 = .ok (.getfield 18, 3) := by decide +kernel
theorem dX3_ask_15 : decode cX3_ask 15 = .ok (.iload_n 2, 1) := by decide +kernel
theorem dX3_ask_16 : decode cX3_ask 16 = .ok (.invokestatic 62, 3) := by decide +kernel
theorem dX3_ask_19 : decode cX3_ask 19 = .ok (.invokevirtual 101, 3) := by decide +kernel
theorem dX3_ask_22 : decode cX3_ask 22 = .ok (.istore_n 3, 1) := by decide +kernel
theorem dX3_ask_23 : decode cX3_ask 23 = .ok (.iload_n 3, 1) := by decide +kernel
theorem dX3_ask_24 : decode cX3_ask 24 = .ok (.iconst (-1), 1) := by decide +kernel
theorem dX3_ask_25 : decode cX3_ask 25 = .ok (.if_icmp .ne 16, 3) := by decide +kernel
theorem dX3_ask_28 : decode cX3_ask 28 = .ok (.aload_n 0, 1) := by decide +kernel
theorem dX3_ask_29 : decode cX3_ask 29 = .ok (.iload_n 2, 1) := by decide +kernel
theorem dX3_ask_30 : decode cX3_ask 30 = .ok (.putfield 105, 3) := by decide +kernel
theorem dX3_ask_33 : decode cX3_ask 33 = .ok (.aload_n 0, 1) := by decide +kernel
theorem dX3_ask_34 : decode cX3_ask 34 = .ok (.iconst 0, 1) := by decide +kernel
theorem dX3_ask_35 : decode cX3_ask 35 = .ok (.putfield 34, 3) := by decide +kernel
theorem dX3_ask_38 : decode cX3_ask 38 = .ok (.goto 8, 3) := by decide +kernel
theorem dX3_ask_41 : decode cX3_ask 41 = .ok (.aload_n 0, 1) := by decide +kernel
theorem dX3_ask_42 : decode cX3_ask 42 = .ok (.iload_n 3, 1) := by decide +kernel
theorem dX3_ask_43 : decode cX3_ask 43 = .ok (.invokevirtual 40, 3) := by decide +kernel
theorem dX3_ask_46 : decode cX3_ask 46 = .ok (.return_, 1) := by decide +kernel
theorem dX3_store_0 : decode cX3_store 0 = .ok (.aload_n 0, 1) := by decide +kernel
theorem dX3_store_1 : decode cX3_store 1 = .ok (.invokevirtual 108, 3) := by decide +kernel
theorem dX3_store_4 : decode cX3_store 4 = .ok (.istore_n 2, 1) := by decide +kernel
theorem dX3_store_5 : decode cX3_store 5 = .ok (.aload_n 0, 1) := by decide +kernel
theorem dX3_store_6 : decode cX3_store 6 = .ok (.getfield 34, 3) := by decide +kernel
theorem dX3_store_9 : decode cX3_store 9 = .ok (.bipush 7, 2) := by decide +kernel
theorem dX3_store_11 : decode cX3_store 11 = .ok (.if_icmp .ne 20, 3) := by decide +kernel
theorem dX3_store_14 : decode cX3_store 14 = .ok (.iload_n 1, 1) := by decide +kernel
theorem dX3_store_15 : decode cX3_store 15 = .ok (.iconst 0, 1) := by decide +kernel
theorem dX3_store_16 : decode cX3_store 16 = .ok (.bipush 7, 2) := by decide +kernel
theorem dX3_store_18 : decode cX3_store 18 = .ok (.invokestatic 76, 3) := by decide +kernel
theorem dX3_store_21 : decode cX3_store 21 = .ok (.ifCond .eq 10, 3) := by decide +kernel
theorem dX3_store_24 : decode cX3_store 24 = .ok (.aload_n 0, 1) := by decide +kernel
theorem dX3_store_25 : decode cX3_store 25 = .ok (.getfield 15, 3) := by decide +kernel
theorem dX3_store_28 : decode cX3_store 28 = .ok (.iload_n 1, 1) := by decide +kernel
theorem dX3_store_29 : decode cX3_store 29 = .ok (.iload_n 2, 1) := by decide +kernel
theorem dX3_store_30 : decode cX3_store 30 = .ok (.iastore, 1) := by decide +kernel
theorem dX3_store_31 : decode cX3_store 31 = .ok (.return_, 1) := by decide +kernel
theorem dX3_jumpIfZero_0 : decode cX3_jumpIfZero 0 = .ok (.aload_n 0, 1) := by decide +kernel
theorem dX3_jumpIfZero_1 : decode cX3_jumpIfZero 1 = .ok (.invokevirtual 108, 3) := by decide +kernel
theorem dX3_jumpIfZero_4 : decode cX3_jumpIfZero 4 = .ok (.istore_n 2, 1) := by decide +kernel
theorem dX3_jumpIfZero_5 : decode cX3_jumpIfZero 5 = .ok (.aload_n 0, 1) := by decide +kernel
theorem dX3_jumpIfZero_6 : decode cX3_jumpIfZero 6 = .ok (.getfield 34, 3) := by decide +kernel
theorem dX3_jumpIfZero_9 : decode cX3_jumpIfZero 9 = .ok (.bipush 7, 2) := by decide +kernel
theorem dX3_jumpIfZero_11 : decode cX3_jumpIfZero 11 = .ok (.if_icmp .ne 12, 3) := by decide +kernel
theorem dX3_jumpIfZero_14 : decode cX3_jumpIfZero 14 = .ok (.iload_n 2, 1) := by decide +kernel
theorem dX3_jumpIfZero_15 : decode cX3_jumpIfZero 15 = .ok (.ifCond .ne 8, 3) := by decide +kernel
theorem dX3_jumpIfZero_18 : decode cX3_jumpIfZero 18 = .ok (.aload_n 0, 1) := by decide +kernel
theorem dX3_jumpIfZero_19 : decode cX3_jumpIfZero 19 = .ok (.iload_n 1, 1) := by decide +kernel
theorem dX3_jumpIfZero_20 : decode cX3_jumpIfZero 20 = .ok (.putfield 25, 3) := by decide +kernel
theorem dX3_jumpIfZero_23 : decode cX3_jumpIfZero 23 = .ok (.return_, 1) := by decide +kernel
theorem dX3_combine_0 : decode cX3_combine 0 = .ok (.aload_n 0, 1) := by decide +kernel
theorem dX3_combine_1 : decode cX3_combine 1 = .ok (.invokevirtual 108, 3) := by decide +kernel
theorem dX3_combine_4 : decode cX3_combine 4 = .ok (.istore_n 2, 1) := by decide +kernel
theorem dX3_combine_5 : decode cX3_combine 5 = .ok (.aload_n 0, 1) := by decide +kernel
theorem dX3_combine_6 : decode cX3_combine 6 = .ok (.invokevirtual 108, 3) := by decide +kernel
theorem dX3_combine_9 : decode cX3_combine 9 = .ok (.istore_n 3, 1) := by decide +kernel
theorem dX3_combine_10 : decode cX3_combine 10 = .ok (.aload_n 0, 1) := by decide +kernel
theorem dX3_combine_11 : decode cX3_combine 11 = .ok (.getfield 34, 3) := by decide +kernel
theorem dX3_combine_14 : decode cX3_combine 14 = .ok (.bipush 7, 2) := by decide +kernel
theorem dX3_combine_16 : decode cX3_combine 16 = .ok (.if_icmp .ne 13, 3) := by decide +kernel
theorem dX3_combine_19 : decode cX3_combine 19 = .ok (.aload_n 0, 1) := by decide +kernel
theorem dX3_combine_20 : decode cX3_combine 20 = .ok (.iload_n 1, 1) := by decide +kernel
theorem dX3_combine_21 : decode cX3_combine 21 = .ok (.iload_n 3, 1) := by decide +kernel
theorem dX3_combine_22 : decode cX3_combine 22 = .ok (.iload_n 2, 1) := by decide +kernel
theorem dX3_combine_23 : decode cX3_combine 23 = .ok (.invokestatic 112, 3) := by decide +kernel
theorem dX3_combine_26 : decode cX3_combine 26 = .ok (.invokevirtual 40, 3) := by decide +kernel
theorem dX3_combine_29 : decode cX3_combine 29 = .ok (.return_, 1) := by decide +kernel
theorem dX3_combined_0 : decode cX3_combined 0 = .ok (.iload_n 0, 1) := by decide +kernel
theorem dX3_combined_1 : decode cX3_combined 1 = .ok (.tableswitch 52 4 6 #[27, 34, 41], 27) := by decide +kernel
theorem dX3_combined_28 : decode cX3_combined 28 = .ok (.iload_n 1, 1) := by decide +kernel
theorem dX3_combined_29 : decode cX3_combined 29 = .ok (.iload_n 2, 1) := by decide +kernel
theorem dX3_combined_30 : decode cX3_combined 30 = .ok (.iadd, 1) := by decide +kernel
theorem dX3_combined_31 : decode cX3_combined 31 = .ok (.invokestatic 116, 3) := by decide +kernel
theorem dX3_combined_34 : decode cX3_combined 34 = .ok (.ireturn, 1) := by decide +kernel
theorem dX3_combined_35 : decode cX3_combined 35 = .ok (.iload_n 1, 1) := by decide +kernel
theorem dX3_combined_36 : decode cX3_combined 36 = .ok (.iload_n 2, 1) := by decide +kernel
theorem dX3_combined_37 : decode cX3_combined 37 = .ok (.isub, 1) := by decide +kernel
theorem dX3_combined_38 : decode cX3_combined 38 = .ok (.invokestatic 116, 3) := by decide +kernel
theorem dX3_combined_41 : decode cX3_combined 41 = .ok (.ireturn, 1) := by decide +kernel
theorem dX3_combined_42 : decode cX3_combined 42 = .ok (.iload_n 1, 1) := by decide +kernel
theorem dX3_combined_43 : decode cX3_combined 43 = .ok (.iload_n 2, 1) := by decide +kernel
theorem dX3_combined_44 : decode cX3_combined 44 = .ok (.if_icmp .ge 7, 3) := by decide +kernel
theorem dX3_combined_47 : decode cX3_combined 47 = .ok (.iconst 1, 1) := by decide +kernel
theorem dX3_combined_48 : decode cX3_combined 48 = .ok (.goto 4, 3) := by decide +kernel
theorem dX3_combined_51 : decode cX3_combined 51 = .ok (.iconst 0, 1) := by decide +kernel
theorem dX3_combined_52 : decode cX3_combined 52 = .ok (.ireturn, 1) := by decide +kernel
theorem dX3_combined_53 : decode cX3_combined 53 = .ok (.iload_n 1, 1) := by decide +kernel
theorem dX3_combined_54 : decode cX3_combined 54 = .ok (.iload_n 2, 1) := by decide +kernel
theorem dX3_combined_55 : decode cX3_combined 55 = .ok (.if_icmp .ne 7, 3) := by decide +kernel
theorem dX3_combined_58 : decode cX3_combined 58 = .ok (.iconst 1, 1) := by decide +kernel
theorem dX3_combined_59 : decode cX3_combined 59 = .ok (.goto 4, 3) := by decide +kernel
theorem dX3_combined_62 : decode cX3_combined 62 = .ok (.iconst 0, 1) := by decide +kernel
theorem dX3_combined_63 : decode cX3_combined 63 = .ok (.ireturn, 1) := by decide +kernel
theorem dX3_held_0 : decode cX3_held 0 = .ok (.sipush (-9999), 3) := by decide +kernel
theorem dX3_held_3 : decode cX3_held 3 = .ok (.sipush 9999, 3) := by decide +kernel
theorem dX3_held_6 : decode cX3_held 6 = .ok (.iload_n 0, 1) := by decide +kernel
theorem dX3_held_7 : decode cX3_held 7 = .ok (.invokestatic 120, 3) := by decide +kernel
theorem dX3_held_10 : decode cX3_held 10 = .ok (.invokestatic 125, 3) := by decide +kernel
theorem dX3_held_13 : decode cX3_held 13 = .ok (.ireturn, 1) := by decide +kernel
theorem dX3_passesGate_0 : decode cX3_passesGate 0 = .ok (.aload_n 0, 1) := by decide +kernel
theorem dX3_passesGate_1 : decode cX3_passesGate 1 = .ok (.getfield 44, 3) := by decide +kernel
theorem dX3_passesGate_4 : decode cX3_passesGate 4 = .ok (.ifCond .gt 5, 3) := by decide +kernel
theorem dX3_passesGate_7 : decode cX3_passesGate 7 = .ok (.iconst 0, 1) := by decide +kernel
theorem dX3_passesGate_8 : decode cX3_passesGate 8 = .ok (.ireturn, 1) := by decide +kernel
theorem dX3_passesGate_9 : decode cX3_passesGate 9 = .ok (.aload_n 0, 1) := by decide +kernel
theorem dX3_passesGate_10 : decode cX3_passesGate 10 = .ok (.dup, 1) := by decide +kernel
theorem dX3_passesGate_11 : decode cX3_passesGate 11 = .ok (.getfield 44, 3) := by decide +kernel
theorem dX3_passesGate_14 : decode cX3_passesGate 14 = .ok (.iconst 1, 1) := by decide +kernel
theorem dX3_passesGate_15 : decode cX3_passesGate 15 = .ok (.isub, 1) := by decide +kernel
theorem dX3_passesGate_16 : decode cX3_passesGate 16 = .ok (.putfield 44, 3) := by decide +kernel
theorem dX3_passesGate_19 : decode cX3_passesGate 19 = .ok (.aload_n 0, 1) := by decide +kernel
theorem dX3_passesGate_20 : decode cX3_passesGate 20 = .ok (.dup, 1) := by decide +kernel
theorem dX3_passesGate_21 : decode cX3_passesGate 21 = .ok (.getfield 37, 3) := by decide +kernel
theorem dX3_passesGate_24 : decode cX3_passesGate 24 = .ok (.iconst 1, 1) := by decide +kernel
theorem dX3_passesGate_25 : decode cX3_passesGate 25 = .ok (.iadd, 1) := by decide +kernel
theorem dX3_passesGate_26 : decode cX3_passesGate 26 = .ok (.putfield 37, 3) := by decide +kernel
theorem dX3_passesGate_29 : decode cX3_passesGate 29 = .ok (.iconst 1, 1) := by decide +kernel
theorem dX3_passesGate_30 : decode cX3_passesGate 30 = .ok (.ireturn, 1) := by decide +kernel
theorem dX3_put_0 : decode cX3_put 0 = .ok (.aload_n 0, 1) := by decide +kernel
theorem dX3_put_1 : decode cX3_put 1 = .ok (.getfield 21, 3) := by decide +kernel
theorem dX3_put_4 : decode cX3_put 4 = .ok (.iconst 0, 1) := by decide +kernel
theorem dX3_put_5 : decode cX3_put 5 = .ok (.bipush 7, 2) := by decide +kernel
theorem dX3_put_7 : decode cX3_put 7 = .ok (.invokestatic 76, 3) := by decide +kernel
theorem dX3_put_10 : decode cX3_put 10 = .ok (.ifCond .ne 9, 3) := by decide +kernel
theorem dX3_put_13 : decode cX3_put 13 = .ok (.aload_n 0, 1) := by decide +kernel
theorem dX3_put_14 : decode cX3_put 14 = .ok (.iconst 5, 1) := by decide +kernel
theorem dX3_put_15 : decode cX3_put 15 = .ok (.putfield 34, 3) := by decide +kernel
theorem dX3_put_18 : decode cX3_put 18 = .ok (.return_, 1) := by decide +kernel
theorem dX3_put_19 : decode cX3_put 19 = .ok (.aload_n 0, 1) := by decide +kernel
theorem dX3_put_20 : decode cX3_put 20 = .ok (.getfield 9, 3) := by decide +kernel
theorem dX3_put_23 : decode cX3_put 23 = .ok (.aload_n 0, 1) := by decide +kernel
theorem dX3_put_24 : decode cX3_put 24 = .ok (.getfield 21, 3) := by decide +kernel
theorem dX3_put_27 : decode cX3_put 27 = .ok (.iload_n 1, 1) := by decide +kernel
theorem dX3_put_28 : decode cX3_put 28 = .ok (.iastore, 1) := by decide +kernel
theorem dX3_put_29 : decode cX3_put 29 = .ok (.aload_n 0, 1) := by decide +kernel
theorem dX3_put_30 : decode cX3_put 30 = .ok (.dup, 1) := by decide +kernel
theorem dX3_put_31 : decode cX3_put 31 = .ok (.getfield 21, 3) := by decide +kernel
theorem dX3_put_34 : decode cX3_put 34 = .ok (.iconst 1, 1) := by decide +kernel
theorem dX3_put_35 : decode cX3_put 35 = .ok (.iadd, 1) := by decide +kernel
theorem dX3_put_36 : decode cX3_put 36 = .ok (.putfield 21, 3) := by decide +kernel
theorem dX3_put_39 : decode cX3_put 39 = .ok (.return_, 1) := by decide +kernel
theorem dX3_take_0 : decode cX3_take 0 = .ok (.aload_n 0, 1) := by decide +kernel
theorem dX3_take_1 : decode cX3_take 1 = .ok (.getfield 21, 3) := by decide +kernel
theorem dX3_take_4 : decode cX3_take 4 = .ok (.iconst 1, 1) := by decide +kernel
theorem dX3_take_5 : decode cX3_take 5 = .ok (.bipush 8, 2) := by decide +kernel
theorem dX3_take_7 : decode cX3_take 7 = .ok (.invokestatic 76, 3) := by decide +kernel
theorem dX3_take_10 : decode cX3_take 10 = .ok (.ifCond .ne 10, 3) := by decide +kernel
theorem dX3_take_13 : decode cX3_take 13 = .ok (.aload_n 0, 1) := by decide +kernel
theorem dX3_take_14 : decode cX3_take 14 = .ok (.iconst 5, 1) := by decide +kernel
theorem dX3_take_15 : decode cX3_take 15 = .ok (.putfield 34, 3) := by decide +kernel
theorem dX3_take_18 : decode cX3_take 18 = .ok (.iconst 0, 1) := by decide +kernel
theorem dX3_take_19 : decode cX3_take 19 = .ok (.ireturn, 1) := by decide +kernel
theorem dX3_take_20 : decode cX3_take 20 = .ok (.aload_n 0, 1) := by decide +kernel
theorem dX3_take_21 : decode cX3_take 21 = .ok (.dup, 1) := by decide +kernel
theorem dX3_take_22 : decode cX3_take 22 = .ok (.getfield 21, 3) := by decide +kernel
theorem dX3_take_25 : decode cX3_take 25 = .ok (.iconst 1, 1) := by decide +kernel
theorem dX3_take_26 : decode cX3_take 26 = .ok (.isub, 1) := by decide +kernel
theorem dX3_take_27 : decode cX3_take 27 = .ok (.putfield 21, 3) := by decide +kernel
theorem dX3_take_30 : decode cX3_take 30 = .ok (.aload_n 0, 1) := by decide +kernel
theorem dX3_take_31 : decode cX3_take 31 = .ok (.getfield 9, 3) := by decide +kernel
theorem dX3_take_34 : decode cX3_take 34 = .ok (.aload_n 0, 1) := by decide +kernel
theorem dX3_take_35 : decode cX3_take 35 = .ok (.getfield 21, 3) := by decide +kernel
theorem dX3_take_38 : decode cX3_take 38 = .ok (.iaload, 1) := by decide +kernel
theorem dX3_take_39 : decode cX3_take 39 = .ok (.ireturn, 1) := by decide +kernel
theorem dX4_init_0 : decode cX4_init 0 = .ok (.aload_n 0, 1) := by decide +kernel
theorem dX4_init_1 : decode cX4_init 1 = .ok (.invokespecial 3, 3) := by decide +kernel
theorem dX4_init_4 : decode cX4_init 4 = .ok (.aload_n 0, 1) := by decide +kernel
theorem dX4_init_5 : decode cX4_init 5 = .ok (.new 9, 3) := by decide +kernel
theorem dX4_init_8 : decode cX4_init 8 = .ok (.dup, 1) := by decide +kernel
theorem dX4_init_9 : decode cX4_init 9 = .ok (.invokespecial 11, 3) := by decide +kernel
theorem dX4_init_12 : decode cX4_init 12 = .ok (.putfield 12, 3) := by decide +kernel
theorem dX4_init_15 : decode cX4_init 15 = .ok (.aload_n 0, 1) := by decide +kernel
theorem dX4_init_16 : decode cX4_init 16 = .ok (.new 18, 3) := by decide +kernel
theorem dX4_init_19 : decode cX4_init 19 = .ok (.dup, 1) := by decide +kernel
theorem dX4_init_20 : decode cX4_init 20 = .ok (.invokespecial 20, 3) := by decide +kernel
theorem dX4_init_23 : decode cX4_init 23 = .ok (.putfield 21, 3) := by decide +kernel
theorem dX4_init_26 : decode cX4_init 26 = .ok (.aload_n 0, 1) := by decide +kernel
theorem dX4_init_27 : decode cX4_init 27 = .ok (.bipush 16, 2) := by decide +kernel
theorem dX4_init_29 : decode cX4_init 29 = .ok (.newarray .int, 2) := by decide +kernel
theorem dX4_init_31 : decode cX4_init 31 = .ok (.putfield 25, 3) := by decide +kernel
theorem dX4_init_34 : decode cX4_init 34 = .ok (.aload_n 0, 1) := by decide +kernel
theorem dX4_init_35 : decode cX4_init 35 = .ok (.iload_n 1, 1) := by decide +kernel
theorem dX4_init_36 : decode cX4_init 36 = .ok (.putfield 29, 3) := by decide +kernel
theorem dX4_init_39 : decode cX4_init 39 = .ok (.aload_n 0, 1) := by decide +kernel
theorem dX4_init_40 : decode cX4_init 40 = .ok (.iload_n 1, 1) := by decide +kernel
theorem dX4_init_41 : decode cX4_init 41 = .ok (.iconst 4, 1) := by decide +kernel
theorem dX4_init_42 : decode cX4_init 42 = .ok (.irem, 1) := by decide +kernel
theorem dX4_init_43 : decode cX4_init 43 = .ok (.putfield 33, 3) := by decide +kernel
theorem dX4_init_46 : decode cX4_init 46 = .ok (.aload_n 0, 1) := by decide +kernel
theorem dX4_init_47 : decode cX4_init 47 = .ok (.aload_n 2, 1) := by decide +kernel
theorem dX4_init_48 : decode cX4_init 48 = .ok (.putfield 36, 3) := by decide +kernel
theorem dX4_init_51 : decode cX4_init 51 = .ok (.aload_n 0, 1) := by decide +kernel
theorem dX4_init_52 : decode cX4_init 52 = .ok (.aload_n 2, 1) := by decide +kernel
theorem dX4_init_53 : decode cX4_init 53 = .ok (.getfield 40, 3) := by decide +kernel
theorem dX4_init_56 : decode cX4_init 56 = .ok (.putfield 46, 3) := by decide +kernel
theorem dX4_init_59 : decode cX4_init 59 = .ok (.return_, 1) := by decide +kernel
theorem dX4_takeNewest_0 : decode cX4_takeNewest 0 = .ok (.aload_n 0, 1) := by decide +kernel
theorem dX4_takeNewest_1 : decode cX4_takeNewest 1 = .ok (.aload_n 0, 1) := by decide +kernel
theorem dX4_takeNewest_2 : decode cX4_takeNewest 2 = .ok (.getfield 36, 3) := by decide +kernel
theorem dX4_takeNewest_5 : decode cX4_takeNewest 5 = .ok (.getfield 40, 3) := by decide +kernel
theorem dX4_takeNewest_8 : decode cX4_takeNewest 8 = .ok (.putfield 46, 3) := by decide +kernel
theorem dX4_takeNewest_11 : decode cX4_takeNewest 11 = .ok (.aload_n 0, 1) := by decide +kernel
theorem dX4_takeNewest_12 : decode cX4_takeNewest 12 = .ok (.aload_n 0, 1) := by decide +kernel
theorem dX4_takeNewest_13 : decode cX4_takeNewest 13 = .ok (.getfield 36, 3) := by decide +kernel
theorem dX4_takeNewest_16 : decode cX4_takeNewest 16 = .ok (.invokevirtual 49, 3) := by decide +kernel
theorem dX4_takeNewest_19 : decode cX4_takeNewest 19 = .ok (.putfield 53, 3) := by decide +kernel
theorem dX4_takeNewest_22 : decode cX4_takeNewest 22 = .ok (.aload_n 0, 1) := by decide +kernel
theorem dX4_takeNewest_23 : decode cX4_takeNewest 23 = .ok (.aload_n 0, 1) := by decide +kernel
theorem dX4_takeNewest_24 : decode cX4_takeNewest 24 = .ok (.getfield 36, 3) := by decide +kernel
theorem dX4_takeNewest_27 : decode cX4_takeNewest 27 = .ok (.getfield 56, 3) := by decide +kernel
theorem dX4_takeNewest_30 : decode cX4_takeNewest 30 = .ok (.putfield 59, 3) := by decide +kernel
theorem dX4_takeNewest_33 : decode cX4_takeNewest 33 = .ok (.aload_n 1, 1) := by decide +kernel
theorem dX4_takeNewest_34 : decode cX4_takeNewest 34 = .ok (.iconst 0, 1) := by decide +kernel
theorem dX4_takeNewest_35 : decode cX4_takeNewest 35 = .ok (.aload_n 0, 1) := by decide +kernel
theorem dX4_takeNewest_36 : decode cX4_takeNewest 36 = .ok (.getfield 25, 3) := by decide +kernel
theorem dX4_takeNewest_39 : decode cX4_takeNewest 39 = .ok (.iconst 0, 1) := by decide +kernel
theorem dX4_takeNewest_40 : decode cX4_takeNewest 40 = .ok (.bipush 16, 2) := by decide +kernel
theorem dX4_takeNewest_42 : decode cX4_takeNewest 42 = .ok (.invokestatic 62, 3) := by decide +kernel
theorem dX4_takeNewest_45 : decode cX4_takeNewest 45 = .ok (.return_, 1) := by decide +kernel
theorem dX4_keepAnswer_0 : decode cX4_keepAnswer 0 = .ok (.aload_n 0, 1) := by decide +kernel
theorem dX4_keepAnswer_1 : decode cX4_keepAnswer 1 = .ok (.getfield 12, 3) := by decide +kernel
theorem dX4_keepAnswer_4 : decode cX4_keepAnswer 4 = .ok (.getfield 68, 3) := by decide +kernel
theorem dX4_keepAnswer_7 : decode cX4_keepAnswer 7 = .ok (.istore_n 2, 1) := by decide +kernel
theorem dX4_keepAnswer_8 : decode cX4_keepAnswer 8 = .ok (.aload_n 0, 1) := by decide +kernel
theorem dX4_keepAnswer_9 : decode cX4_keepAnswer 9 = .ok (.getfield 21, 3) := by decide +kernel
theorem dX4_keepAnswer_12 : decode cX4_keepAnswer 12 = .ok (.new 71, 3) := by decide +kernel
theorem dX4_keepAnswer_15 : decode cX4_keepAnswer 15 = .ok (.dup, 1) := by decide +kernel
theorem dX4_keepAnswer_16 : decode cX4_keepAnswer 16 = .ok (.iload_n 2, 1) := by decide +kernel
theorem dX4_keepAnswer_17 : decode cX4_keepAnswer 17 = .ok (.aload_n 0, 1) := by decide +kernel
theorem dX4_keepAnswer_18 : decode cX4_keepAnswer 18 = .ok (.getfield 25, 3) := by decide +kernel
theorem dX4_keepAnswer_21 : decode cX4_keepAnswer 21 = .ok (.iload_n 2, 1) := by decide +kernel
theorem dX4_keepAnswer_22 : decode cX4_keepAnswer 22 = .ok (.invokestatic 73, 3) := by decide +kernel
theorem dX4_keepAnswer_25 : decode cX4_keepAnswer 25 = .ok (.iload_n 1, 1) := by decide +kernel
theorem dX4_keepAnswer_26 : decode cX4_keepAnswer 26 = .ok (.invokespecial 77, 3) := by decide +kernel
theorem dX4_keepAnswer_29 : decode cX4_keepAnswer 29 = .ok (.invokevirtual 80, 3) := by decide +kernel
theorem dX4_keepAnswer_32 : decode cX4_keepAnswer 32 = .ok (.pop, 1) := by decide +kernel
theorem dX4_keepAnswer_33 : decode cX4_keepAnswer 33 = .ok (.return_, 1) := by decide +kernel
theorem dX4_nthValue_0 : decode cX4_nthValue 0 = .ok (.aload_n 0, 1) := by decide +kernel
theorem dX4_nthValue_1 : decode cX4_nthValue 1 = .ok (.getfield 25, 3) := by decide +kernel
theorem dX4_nthValue_4 : decode cX4_nthValue 4 = .ok (.iload_n 1, 1) := by decide +kernel
theorem dX4_nthValue_5 : decode cX4_nthValue 5 = .ok (.invokestatic 73, 3) := by decide +kernel
theorem dX4_nthValue_8 : decode cX4_nthValue 8 = .ok (.istore_n 3, 1) := by decide +kernel
theorem dX4_nthValue_9 : decode cX4_nthValue 9 = .ok (.iconst 0, 1) := by decide +kernel
theorem dX4_nthValue_10 : decode cX4_nthValue 10 = .ok (.istore 4, 2) := by decide +kernel
theorem dX4_nthValue_12 : decode cX4_nthValue 12 = .ok (.iconst 0, 1) := by decide +kernel
theorem dX4_nthValue_13 : decode cX4_nthValue 13 = .ok (.istore 5, 2) := by decide +kernel
theorem dX4_nthValue_15 : decode cX4_nthValue 15 = .ok (.iload 5, 2) := by decide +kernel
theorem dX4_nthValue_17 : decode cX4_nthValue 17 = .ok (.aload_n 0, 1) := by decide +kernel
theorem dX4_nthValue_18 : decode cX4_nthValue 18 = .ok (.getfield 21, 3) := by decide +kernel
theorem dX4_nthValue_21 : decode cX4_nthValue 21 = .ok (.invokevirtual 84, 3) := by decide +kernel
theorem dX4_nthValue_24 : decode cX4_nthValue 24 = .ok (.if_icmp .ge 56, 3) := by decide +kernel
theorem dX4_nthValue_27 : decode cX4_nthValue 27 = .ok (.aload_n 0, 1) := by decide +kernel
theorem dX4_nthValue_28 : decode cX4_nthValue 28 = .ok (.getfield 21, 3) := by decide +kernel
theorem dX4_nthValue_31 : decode cX4_nthValue 31 = .ok (.iload 5, 2) := by decide +kernel
theorem dX4_nthValue_33 : decode cX4_nthValue 33 = .ok (.invokevirtual 87, 3) := by decide +kernel
theorem dX4_nthValue_36 : decode cX4_nthValue 36 = .ok (.checkcast 71, 3) := by decide +kernel
theorem dX4_nthValue_39 : decode cX4_nthValue 39 = .ok (.astore 6, 2) := by decide +kernel
theorem dX4_nthValue_41 : decode cX4_nthValue 41 = .ok (.aload 6, 2) := by decide +kernel
theorem dX4_nthValue_43 : decode cX4_nthValue 43 = .ok (.getfield 91, 3) := by decide +kernel
theorem dX4_nthValue_46 : decode cX4_nthValue 46 = .ok (.iload_n 1, 1) := by decide +kernel
theorem dX4_nthValue_47 : decode cX4_nthValue 47 = .ok (.if_icmp .ne 27, 3) := by decide +kernel
theorem dX4_nthValue_50 : decode cX4_nthValue 50 = .ok (.aload 6, 2) := by decide +kernel
theorem dX4_nthValue_52 : decode cX4_nthValue 52 = .ok (.getfield 92, 3) := by decide +kernel
theorem dX4_nthValue_55 : decode cX4_nthValue 55 = .ok (.iload_n 3, 1) := by decide +kernel
theorem dX4_nthValue_56 : decode cX4_nthValue 56 = .ok (.if_icmp .ne 18, 3) := by decide +kernel
theorem dX4_nthValue_59 : decode cX4_nthValue 59 = .ok (.iinc 4 1, 3) := by decide +kernel
theorem dX4_nthValue_62 : decode cX4_nthValue 62 = .ok (.iload 4, 2) := by decide +kernel
theorem dX4_nthValue_64 : decode cX4_nthValue 64 = .ok (.iload_n 2, 1) := by decide +kernel
theorem dX4_nthValue_65 : decode cX4_nthValue 65 = .ok (.if_icmp .ne 9, 3) := by decide +kernel
theorem dX4_nthValue_68 : decode cX4_nthValue 68 = .ok (.aload 6, 2) := by decide +kernel
theorem dX4_nthValue_70 : decode cX4_nthValue 70 = .ok (.getfield 95, 3) := by decide +kernel
theorem dX4_nthValue_73 : decode cX4_nthValue 73 = .ok (.ireturn, 1) := by decide +kernel
theorem dX4_nthValue_74 : decode cX4_nthValue 74 = .ok (.iinc 5 1, 3) := by decide +kernel
theorem dX4_nthValue_77 : decode cX4_nthValue 77 = .ok (.goto (-62), 3) := by decide +kernel
theorem dX4_nthValue_80 : decode cX4_nthValue 80 = .ok (.iconst (-1), 1) := by decide +kernel
theorem dX4_nthValue_81 : decode cX4_nthValue 81 = .ok (.ireturn, 1) := by decide +kernel
theorem dX5_init_0 : decode cX5_init 0 = .ok (.aload_n 0, 1) := by decide +kernel
theorem dX5_init_1 : decode cX5_init 1 = .ok (.invokespecial 1, 3) := by decide +kernel
theorem dX5_init_4 : decode cX5_init 4 = .ok (.aload_n 0, 1) := by decide +kernel
theorem dX5_init_5 : decode cX5_init 5 = .ok (.iconst 4, 1) := by decide +kernel
theorem dX5_init_6 : decode cX5_init 6 = .ok (.anewarray 9, 3) := by decide +kernel
theorem dX5_init_9 : decode cX5_init 9 = .ok (.putfield 11, 3) := by decide +kernel
theorem dX5_init_12 : decode cX5_init 12 = .ok (.aload_n 0, 1) := by decide +kernel
theorem dX5_init_13 : decode cX5_init 13 = .ok (.new 15, 3) := by decide +kernel
theorem dX5_init_16 : decode cX5_init 16 = .ok (.dup, 1) := by decide +kernel
theorem dX5_init_17 : decode cX5_init 17 = .ok (.invokespecial 17, 3) := by decide +kernel
theorem dX5_init_20 : decode cX5_init 20 = .ok (.putfield 18, 3) := by decide +kernel
theorem dX5_init_23 : decode cX5_init 23 = .ok (.aload_n 0, 1) := by decide +kernel
theorem dX5_init_24 : decode cX5_init 24 = .ok (.bipush 16, 2) := by decide +kernel
theorem dX5_init_26 : decode cX5_init 26 = .ok (.newarray .int, 2) := by decide +kernel
theorem dX5_init_28 : decode cX5_init 28 = .ok (.putfield 22, 3) := by decide +kernel
theorem dX5_init_31 : decode cX5_init 31 = .ok (.aload_n 0, 1) := by decide +kernel
theorem dX5_init_32 : decode cX5_init 32 = .ok (.bipush 16, 2) := by decide +kernel
theorem dX5_init_34 : decode cX5_init 34 = .ok (.newarray .int, 2) := by decide +kernel
theorem dX5_init_36 : decode cX5_init 36 = .ok (.putfield 26, 3) := by decide +kernel
theorem dX5_init_39 : decode cX5_init 39 = .ok (.aload_n 0, 1) := by decide +kernel
theorem dX5_init_40 : decode cX5_init 40 = .ok (.bipush 16, 2) := by decide +kernel
theorem dX5_init_42 : decode cX5_init 42 = .ok (.newarray .int, 2) := by decide +kernel
theorem dX5_init_44 : decode cX5_init 44 = .ok (.putfield 29, 3) := by decide +kernel
theorem dX5_init_47 : decode cX5_init 47 = .ok (.aload_n 0, 1) := by decide +kernel
theorem dX5_init_48 : decode cX5_init 48 = .ok (.new 32, 3) := by decide +kernel
theorem dX5_init_51 : decode cX5_init 51 = .ok (.dup, 1) := by decide +kernel
theorem dX5_init_52 : decode cX5_init 52 = .ok (.invokespecial 34, 3) := by decide +kernel
theorem dX5_init_55 : decode cX5_init 55 = .ok (.putfield 35, 3) := by decide +kernel
theorem dX5_init_58 : decode cX5_init 58 = .ok (.iconst 0, 1) := by decide +kernel
theorem dX5_init_59 : decode cX5_init 59 = .ok (.istore_n 1, 1) := by decide +kernel
theorem dX5_init_60 : decode cX5_init 60 = .ok (.iload_n 1, 1) := by decide +kernel
theorem dX5_init_61 : decode cX5_init 61 = .ok (.iconst 4, 1) := by decide +kernel
theorem dX5_init_62 : decode cX5_init 62 = .ok (.if_icmp .ge 22, 3) := by decide +kernel
theorem dX5_init_65 : decode cX5_init 65 = .ok (.aload_n 0, 1) := by decide +kernel
theorem dX5_init_66 : decode cX5_init 66 = .ok (.getfield 11, 3) := by decide +kernel
theorem dX5_init_69 : decode cX5_init 69 = .ok (.iload_n 1, 1) := by decide +kernel
theorem dX5_init_70 : decode cX5_init 70 = .ok (.new 9, 3) := by decide +kernel
theorem dX5_init_73 : decode cX5_init 73 = .ok (.dup, 1) := by decide +kernel
theorem dX5_init_74 : decode cX5_init 74 = .ok (.invokespecial 39, 3) := by decide +kernel
theorem dX5_init_77 : decode cX5_init 77 = .ok (.aastore, 1) := by decide +kernel
theorem dX5_init_78 : decode cX5_init 78 = .ok (.iinc 1 1, 3) := by decide +kernel
theorem dX5_init_81 : decode cX5_init 81 = .ok (.goto (-21), 3) := by decide +kernel
theorem dX5_init_84 : decode cX5_init 84 = .ok (.return_, 1) := by decide +kernel
theorem dX5_write_0 : decode cX5_write 0 = .ok (.aload_n 0, 1) := by decide +kernel
theorem dX5_write_1 : decode cX5_write 1 = .ok (.iload_n 1, 1) := by decide +kernel
theorem dX5_write_2 : decode cX5_write 2 = .ok (.invokevirtual 40, 3) := by decide +kernel
theorem dX5_write_5 : decode cX5_write 5 = .ok (.astore 4, 2) := by decide +kernel
theorem dX5_write_7 : decode cX5_write 7 = .ok (.iload_n 2, 1) := by decide +kernel
theorem dX5_write_8 : decode cX5_write 8 = .ok (.iconst 0, 1) := by decide +kernel
theorem dX5_write_9 : decode cX5_write 9 = .ok (.bipush 12, 2) := by decide +kernel
theorem dX5_write_11 : decode cX5_write 11 = .ok (.invokestatic 44, 3) := by decide +kernel
theorem dX5_write_14 : decode cX5_write 14 = .ok (.ifCond .ne 13, 3) := by decide +kernel
theorem dX5_write_17 : decode cX5_write 17 = .ok (.new 48, 3) := by decide +kernel
theorem dX5_write_20 : decode cX5_write 20 = .ok (.dup, 1) := by decide +kernel
theorem dX5_write_21 : decode cX5_write 21 = .ok (.ldc 50, 2) := by decide +kernel
theorem dX5_write_23 : decode cX5_write 23 = .ok (.invokespecial 52, 3) := by decide +kernel
theorem dX5_write_26 : decode cX5_write 26 = .ok (.athrow, 1) := by decide +kernel
theorem dX5_write_27 : decode cX5_write 27 = .ok (.iload_n 3, 1) := by decide +kernel
theorem dX5_write_28 : decode cX5_write 28 = .ok (.getstatic 55, 3) := by decide +kernel
theorem dX5_write_31 : decode cX5_write 31 = .ok (.iload_n 2, 1) := by decide +kernel
theorem dX5_write_32 : decode cX5_write 32 = .ok (.invokestatic 58, 3) := by decide +kernel
theorem dX5_write_35 : decode cX5_write 35 = .ok (.getstatic 62, 3) := by decide +kernel
theorem dX5_write_38 : decode cX5_write 38 = .ok (.iload_n 2, 1) := by decide +kernel
theorem dX5_write_39 : decode cX5_write 39 = .ok (.invokestatic 58, 3) := by decide +kernel
theorem dX5_write_42 : decode cX5_write 42 = .ok (.invokestatic 44, 3) := by decide +kernel
theorem dX5_write_45 : decode cX5_write 45 = .ok (.ifCond .ne 13, 3) := by decide +kernel
theorem dX5_write_48 : decode cX5_write 48 = .ok (.new 48, 3) := by decide +kernel
theorem dX5_write_51 : decode cX5_write 51 = .ok (.dup, 1) := by decide +kernel
theorem dX5_write_52 : decode cX5_write 52 = .ok (.ldc 65, 2) := by decide +kernel
theorem dX5_write_54 : decode cX5_write 54 = .ok (.invokespecial 52, 3) := by decide +kernel
theorem dX5_write_57 : decode cX5_write 57 = .ok (.athrow, 1) := by decide +kernel
theorem dX5_write_58 : decode cX5_write 58 = .ok (.aload 4, 2) := by decide +kernel
theorem dX5_write_60 : decode cX5_write 60 = .ok (.getfield 67, 3) := by decide +kernel
theorem dX5_write_63 : decode cX5_write 63 = .ok (.invokevirtual 71, 3) := by decide +kernel
theorem dX5_write_66 : decode cX5_write 66 = .ok (.ifCond .eq 13, 3) := by decide +kernel
theorem dX5_write_69 : decode cX5_write 69 = .ok (.new 77, 3) := by decide +kernel
theorem dX5_write_72 : decode cX5_write 72 = .ok (.dup, 1) := by decide +kernel
theorem dX5_write_73 : decode cX5_write 73 = .ok (.ldc 79, 2) := by decide +kernel
theorem dX5_write_75 : decode cX5_write 75 = .ok (.invokespecial 81, 3) := by decide +kernel
theorem dX5_write_78 : decode cX5_write 78 = .ok (.athrow, 1) := by decide +kernel
theorem dX5_write_79 : decode cX5_write 79 = .ok (.aload 4, 2) := by decide +kernel
theorem dX5_write_81 : decode cX5_write 81 = .ok (.getfield 67, 3) := by decide +kernel
theorem dX5_write_84 : decode cX5_write 84 = .ok (.iload_n 2, 1) := by decide +kernel
theorem dX5_write_85 : decode cX5_write 85 = .ok (.iload_n 3, 1) := by decide +kernel
theorem dX5_write_86 : decode cX5_write 86 = .ok (.invokevirtual 82, 3) := by decide +kernel
theorem dX5_write_89 : decode cX5_write 89 = .ok (.aload 4, 2) := by decide +kernel
theorem dX5_write_91 : decode cX5_write 91 = .ok (.getfield 67, 3) := by decide +kernel
theorem dX5_write_94 : decode cX5_write 94 = .ok (.getfield 86, 3) := by decide +kernel
theorem dX5_write_97 : decode cX5_write 97 = .ok (.ireturn, 1) := by decide +kernel
theorem dX5_publish_0 : decode cX5_publish 0 = .ok (.aload_n 0, 1) := by decide +kernel
theorem dX5_publish_1 : decode cX5_publish 1 = .ok (.iload_n 1, 1) := by decide +kernel
theorem dX5_publish_2 : decode cX5_publish 2 = .ok (.invokevirtual 40, 3) := by decide +kernel
theorem dX5_publish_5 : decode cX5_publish 5 = .ok (.astore_n 2, 1) := by decide +kernel
theorem dX5_publish_6 : decode cX5_publish 6 = .ok (.aload_n 2, 1) := by decide +kernel
theorem dX5_publish_7 : decode cX5_publish 7 = .ok (.getfield 67, 3) := by decide +kernel
theorem dX5_publish_10 : decode cX5_publish 10 = .ok (.getfield 86, 3) := by decide +kernel
theorem dX5_publish_13 : decode cX5_publish 13 = .ok (.ifCond .eq 12, 3) := by decide +kernel
theorem dX5_publish_16 : decode cX5_publish 16 = .ok (.aload_n 2, 1) := by decide +kernel
theorem dX5_publish_17 : decode cX5_publish 17 = .ok (.getfield 90, 3) := by decide +kernel
theorem dX5_publish_20 : decode cX5_publish 20 = .ok (.bipush 6, 2) := by decide +kernel
theorem dX5_publish_22 : decode cX5_publish 22 = .ok (.if_icmp .lt 13, 3) := by decide +kernel
theorem dX5_publish_25 : decode cX5_publish 25 = .ok (.new 77, 3) := by decide +kernel
theorem dX5_publish_28 : decode cX5_publish 28 = .ok (.dup, 1) := by decide +kernel
theorem dX5_publish_29 : decode cX5_publish 29 = .ok (.ldc 93, 2) := by decide +kernel
theorem dX5_publish_31 : decode cX5_publish 31 = .ok (.invokespecial 81, 3) := by decide +kernel
theorem dX5_publish_34 : decode cX5_publish 34 = .ok (.athrow, 1) := by decide +kernel
theorem dX5_publish_35 : decode cX5_publish 35 = .ok (.aload_n 2, 1) := by decide +kernel
theorem dX5_publish_36 : decode cX5_publish 36 = .ok (.invokevirtual 95, 3) := by decide +kernel
theorem dX5_publish_39 : decode cX5_publish 39 = .ok (.aload_n 2, 1) := by decide +kernel
theorem dX5_publish_40 : decode cX5_publish 40 = .ok (.invokevirtual 98, 3) := by decide +kernel
theorem dX5_publish_43 : decode cX5_publish 43 = .ok (.ireturn, 1) := by decide +kernel
theorem dX5_setFuel_0 : decode cX5_setFuel 0 = .ok (.aload_n 0, 1) := by decide +kernel
theorem dX5_setFuel_1 : decode cX5_setFuel 1 = .ok (.iload_n 1, 1) := by decide +kernel
theorem dX5_setFuel_2 : decode cX5_setFuel 2 = .ok (.invokevirtual 40, 3) := by decide +kernel
theorem dX5_setFuel_5 : decode cX5_setFuel 5 = .ok (.astore_n 3, 1) := by decide +kernel
theorem dX5_setFuel_6 : decode cX5_setFuel 6 = .ok (.iload_n 2, 1) := by decide +kernel
theorem dX5_setFuel_7 : decode cX5_setFuel 7 = .ok (.iconst 1, 1) := by decide +kernel
theorem dX5_setFuel_8 : decode cX5_setFuel 8 = .ok (.sipush 200, 3) := by decide +kernel
theorem dX5_setFuel_11 : decode cX5_setFuel 11 = .ok (.invokestatic 44, 3) := by decide +kernel
theorem dX5_setFuel_14 : decode cX5_setFuel 14 = .ok (.ifCond .ne 13, 3) := by decide +kernel
theorem dX5_setFuel_17 : decode cX5_setFuel 17 = .ok (.new 48, 3) := by decide +kernel
theorem dX5_setFuel_20 : decode cX5_setFuel 20 = .ok (.dup, 1) := by decide +kernel
theorem dX5_setFuel_21 : decode cX5_setFuel 21 = .ok (.ldc 102, 2) := by decide +kernel
theorem dX5_setFuel_23 : decode cX5_setFuel 23 = .ok (.invokespecial 52, 3) := by decide +kernel
theorem dX5_setFuel_26 : decode cX5_setFuel 26 = .ok (.athrow, 1) := by decide +kernel
theorem dX5_setFuel_27 : decode cX5_setFuel 27 = .ok (.aload_n 3, 1) := by decide +kernel
theorem dX5_setFuel_28 : decode cX5_setFuel 28 = .ok (.getfield 104, 3) := by decide +kernel
theorem dX5_setFuel_31 : decode cX5_setFuel 31 = .ok (.istore 4, 2) := by decide +kernel
theorem dX5_setFuel_33 : decode cX5_setFuel 33 = .ok (.aload_n 3, 1) := by decide +kernel
theorem dX5_setFuel_34 : decode cX5_setFuel 34 = .ok (.iload_n 2, 1) := by decide +kernel
theorem dX5_setFuel_35 : decode cX5_setFuel 35 = .ok (.putfield 104, 3) := by decide +kernel
theorem dX5_setFuel_38 : decode cX5_setFuel 38 = .ok (.iload 4, 2) := by decide +kernel
theorem dX5_setFuel_40 : decode cX5_setFuel 40 = .ok (.ireturn, 1) := by decide +kernel
theorem dX5_fund_0 : decode cX5_fund 0 = .ok (.aload_n 0, 1) := by decide +kernel
theorem dX5_fund_1 : decode cX5_fund 1 = .ok (.iload_n 1, 1) := by decide +kernel
theorem dX5_fund_2 : decode cX5_fund 2 = .ok (.invokevirtual 40, 3) := by decide +kernel
theorem dX5_fund_5 : decode cX5_fund 5 = .ok (.astore_n 3, 1) := by decide +kernel
theorem dX5_fund_6 : decode cX5_fund 6 = .ok (.iload_n 2, 1) := by decide +kernel
theorem dX5_fund_7 : decode cX5_fund 7 = .ok (.iconst 1, 1) := by decide +kernel
theorem dX5_fund_8 : decode cX5_fund 8 = .ok (.ldc 107, 2) := by decide +kernel
theorem dX5_fund_10 : decode cX5_fund 10 = .ok (.invokestatic 44, 3) := by decide +kernel
theorem dX5_fund_13 : decode cX5_fund 13 = .ok (.ifCond .ne 13, 3) := by decide +kernel
theorem dX5_fund_16 : decode cX5_fund 16 = .ok (.new 48, 3) := by decide +kernel
theorem dX5_fund_19 : decode cX5_fund 19 = .ok (.dup, 1) := by decide +kernel
theorem dX5_fund_20 : decode cX5_fund 20 = .ok (.ldc 108, 2) := by decide +kernel
theorem dX5_fund_22 : decode cX5_fund 22 = .ok (.invokespecial 52, 3) := by decide +kernel
theorem dX5_fund_25 : decode cX5_fund 25 = .ok (.athrow, 1) := by decide +kernel
theorem dX5_fund_26 : decode cX5_fund 26 = .ok (.aload_n 3, 1) := by decide +kernel
theorem dX5_fund_27 : decode cX5_fund 27 = .ok (.dup, 1) := by decide +kernel
theorem dX5_fund_28 : decode cX5_fund 28 = .ok (.getfield 110, 3) := by decide +kernel
theorem dX5_fund_31 : decode cX5_fund 31 = .ok (.iload_n 2, 1) := by decide +kernel
theorem dX5_fund_32 : decode cX5_fund 32 = .ok (.iadd, 1) := by decide +kernel
theorem dX5_fund_33 : decode cX5_fund 33 = .ok (.putfield 110, 3) := by decide +kernel
theorem dX5_fund_36 : decode cX5_fund 36 = .ok (.aload_n 3, 1) := by decide +kernel
theorem dX5_fund_37 : decode cX5_fund 37 = .ok (.getfield 110, 3) := by decide +kernel
theorem dX5_fund_40 : decode cX5_fund 40 = .ok (.ireturn, 1) := by decide +kernel
theorem dX5_setQuota_0 : decode cX5_setQuota 0 = .ok (.aload_n 0, 1) := by decide +kernel
theorem dX5_setQuota_1 : decode cX5_setQuota 1 = .ok (.iload_n 1, 1) := by decide +kernel
theorem dX5_setQuota_2 : decode cX5_setQuota 2 = .ok (.invokevirtual 40, 3) := by decide +kernel
theorem dX5_setQuota_5 : decode cX5_setQuota 5 = .ok (.astore 4, 2) := by decide +kernel
theorem dX5_setQuota_7 : decode cX5_setQuota 7 = .ok (.iload_n 2, 1) := by decide +kernel
theorem dX5_setQuota_8 : decode cX5_setQuota 8 = .ok (.iconst 0, 1) := by decide +kernel
theorem dX5_setQuota_9 : decode cX5_setQuota 9 = .ok (.iconst 3, 1) := by decide +kernel
theorem dX5_setQuota_10 : decode cX5_setQuota 10 = .ok (.invokestatic 44, 3) := by decide +kernel
theorem dX5_setQuota_13 : decode cX5_setQuota 13 = .ok (.ifCond .ne 13, 3) := by decide +kernel
theorem dX5_setQuota_16 : decode cX5_setQuota 16 = .ok (.new 113, 3) := by decide +kernel
theorem dX5_setQuota_19 : decode cX5_setQuota 19 = .ok (.dup, 1) := by decide +kernel
theorem dX5_setQuota_20 : decode cX5_setQuota 20 = .ok (.ldc 115, 2) := by decide +kernel
theorem dX5_setQuota_22 : decode cX5_setQuota 22 = .ok (.invokespecial 117, 3) := by decide +kernel
theorem dX5_setQuota_25 : decode cX5_setQuota 25 = .ok (.athrow, 1) := by decide +kernel
theorem dX5_setQuota_26 : decode cX5_setQuota 26 = .ok (.iload_n 3, 1) := by decide +kernel
theorem dX5_setQuota_27 : decode cX5_setQuota 27 = .ok (.iconst 0, 1) := by decide +kernel
theorem dX5_setQuota_28 : decode cX5_setQuota 28 = .ok (.bipush 20, 2) := by decide +kernel
theorem dX5_setQuota_30 : decode cX5_setQuota 30 = .ok (.invokestatic 44, 3) := by decide +kernel
theorem dX5_setQuota_33 : decode cX5_setQuota 33 = .ok (.ifCond .ne 13, 3) := by decide +kernel
theorem dX5_setQuota_36 : decode cX5_setQuota 36 = .ok (.new 48, 3) := by decide +kernel
theorem dX5_setQuota_39 : decode cX5_setQuota 39 = .ok (.dup, 1) := by decide +kernel
theorem dX5_setQuota_40 : decode cX5_setQuota 40 = .ok (.ldc 118, 2) := by decide +kernel
theorem dX5_setQuota_42 : decode cX5_setQuota 42 = .ok (.invokespecial 52, 3) := by decide +kernel
theorem dX5_setQuota_45 : decode cX5_setQuota 45 = .ok (.athrow, 1) := by decide +kernel
theorem dX5_setQuota_46 : decode cX5_setQuota 46 = .ok (.aload 4, 2) := by decide +kernel
theorem dX5_setQuota_48 : decode cX5_setQuota 48 = .ok (.getfield 120, 3) := by decide +kernel
theorem dX5_setQuota_51 : decode cX5_setQuota 51 = .ok (.iload_n 2, 1) := by decide +kernel
theorem dX5_setQuota_52 : decode cX5_setQuota 52 = .ok (.iaload, 1) := by decide +kernel
theorem dX5_setQuota_53 : decode cX5_setQuota 53 = .ok (.istore 5, 2) := by decide +kernel
theorem dX5_setQuota_55 : decode cX5_setQuota 55 = .ok (.aload 4, 2) := by decide +kernel
theorem dX5_setQuota_57 : decode cX5_setQuota 57 = .ok (.getfield 120, 3) := by decide +kernel
theorem dX5_setQuota_60 : decode cX5_setQuota 60 = .ok (.iload_n 2, 1) := by decide +kernel
theorem dX5_setQuota_61 : decode cX5_setQuota 61 = .ok (.iload_n 3, 1) := by decide +kernel
theorem dX5_setQuota_62 : decode cX5_setQuota 62 = .ok (.iastore, 1) := by decide +kernel
theorem dX5_setQuota_63 : decode cX5_setQuota 63 = .ok (.iload 5, 2) := by decide +kernel
theorem dX5_setQuota_65 : decode cX5_setQuota 65 = .ok (.ireturn, 1) := by decide +kernel
theorem dX5_setPrice_0 : decode cX5_setPrice 0 = .ok (.iload_n 1, 1) := by decide +kernel
theorem dX5_setPrice_1 : decode cX5_setPrice 1 = .ok (.iconst 0, 1) := by decide +kernel
theorem dX5_setPrice_2 : decode cX5_setPrice 2 = .ok (.bipush 15, 2) := by decide +kernel
theorem dX5_setPrice_4 : decode cX5_setPrice 4 = .ok (.invokestatic 44, 3) := by decide +kernel
theorem dX5_setPrice_7 : decode cX5_setPrice 7 = .ok (.ifCond .ne 13, 3) := by decide +kernel
theorem dX5_setPrice_10 : decode cX5_setPrice 10 = .ok (.new 113, 3) := by decide +kernel
theorem dX5_setPrice_13 : decode cX5_setPrice 13 = .ok (.dup, 1) := by decide +kernel
theorem dX5_setPrice_14 : decode cX5_setPrice 14 = .ok (.ldc 123, 2) := by decide +kernel
theorem dX5_setPrice_16 : decode cX5_setPrice 16 = .ok (.invokespecial 117, 3) := by decide +kernel
theorem dX5_setPrice_19 : decode cX5_setPrice 19 = .ok (.athrow, 1) := by decide +kernel
theorem dX5_setPrice_20 : decode cX5_setPrice 20 = .ok (.iload_n 2, 1) := by decide +kernel
theorem dX5_setPrice_21 : decode cX5_setPrice 21 = .ok (.iconst 0, 1) := by decide +kernel
theorem dX5_setPrice_22 : decode cX5_setPrice 22 = .ok (.sipush 1000, 3) := by decide +kernel
theorem dX5_setPrice_25 : decode cX5_setPrice 25 = .ok (.invokestatic 44, 3) := by decide +kernel
theorem dX5_setPrice_28 : decode cX5_setPrice 28 = .ok (.ifCond .ne 13, 3) := by decide +kernel
theorem dX5_setPrice_31 : decode cX5_setPrice 31 = .ok (.new 48, 3) := by decide +kernel
theorem dX5_setPrice_34 : decode cX5_setPrice 34 = .ok (.dup, 1) := by decide +kernel
theorem dX5_setPrice_35 : decode cX5_setPrice 35 = .ok (.ldc 125, 2) := by decide +kernel
theorem dX5_setPrice_37 : decode cX5_setPrice 37 = .ok (.invokespecial 52, 3) := by decide +kernel
theorem dX5_setPrice_40 : decode cX5_setPrice 40 = .ok (.athrow, 1) := by decide +kernel
theorem dX5_setPrice_41 : decode cX5_setPrice 41 = .ok (.aload_n 0, 1) := by decide +kernel
theorem dX5_setPrice_42 : decode cX5_setPrice 42 = .ok (.getfield 22, 3) := by decide +kernel
theorem dX5_setPrice_45 : decode cX5_setPrice 45 = .ok (.iload_n 1, 1) := by decide +kernel
theorem dX5_setPrice_46 : decode cX5_setPrice 46 = .ok (.iaload, 1) := by decide +kernel
theorem dX5_setPrice_47 : decode cX5_setPrice 47 = .ok (.istore_n 3, 1) := by decide +kernel
theorem dX5_setPrice_48 : decode cX5_setPrice 48 = .ok (.aload_n 0, 1) := by decide +kernel
theorem dX5_setPrice_49 : decode cX5_setPrice 49 = .ok (.getfield 22, 3) := by decide +kernel
theorem dX5_setPrice_52 : decode cX5_setPrice 52 = .ok (.iload_n 1, 1) := by decide +kernel
theorem dX5_setPrice_53 : decode cX5_setPrice 53 = .ok (.iload_n 2, 1) := by decide +kernel
theorem dX5_setPrice_54 : decode cX5_setPrice 54 = .ok (.iastore, 1) := by decide +kernel
theorem dX5_setPrice_55 : decode cX5_setPrice 55 = .ok (.iload_n 3, 1) := by decide +kernel
theorem dX5_setPrice_56 : decode cX5_setPrice 56 = .ok (.ireturn, 1) := by decide +kernel
theorem dX5_reword_0 : decode cX5_reword 0 = .ok (.iload_n 1, 1) := by decide +kernel
theorem dX5_reword_1 : decode cX5_reword 1 = .ok (.iconst 0, 1) := by decide +kernel
theorem dX5_reword_2 : decode cX5_reword 2 = .ok (.bipush 15, 2) := by decide +kernel
theorem dX5_reword_4 : decode cX5_reword 4 = .ok (.invokestatic 44, 3) := by decide +kernel
theorem dX5_reword_7 : decode cX5_reword 7 = .ok (.ifCond .ne 13, 3) := by decide +kernel
theorem dX5_reword_10 : decode cX5_reword 10 = .ok (.new 113, 3) := by decide +kernel
theorem dX5_reword_13 : decode cX5_reword 13 = .ok (.dup, 1) := by decide +kernel
theorem dX5_reword_14 : decode cX5_reword 14 = .ok (.ldc 123, 2) := by decide +kernel
theorem dX5_reword_16 : decode cX5_reword 16 = .ok (.invokespecial 117, 3) := by decide +kernel
theorem dX5_reword_19 : decode cX5_reword 19 = .ok (.athrow, 1) := by decide +kernel
theorem dX5_reword_20 : decode cX5_reword 20 = .ok (.aload_n 0, 1) := by decide +kernel
theorem dX5_reword_21 : decode cX5_reword 21 = .ok (.getfield 26, 3) := by decide +kernel
theorem dX5_reword_24 : decode cX5_reword 24 = .ok (.iload_n 1, 1) := by decide +kernel
theorem dX5_reword_25 : decode cX5_reword 25 = .ok (.dup2, 1) := by decide +kernel
theorem dX5_reword_26 : decode cX5_reword 26 = .ok (.iaload, 1) := by decide +kernel
theorem dX5_reword_27 : decode cX5_reword 27 = .ok (.iconst 1, 1) := by decide +kernel
theorem dX5_reword_28 : decode cX5_reword 28 = .ok (.iadd, 1) := by decide +kernel
theorem dX5_reword_29 : decode cX5_reword 29 = .ok (.iastore, 1) := by decide +kernel
theorem dX5_reword_30 : decode cX5_reword 30 = .ok (.aload_n 0, 1) := by decide +kernel
theorem dX5_reword_31 : decode cX5_reword 31 = .ok (.getfield 26, 3) := by decide +kernel
theorem dX5_reword_34 : decode cX5_reword 34 = .ok (.iload_n 1, 1) := by decide +kernel
theorem dX5_reword_35 : decode cX5_reword 35 = .ok (.iaload, 1) := by decide +kernel
theorem dX5_reword_36 : decode cX5_reword 36 = .ok (.ireturn, 1) := by decide +kernel
theorem dX5_begin_0 : decode cX5_begin 0 = .ok (.iload_n 1, 1) := by decide +kernel
theorem dX5_begin_1 : decode cX5_begin 1 = .ok (.iconst 0, 1) := by decide +kernel
theorem dX5_begin_2 : decode cX5_begin 2 = .ok (.bipush 15, 2) := by decide +kernel
theorem dX5_begin_4 : decode cX5_begin 4 = .ok (.invokestatic 44, 3) := by decide +kernel
theorem dX5_begin_7 : decode cX5_begin 7 = .ok (.ifCond .ne 13, 3) := by decide +kernel
theorem dX5_begin_10 : decode cX5_begin 10 = .ok (.new 113, 3) := by decide +kernel
theorem dX5_begin_13 : decode cX5_begin 13 = .ok (.dup, 1) := by decide +kernel
theorem dX5_begin_14 : decode cX5_begin 14 = .ok (.ldc 127, 2) := by decide +kernel
theorem dX5_begin_16 : decode cX5_begin 16 = .ok (.invokespecial 117, 3) := by decide +kernel
theorem dX5_begin_19 : decode cX5_begin 19 = .ok (.athrow, 1) := by decide +kernel
theorem dX5_begin_20 : decode cX5_begin 20 = .ok (.aload_n 0, 1) := by decide +kernel
theorem dX5_begin_21 : decode cX5_begin 21 = .ok (.iload_n 2, 1) := by decide +kernel
theorem dX5_begin_22 : decode cX5_begin 22 = .ok (.invokevirtual 40, 3) := by decide +kernel
theorem dX5_begin_25 : decode cX5_begin 25 = .ok (.astore_n 3, 1) := by decide +kernel
theorem dX5_begin_26 : decode cX5_begin 26 = .ok (.aload_n 3, 1) := by decide +kernel
theorem dX5_begin_27 : decode cX5_begin 27 = .ok (.getfield 90, 3) := by decide +kernel
theorem dX5_begin_30 : decode cX5_begin 30 = .ok (.ifCond .eq 24, 3) := by decide +kernel
theorem dX5_begin_33 : decode cX5_begin 33 = .ok (.aload_n 0, 1) := by decide +kernel
theorem dX5_begin_34 : decode cX5_begin 34 = .ok (.iload_n 1, 1) := by decide +kernel
theorem dX5_begin_35 : decode cX5_begin 35 = .ok (.aload_n 3, 1) := by decide +kernel
theorem dX5_begin_36 : decode cX5_begin 36 = .ok (.invokevirtual 129, 3) := by decide +kernel
theorem dX5_begin_39 : decode cX5_begin 39 = .ok (.ifCond .ne 15, 3) := by decide +kernel
theorem dX5_begin_42 : decode cX5_begin 42 = .ok (.aload_n 0, 1) := by decide +kernel
theorem dX5_begin_43 : decode cX5_begin 43 = .ok (.getfield 18, 3) := by decide +kernel
theorem dX5_begin_46 : decode cX5_begin 46 = .ok (.invokevirtual 133, 3) := by decide +kernel
theorem dX5_begin_49 : decode cX5_begin 49 = .ok (.bipush 24, 2) := by decide +kernel
theorem dX5_begin_51 : decode cX5_begin 51 = .ok (.if_icmp .lt 13, 3) := by decide +kernel
theorem dX5_begin_54 : decode cX5_begin 54 = .ok (.new 77, 3) := by decide +kernel
theorem dX5_begin_57 : decode cX5_begin 57 = .ok (.dup, 1) := by decide +kernel
theorem dX5_begin_58 : decode cX5_begin 58 = .ok (.ldc 136, 2) := by decide +kernel
theorem dX5_begin_60 : decode cX5_begin 60 = .ok (.invokespecial 81, 3) := by decide +kernel
theorem dX5_begin_63 : decode cX5_begin 63 = .ok (.athrow, 1) := by decide +kernel
theorem dX5_begin_64 : decode cX5_begin 64 = .ok (.new 138, 3) := by decide +kernel
theorem dX5_begin_67 : decode cX5_begin 67 = .ok (.dup, 1) := by decide +kernel
theorem dX5_begin_68 : decode cX5_begin 68 = .ok (.iload_n 1, 1) := by decide +kernel
theorem dX5_begin_69 : decode cX5_begin 69 = .ok (.aload_n 3, 1) := by decide +kernel
theorem dX5_begin_70 : decode cX5_begin 70 = .ok (.invokespecial 140, 3) := by decide +kernel
theorem dX5_begin_73 : decode cX5_begin 73 = .ok (.astore 4, 2) := by decide +kernel
theorem dX5_begin_75 : decode cX5_begin 75 = .ok (.aload_n 0, 1) := by decide +kernel
theorem dX5_begin_76 : decode cX5_begin 76 = .ok (.getfield 18, 3) := by decide +kernel
theorem dX5_begin_79 : decode cX5_begin 79 = .ok (.aload 4, 2) := by decide +kernel
theorem dX5_begin_81 : decode cX5_begin 81 = .ok (.invokevirtual 143, 3) := by decide +kernel
theorem dX5_begin_84 : decode cX5_begin 84 = .ok (.pop, 1) := by decide +kernel
theorem dX5_begin_85 : decode cX5_begin 85 = .ok (.aload_n 0, 1) := by decide +kernel
theorem dX5_begin_86 : decode cX5_begin 86 = .ok (.aload 4, 2) := by decide +kernel
theorem dX5_begin_88 : decode cX5_begin 88 = .ok (.invokevirtual 147, 3) := by decide +kernel
theorem dX5_begin_91 : decode cX5_begin 91 = .ok (.aload_n 0, 1) := by decide +kernel
theorem dX5_begin_92 : decode cX5_begin 92 = .ok (.aload 4, 2) := by decide +kernel
theorem dX5_begin_94 : decode cX5_begin 94 = .ok (.invokevirtual 151, 3) := by decide +kernel
theorem dX5_begin_97 : decode cX5_begin 97 = .ok (.aload_n 0, 1) := by decide +kernel
theorem dX5_begin_98 : decode cX5_begin 98 = .ok (.getfield 18, 3) := by decide +kernel
theorem dX5_begin_101 : decode cX5_begin 101 = .ok (.invokevirtual 133, 3) := by decide +kernel
theorem dX5_begin_104 : decode cX5_begin 104 = .ok (.iconst 1, 1) := by decide +kernel
theorem dX5_begin_105 : decode cX5_begin 105 = .ok (.isub, 1) := by decide +kernel
theorem dX5_begin_106 : decode cX5_begin 106 = .ok (.ireturn, 1) := by decide +kernel
theorem dX5_answer_0 : decode cX5_answer 0 = .ok (.aload_n 0, 1) := by decide +kernel
theorem dX5_answer_1 : decode cX5_answer 1 = .ok (.iload_n 1, 1) := by decide +kernel
theorem dX5_answer_2 : decode cX5_answer 2 = .ok (.invokevirtual 154, 3) := by decide +kernel
theorem dX5_answer_5 : decode cX5_answer 5 = .ok (.astore_n 3, 1) := by decide +kernel
theorem dX5_answer_6 : decode cX5_answer 6 = .ok (.iload_n 2, 1) := by decide +kernel
theorem dX5_answer_7 : decode cX5_answer 7 = .ok (.iconst 0, 1) := by decide +kernel
theorem dX5_answer_8 : decode cX5_answer 8 = .ok (.bipush 9, 2) := by decide +kernel
theorem dX5_answer_10 : decode cX5_answer 10 = .ok (.invokestatic 44, 3) := by decide +kernel
theorem dX5_answer_13 : decode cX5_answer 13 = .ok (.ifCond .ne 13, 3) := by decide +kernel
theorem dX5_answer_16 : decode cX5_answer 16 = .ok (.new 48, 3) := by decide +kernel
theorem dX5_answer_19 : decode cX5_answer 19 = .ok (.dup, 1) := by decide +kernel
theorem dX5_answer_20 : decode cX5_answer 20 = .ok (.ldc 158, 2) := by decide +kernel
theorem dX5_answer_22 : decode cX5_answer 22 = .ok (.invokespecial 52, 3) := by decide +kernel
theorem dX5_answer_25 : decode cX5_answer 25 = .ok (.athrow, 1) := by decide +kernel
theorem dX5_answer_26 : decode cX5_answer 26 = .ok (.aload_n 3, 1) := by decide +kernel
theorem dX5_answer_27 : decode cX5_answer 27 = .ok (.getfield 160, 3) := by decide +kernel
theorem dX5_answer_30 : decode cX5_answer 30 = .ok (.ifCond .ne 16, 3) := by decide +kernel
theorem dX5_answer_33 : decode cX5_answer 33 = .ok (.aload_n 3, 1) := by decide +kernel
theorem dX5_answer_34 : decode cX5_answer 34 = .ok (.getfield 163, 3) := by decide +kernel
theorem dX5_answer_37 : decode cX5_answer 37 = .ok (.invokevirtual 133, 3) := by decide +kernel
theorem dX5_answer_40 : decode cX5_answer 40 = .ok (.sipush 512, 3) := by decide +kernel
theorem dX5_answer_43 : decode cX5_answer 43 = .ok (.if_icmp .lt 13, 3) := by decide +kernel
theorem dX5_answer_46 : decode cX5_answer 46 = .ok (.new 77, 3) := by decide +kernel
theorem dX5_answer_49 : decode cX5_answer 49 = .ok (.dup, 1) := by decide +kernel
theorem dX5_answer_50 : decode cX5_answer 50 = .ok (.ldc 166, 2) := by decide +kernel
theorem dX5_answer_52 : decode cX5_answer 52 = .ok (.invokespecial 81, 3) := by decide +kernel
theorem dX5_answer_55 : decode cX5_answer 55 = .ok (.athrow, 1) := by decide +kernel
theorem dX5_answer_56 : decode cX5_answer 56 = .ok (.aload_n 0, 1) := by decide +kernel
theorem dX5_answer_57 : decode cX5_answer 57 = .ok (.getfield 22, 3) := by decide +kernel
theorem dX5_answer_60 : decode cX5_answer 60 = .ok (.aload_n 3, 1) := by decide +kernel
theorem dX5_answer_61 : decode cX5_answer 61 = .ok (.getfield 168, 3) := by decide +kernel
theorem dX5_answer_64 : decode cX5_answer 64 = .ok (.getfield 171, 3) := by decide +kernel
theorem dX5_answer_67 : decode cX5_answer 67 = .ok (.invokestatic 58, 3) := by decide +kernel
theorem dX5_answer_70 : decode cX5_answer 70 = .ok (.istore 4, 2) := by decide +kernel
theorem dX5_answer_72 : decode cX5_answer 72 = .ok (.aload_n 3, 1) := by decide +kernel
theorem dX5_answer_73 : decode cX5_answer 73 = .ok (.getfield 174, 3) := by decide +kernel
theorem dX5_answer_76 : decode cX5_answer 76 = .ok (.getfield 110, 3) := by decide +kernel
theorem dX5_answer_79 : decode cX5_answer 79 = .ok (.iload 4, 2) := by decide +kernel
theorem dX5_answer_81 : decode cX5_answer 81 = .ok (.if_icmp .ge 13, 3) := by decide +kernel
theorem dX5_answer_84 : decode cX5_answer 84 = .ok (.new 77, 3) := by decide +kernel
theorem dX5_answer_87 : decode cX5_answer 87 = .ok (.dup, 1) := by decide +kernel
theorem dX5_answer_88 : decode cX5_answer 88 = .ok (.ldc 178, 2) := by decide +kernel
theorem dX5_answer_90 : decode cX5_answer 90 = .ok (.invokespecial 81, 3) := by decide +kernel
theorem dX5_answer_93 : decode cX5_answer 93 = .ok (.athrow, 1) := by decide +kernel
theorem dX5_answer_94 : decode cX5_answer 94 = .ok (.aload_n 3, 1) := by decide +kernel
theorem dX5_answer_95 : decode cX5_answer 95 = .ok (.iload_n 2, 1) := by decide +kernel
theorem dX5_answer_96 : decode cX5_answer 96 = .ok (.invokevirtual 180, 3) := by decide +kernel
theorem dX5_answer_99 : decode cX5_answer 99 = .ok (.aload_n 3, 1) := by decide +kernel
theorem dX5_answer_100 : decode cX5_answer 100 = .ok (.dup, 1) := by decide +kernel
theorem dX5_answer_101 : decode cX5_answer 101 = .ok (.getfield 184, 3) := by decide +kernel
theorem dX5_answer_104 : decode cX5_answer 104 = .ok (.iload 4, 2) := by decide +kernel
theorem dX5_answer_106 : decode cX5_answer 106 = .ok (.iadd, 1) := by decide +kernel
theorem dX5_answer_107 : decode cX5_answer 107 = .ok (.putfield 184, 3) := by decide +kernel
theorem dX5_answer_110 : decode cX5_answer 110 = .ok (.aload_n 0, 1) := by decide +kernel
theorem dX5_answer_111 : decode cX5_answer 111 = .ok (.aload_n 3, 1) := by decide +kernel
theorem dX5_answer_112 : decode cX5_answer 112 = .ok (.iload 4, 2) := by decide +kernel
theorem dX5_answer_114 : decode cX5_answer 114 = .ok (.invokevirtual 187, 3) := by decide +kernel
theorem dX5_answer_117 : decode cX5_answer 117 = .ok (.aload_n 3, 1) := by decide +kernel
theorem dX5_answer_118 : decode cX5_answer 118 = .ok (.getfield 168, 3) := by decide +kernel
theorem dX5_answer_121 : decode cX5_answer 121 = .ok (.iload_n 2, 1) := by decide +kernel
theorem dX5_answer_122 : decode cX5_answer 122 = .ok (.invokevirtual 191, 3) := by decide +kernel
theorem dX5_answer_125 : decode cX5_answer 125 = .ok (.aload_n 0, 1) := by decide +kernel
theorem dX5_answer_126 : decode cX5_answer 126 = .ok (.aload_n 3, 1) := by decide +kernel
theorem dX5_answer_127 : decode cX5_answer 127 = .ok (.invokevirtual 151, 3) := by decide +kernel
theorem dX5_answer_130 : decode cX5_answer 130 = .ok (.aload_n 3, 1) := by decide +kernel
theorem dX5_answer_131 : decode cX5_answer 131 = .ok (.getfield 160, 3) := by decide +kernel
theorem dX5_answer_134 : decode cX5_answer 134 = .ok (.ireturn, 1) := by decide +kernel
theorem dX5_save_0 : decode cX5_save 0 = .ok (.aload_n 0, 1) := by decide +kernel
theorem dX5_save_1 : decode cX5_save 1 = .ok (.iload_n 1, 1) := by decide +kernel
theorem dX5_save_2 : decode cX5_save 2 = .ok (.invokevirtual 154, 3) := by decide +kernel
theorem dX5_save_5 : decode cX5_save 5 = .ok (.astore_n 2, 1) := by decide +kernel
theorem dX5_save_6 : decode cX5_save 6 = .ok (.aload_n 2, 1) := by decide +kernel
theorem dX5_save_7 : decode cX5_save 7 = .ok (.getfield 160, 3) := by decide +kernel
theorem dX5_save_10 : decode cX5_save 10 = .ok (.ifCond .eq 13, 3) := by decide +kernel
theorem dX5_save_13 : decode cX5_save 13 = .ok (.new 77, 3) := by decide +kernel
theorem dX5_save_16 : decode cX5_save 16 = .ok (.dup, 1) := by decide +kernel
theorem dX5_save_17 : decode cX5_save 17 = .ok (.ldc 166, 2) := by decide +kernel
theorem dX5_save_19 : decode cX5_save 19 = .ok (.invokespecial 81, 3) := by decide +kernel
theorem dX5_save_22 : decode cX5_save 22 = .ok (.athrow, 1) := by decide +kernel
theorem dX5_save_23 : decode cX5_save 23 = .ok (.aload_n 2, 1) := by decide +kernel
theorem dX5_save_24 : decode cX5_save 24 = .ok (.iconst 1, 1) := by decide +kernel
theorem dX5_save_25 : decode cX5_save 25 = .ok (.putfield 160, 3) := by decide +kernel
theorem dX5_save_28 : decode cX5_save 28 = .ok (.return_, 1) := by decide +kernel
theorem dX5_wake_0 : decode cX5_wake 0 = .ok (.aload_n 0, 1) := by decide +kernel
theorem dX5_wake_1 : decode cX5_wake 1 = .ok (.iload_n 1, 1) := by decide +kernel
theorem dX5_wake_2 : decode cX5_wake 2 = .ok (.invokevirtual 154, 3) := by decide +kernel
theorem dX5_wake_5 : decode cX5_wake 5 = .ok (.astore_n 2, 1) := by decide +kernel
theorem dX5_wake_6 : decode cX5_wake 6 = .ok (.aload_n 2, 1) := by decide +kernel
theorem dX5_wake_7 : decode cX5_wake 7 = .ok (.getfield 160, 3) := by decide +kernel
theorem dX5_wake_10 : decode cX5_wake 10 = .ok (.iconst 1, 1) := by decide +kernel
theorem dX5_wake_11 : decode cX5_wake 11 = .ok (.if_icmp .eq 13, 3) := by decide +kernel
theorem dX5_wake_14 : decode cX5_wake 14 = .ok (.new 77, 3) := by decide +kernel
theorem dX5_wake_17 : decode cX5_wake 17 = .ok (.dup, 1) := by decide +kernel
theorem dX5_wake_18 : decode cX5_wake 18 = .ok (.ldc 194, 2) := by decide +kernel
theorem dX5_wake_20 : decode cX5_wake 20 = .ok (.invokespecial 81, 3) := by decide +kernel
theorem dX5_wake_23 : decode cX5_wake 23 = .ok (.athrow, 1) := by decide +kernel
theorem dX5_wake_24 : decode cX5_wake 24 = .ok (.aload_n 0, 1) := by decide +kernel
theorem dX5_wake_25 : decode cX5_wake 25 = .ok (.aload_n 2, 1) := by decide +kernel
theorem dX5_wake_26 : decode cX5_wake 26 = .ok (.invokevirtual 196, 3) := by decide +kernel
theorem dX5_wake_29 : decode cX5_wake 29 = .ok (.ifCond .ne 10, 3) := by decide +kernel
theorem dX5_wake_32 : decode cX5_wake 32 = .ok (.aload_n 2, 1) := by decide +kernel
theorem dX5_wake_33 : decode cX5_wake 33 = .ok (.iconst 0, 1) := by decide +kernel
theorem dX5_wake_34 : decode cX5_wake 34 = .ok (.putfield 160, 3) := by decide +kernel
theorem dX5_wake_37 : decode cX5_wake 37 = .ok (.iconst 0, 1) := by decide +kernel
theorem dX5_wake_38 : decode cX5_wake 38 = .ok (.ireturn, 1) := by decide +kernel
theorem dX5_wake_39 : decode cX5_wake 39 = .ok (.aload_n 0, 1) := by decide +kernel
theorem dX5_wake_40 : decode cX5_wake 40 = .ok (.aload_n 2, 1) := by decide +kernel
theorem dX5_wake_41 : decode cX5_wake 41 = .ok (.invokevirtual 147, 3) := by decide +kernel
theorem dX5_wake_44 : decode cX5_wake 44 = .ok (.aload_n 0, 1) := by decide +kernel
theorem dX5_wake_45 : decode cX5_wake 45 = .ok (.aload_n 2, 1) := by decide +kernel
theorem dX5_wake_46 : decode cX5_wake 46 = .ok (.invokevirtual 151, 3) := by decide +kernel
theorem dX5_wake_49 : decode cX5_wake 49 = .ok (.iconst 1, 1) := by decide +kernel
theorem dX5_wake_50 : decode cX5_wake 50 = .ok (.ireturn, 1) := by decide +kernel
theorem dX5_leave_0 : decode cX5_leave 0 = .ok (.aload_n 0, 1) := by decide +kernel
theorem dX5_leave_1 : decode cX5_leave 1 = .ok (.iload_n 1, 1) := by decide +kernel
theorem dX5_leave_2 : decode cX5_leave 2 = .ok (.invokevirtual 154, 3) := by decide +kernel
theorem dX5_leave_5 : decode cX5_leave 5 = .ok (.astore_n 2, 1) := by decide +kernel
theorem dX5_leave_6 : decode cX5_leave 6 = .ok (.aload_n 2, 1) := by decide +kernel
theorem dX5_leave_7 : decode cX5_leave 7 = .ok (.getfield 160, 3) := by decide +kernel
theorem dX5_leave_10 : decode cX5_leave 10 = .ok (.ifCond .eq 21, 3) := by decide +kernel
theorem dX5_leave_13 : decode cX5_leave 13 = .ok (.aload_n 2, 1) := by decide +kernel
theorem dX5_leave_14 : decode cX5_leave 14 = .ok (.getfield 160, 3) := by decide +kernel
theorem dX5_leave_17 : decode cX5_leave 17 = .ok (.iconst 1, 1) := by decide +kernel
theorem dX5_leave_18 : decode cX5_leave 18 = .ok (.if_icmp .eq 13, 3) := by decide +kernel
theorem dX5_leave_21 : decode cX5_leave 21 = .ok (.new 77, 3) := by decide +kernel
theorem dX5_leave_24 : decode cX5_leave 24 = .ok (.dup, 1) := by decide +kernel
theorem dX5_leave_25 : decode cX5_leave 25 = .ok (.ldc 200, 2) := by decide +kernel
theorem dX5_leave_27 : decode cX5_leave 27 = .ok (.invokespecial 81, 3) := by decide +kernel
theorem dX5_leave_30 : decode cX5_leave 30 = .ok (.athrow, 1) := by decide +kernel
theorem dX5_leave_31 : decode cX5_leave 31 = .ok (.aload_n 2, 1) := by decide +kernel
theorem dX5_leave_32 : decode cX5_leave 32 = .ok (.bipush 6, 2) := by decide +kernel
theorem dX5_leave_34 : decode cX5_leave 34 = .ok (.putfield 160, 3) := by decide +kernel
theorem dX5_leave_37 : decode cX5_leave 37 = .ok (.aload_n 2, 1) := by decide +kernel
theorem dX5_leave_38 : decode cX5_leave 38 = .ok (.getfield 184, 3) := by decide +kernel
theorem dX5_leave_41 : decode cX5_leave 41 = .ok (.ireturn, 1) := by decide +kernel
theorem dX5_runs_0 : decode cX5_runs 0 = .ok (.aload_n 0, 1) := by decide +kernel
theorem dX5_runs_1 : decode cX5_runs 1 = .ok (.getfield 18, 3) := by decide +kernel
theorem dX5_runs_4 : decode cX5_runs 4 = .ok (.invokevirtual 133, 3) := by decide +kernel
theorem dX5_runs_7 : decode cX5_runs 7 = .ok (.ireturn, 1) := by decide +kernel
theorem dX5_state_0 : decode cX5_state 0 = .ok (.aload_n 0, 1) := by decide +kernel
theorem dX5_state_1 : decode cX5_state 1 = .ok (.iload_n 1, 1) := by decide +kernel
theorem dX5_state_2 : decode cX5_state 2 = .ok (.invokevirtual 154, 3) := by decide +kernel
theorem dX5_state_5 : decode cX5_state 5 = .ok (.getfield 160, 3) := by decide +kernel
theorem dX5_state_8 : decode cX5_state 8 = .ok (.ireturn, 1) := by decide +kernel
theorem dX5_question_0 : decode cX5_question 0 = .ok (.aload_n 0, 1) := by decide +kernel
theorem dX5_question_1 : decode cX5_question 1 = .ok (.iload_n 1, 1) := by decide +kernel
theorem dX5_question_2 : decode cX5_question 2 = .ok (.invokevirtual 154, 3) := by decide +kernel
theorem dX5_question_5 : decode cX5_question 5 = .ok (.astore_n 2, 1) := by decide +kernel
theorem dX5_question_6 : decode cX5_question 6 = .ok (.aload_n 2, 1) := by decide +kernel
theorem dX5_question_7 : decode cX5_question 7 = .ok (.getfield 160, 3) := by decide +kernel
theorem dX5_question_10 : decode cX5_question 10 = .ok (.ifCond .eq 20, 3) := by decide +kernel
theorem dX5_question_13 : decode cX5_question 13 = .ok (.aload_n 2, 1) := by decide +kernel
theorem dX5_question_14 : decode cX5_question 14 = .ok (.getfield 160, 3) := by decide +kernel
theorem dX5_question_17 : decode cX5_question 17 = .ok (.iconst 1, 1) := by decide +kernel
theorem dX5_question_18 : decode cX5_question 18 = .ok (.if_icmp .eq 12, 3) := by decide +kernel
theorem dX5_question_21 : decode cX5_question 21 = .ok (.aload_n 2, 1) := by decide +kernel
theorem dX5_question_22 : decode cX5_question 22 = .ok (.getfield 160, 3) := by decide +kernel
theorem dX5_question_25 : decode cX5_question 25 = .ok (.bipush 6, 2) := by decide +kernel
theorem dX5_question_27 : decode cX5_question 27 = .ok (.if_icmp .ne 7, 3) := by decide +kernel
theorem dX5_question_30 : decode cX5_question 30 = .ok (.iconst 1, 1) := by decide +kernel
theorem dX5_question_31 : decode cX5_question 31 = .ok (.goto 4, 3) := by decide +kernel
theorem dX5_question_34 : decode cX5_question 34 = .ok (.iconst 0, 1) := by decide +kernel
theorem dX5_question_35 : decode cX5_question 35 = .ok (.istore_n 3, 1) := by decide +kernel
theorem dX5_question_36 : decode cX5_question 36 = .ok (.iload_n 3, 1) := by decide +kernel
theorem dX5_question_37 : decode cX5_question 37 = .ok (.ifCond .eq 13, 3) := by decide +kernel
theorem dX5_question_40 : decode cX5_question 40 = .ok (.aload_n 2, 1) := by decide +kernel
theorem dX5_question_41 : decode cX5_question 41 = .ok (.getfield 168, 3) := by decide +kernel
theorem dX5_question_44 : decode cX5_question 44 = .ok (.getfield 171, 3) := by decide +kernel
theorem dX5_question_47 : decode cX5_question 47 = .ok (.goto 4, 3) := by decide +kernel
theorem dX5_question_50 : decode cX5_question 50 = .ok (.iconst (-1), 1) := by decide +kernel
theorem dX5_question_51 : decode cX5_question 51 = .ok (.ireturn, 1) := by decide +kernel
theorem dX5_version_0 : decode cX5_version 0 = .ok (.aload_n 0, 1) := by decide +kernel
theorem dX5_version_1 : decode cX5_version 1 = .ok (.iload_n 1, 1) := by decide +kernel
theorem dX5_version_2 : decode cX5_version 2 = .ok (.invokevirtual 154, 3) := by decide +kernel
theorem dX5_version_5 : decode cX5_version 5 = .ok (.getfield 202, 3) := by decide +kernel
theorem dX5_version_8 : decode cX5_version 8 = .ok (.ireturn, 1) := by decide +kernel
theorem dX5_fuel_0 : decode cX5_fuel 0 = .ok (.aload_n 0, 1) := by decide +kernel
theorem dX5_fuel_1 : decode cX5_fuel 1 = .ok (.iload_n 1, 1) := by decide +kernel
theorem dX5_fuel_2 : decode cX5_fuel 2 = .ok (.invokevirtual 154, 3) := by decide +kernel
theorem dX5_fuel_5 : decode cX5_fuel 5 = .ok (.getfield 168, 3) := by decide +kernel
theorem dX5_fuel_8 : decode cX5_fuel 8 = .ok (.getfield 205, 3) := by decide +kernel
theorem dX5_fuel_11 : decode cX5_fuel 11 = .ok (.ireturn, 1) := by decide +kernel
theorem dX5_fuelAgain_0 : decode cX5_fuelAgain 0 = .ok (.aload_n 0, 1) := by decide +kernel
theorem dX5_fuelAgain_1 : decode cX5_fuelAgain 1 = .ok (.aload_n 0, 1) := by decide +kernel
theorem dX5_fuelAgain_2 : decode cX5_fuelAgain 2 = .ok (.iload_n 1, 1) := by decide +kernel
theorem dX5_fuelAgain_3 : decode cX5_fuelAgain 3 = .ok (.invokevirtual 154, 3) := by decide +kernel
theorem dX5_fuelAgain_6 : decode cX5_fuelAgain 6 = .ok (.invokevirtual 206, 3) := by decide +kernel
theorem dX5_fuelAgain_9 : decode cX5_fuelAgain 9 = .ok (.aload_n 0, 1) := by decide +kernel
theorem dX5_fuelAgain_10 : decode cX5_fuelAgain 10 = .ok (.getfield 35, 3) := by decide +kernel
theorem dX5_fuelAgain_13 : decode cX5_fuelAgain 13 = .ok (.getfield 205, 3) := by decide +kernel
theorem dX5_fuelAgain_16 : decode cX5_fuelAgain 16 = .ok (.ireturn, 1) := by decide +kernel
theorem dX5_slot_0 : decode cX5_slot 0 = .ok (.aload_n 0, 1) := by decide +kernel
theorem dX5_slot_1 : decode cX5_slot 1 = .ok (.iload_n 1, 1) := by decide +kernel
theorem dX5_slot_2 : decode cX5_slot 2 = .ok (.invokevirtual 154, 3) := by decide +kernel
theorem dX5_slot_5 : decode cX5_slot 5 = .ok (.astore_n 3, 1) := by decide +kernel
theorem dX5_slot_6 : decode cX5_slot 6 = .ok (.iload_n 2, 1) := by decide +kernel
theorem dX5_slot_7 : decode cX5_slot 7 = .ok (.iconst 0, 1) := by decide +kernel
theorem dX5_slot_8 : decode cX5_slot 8 = .ok (.bipush 7, 2) := by decide +kernel
theorem dX5_slot_10 : decode cX5_slot 10 = .ok (.invokestatic 44, 3) := by decide +kernel
theorem dX5_slot_13 : decode cX5_slot 13 = .ok (.ifCond .ne 13, 3) := by decide +kernel
theorem dX5_slot_16 : decode cX5_slot 16 = .ok (.new 113, 3) := by decide +kernel
theorem dX5_slot_19 : decode cX5_slot 19 = .ok (.dup, 1) := by decide +kernel
theorem dX5_slot_20 : decode cX5_slot 20 = .ok (.ldc 209, 2) := by decide +kernel
theorem dX5_slot_22 : decode cX5_slot 22 = .ok (.invokespecial 117, 3) := by decide +kernel
theorem dX5_slot_25 : decode cX5_slot 25 = .ok (.athrow, 1) := by decide +kernel
theorem dX5_slot_26 : decode cX5_slot 26 = .ok (.aload_n 3, 1) := by decide +kernel
theorem dX5_slot_27 : decode cX5_slot 27 = .ok (.getfield 168, 3) := by decide +kernel
theorem dX5_slot_30 : decode cX5_slot 30 = .ok (.getfield 211, 3) := by decide +kernel
theorem dX5_slot_33 : decode cX5_slot 33 = .ok (.iload_n 2, 1) := by decide +kernel
theorem dX5_slot_34 : decode cX5_slot 34 = .ok (.iaload, 1) := by decide +kernel
theorem dX5_slot_35 : decode cX5_slot 35 = .ok (.ireturn, 1) := by decide +kernel
theorem dX5_slotAgain_0 : decode cX5_slotAgain 0 = .ok (.aload_n 0, 1) := by decide +kernel
theorem dX5_slotAgain_1 : decode cX5_slotAgain 1 = .ok (.iload_n 1, 1) := by decide +kernel
theorem dX5_slotAgain_2 : decode cX5_slotAgain 2 = .ok (.invokevirtual 154, 3) := by decide +kernel
theorem dX5_slotAgain_5 : decode cX5_slotAgain 5 = .ok (.astore_n 3, 1) := by decide +kernel
theorem dX5_slotAgain_6 : decode cX5_slotAgain 6 = .ok (.iload_n 2, 1) := by decide +kernel
theorem dX5_slotAgain_7 : decode cX5_slotAgain 7 = .ok (.iconst 0, 1) := by decide +kernel
theorem dX5_slotAgain_8 : decode cX5_slotAgain 8 = .ok (.bipush 7, 2) := by decide +kernel
theorem dX5_slotAgain_10 : decode cX5_slotAgain 10 = .ok (.invokestatic 44, 3) := by decide +kernel
theorem dX5_slotAgain_13 : decode cX5_slotAgain 13 = .ok (.ifCond .ne 13, 3) := by decide +kernel
theorem dX5_slotAgain_16 : decode cX5_slotAgain 16 = .ok (.new 113, 3) := by decide +kernel
theorem dX5_slotAgain_19 : decode cX5_slotAgain 19 = .ok (.dup, 1) := by decide +kernel
theorem dX5_slotAgain_20 : decode cX5_slotAgain 20 = .ok (.ldc 209, 2) := by decide +kernel
theorem dX5_slotAgain_22 : decode cX5_slotAgain 22 = .ok (.invokespecial 117, 3) := by decide +kernel
theorem dX5_slotAgain_25 : decode cX5_slotAgain 25 = .ok (.athrow, 1) := by decide +kernel
theorem dX5_slotAgain_26 : decode cX5_slotAgain 26 = .ok (.aload_n 0, 1) := by decide +kernel
theorem dX5_slotAgain_27 : decode cX5_slotAgain 27 = .ok (.aload_n 3, 1) := by decide +kernel
theorem dX5_slotAgain_28 : decode cX5_slotAgain 28 = .ok (.invokevirtual 206, 3) := by decide +kernel
theorem dX5_slotAgain_31 : decode cX5_slotAgain 31 = .ok (.aload_n 0, 1) := by decide +kernel
theorem dX5_slotAgain_32 : decode cX5_slotAgain 32 = .ok (.getfield 35, 3) := by decide +kernel
theorem dX5_slotAgain_35 : decode cX5_slotAgain 35 = .ok (.getfield 211, 3) := by decide +kernel
theorem dX5_slotAgain_38 : decode cX5_slotAgain 38 = .ok (.iload_n 2, 1) := by decide +kernel
theorem dX5_slotAgain_39 : decode cX5_slotAgain 39 = .ok (.iaload, 1) := by decide +kernel
theorem dX5_slotAgain_40 : decode cX5_slotAgain 40 = .ok (.ireturn, 1) := by decide +kernel
theorem dX5_depth_0 : decode cX5_depth 0 = .ok (.aload_n 0, 1) := by decide +kernel
theorem dX5_depth_1 : decode cX5_depth 1 = .ok (.iload_n 1, 1) := by decide +kernel
theorem dX5_depth_2 : decode cX5_depth 2 = .ok (.invokevirtual 154, 3) := by decide +kernel
theorem dX5_depth_5 : decode cX5_depth 5 = .ok (.getfield 168, 3) := by decide +kernel
theorem dX5_depth_8 : decode cX5_depth 8 = .ok (.getfield 214, 3) := by decide +kernel
theorem dX5_depth_11 : decode cX5_depth 11 = .ok (.ireturn, 1) := by decide +kernel
theorem dX5_answers_0 : decode cX5_answers 0 = .ok (.aload_n 0, 1) := by decide +kernel
theorem dX5_answers_1 : decode cX5_answers 1 = .ok (.iload_n 1, 1) := by decide +kernel
theorem dX5_answers_2 : decode cX5_answers 2 = .ok (.invokevirtual 154, 3) := by decide +kernel
theorem dX5_answers_5 : decode cX5_answers 5 = .ok (.getfield 163, 3) := by decide +kernel
theorem dX5_answers_8 : decode cX5_answers 8 = .ok (.invokevirtual 133, 3) := by decide +kernel
theorem dX5_answers_11 : decode cX5_answers 11 = .ok (.ireturn, 1) := by decide +kernel
theorem dX5_answerAt_0 : decode cX5_answerAt 0 = .ok (.aload_n 0, 1) := by decide +kernel
theorem dX5_answerAt_1 : decode cX5_answerAt 1 = .ok (.iload_n 1, 1) := by decide +kernel
theorem dX5_answerAt_2 : decode cX5_answerAt 2 = .ok (.invokevirtual 154, 3) := by decide +kernel
theorem dX5_answerAt_5 : decode cX5_answerAt 5 = .ok (.astore_n 3, 1) := by decide +kernel
theorem dX5_answerAt_6 : decode cX5_answerAt 6 = .ok (.iload_n 2, 1) := by decide +kernel
theorem dX5_answerAt_7 : decode cX5_answerAt 7 = .ok (.iconst 0, 1) := by decide +kernel
theorem dX5_answerAt_8 : decode cX5_answerAt 8 = .ok (.aload_n 3, 1) := by decide +kernel
theorem dX5_answerAt_9 : decode cX5_answerAt 9 = .ok (.getfield 163, 3) := by decide +kernel
theorem dX5_answerAt_12 : decode cX5_answerAt 12 = .ok (.invokevirtual 133, 3) := by decide +kernel
theorem dX5_answerAt_15 : decode cX5_answerAt 15 = .ok (.iconst 1, 1) := by decide +kernel
theorem dX5_answerAt_16 : decode cX5_answerAt 16 = .ok (.isub, 1) := by decide +kernel
theorem dX5_answerAt_17 : decode cX5_answerAt 17 = .ok (.invokestatic 44, 3) := by decide +kernel
theorem dX5_answerAt_20 : decode cX5_answerAt 20 = .ok (.ifCond .ne 13, 3) := by decide +kernel
theorem dX5_answerAt_23 : decode cX5_answerAt 23 = .ok (.new 113, 3) := by decide +kernel
theorem dX5_answerAt_26 : decode cX5_answerAt 26 = .ok (.dup, 1) := by decide +kernel
theorem dX5_answerAt_27 : decode cX5_answerAt 27 = .ok (.ldc 217, 2) := by decide +kernel
theorem dX5_answerAt_29 : decode cX5_answerAt 29 = .ok (.invokespecial 117, 3) := by decide +kernel
theorem dX5_answerAt_32 : decode cX5_answerAt 32 = .ok (.athrow, 1) := by decide +kernel
theorem dX5_answerAt_33 : decode cX5_answerAt 33 = .ok (.aload_n 3, 1) := by decide +kernel
theorem dX5_answerAt_34 : decode cX5_answerAt 34 = .ok (.getfield 163, 3) := by decide +kernel
theorem dX5_answerAt_37 : decode cX5_answerAt 37 = .ok (.iload_n 2, 1) := by decide +kernel
theorem dX5_answerAt_38 : decode cX5_answerAt 38 = .ok (.invokevirtual 219, 3) := by decide +kernel
theorem dX5_answerAt_41 : decode cX5_answerAt 41 = .ok (.checkcast 223, 3) := by decide +kernel
theorem dX5_answerAt_44 : decode cX5_answerAt 44 = .ok (.astore 4, 2) := by decide +kernel
theorem dX5_answerAt_46 : decode cX5_answerAt 46 = .ok (.sipush 1000, 3) := by decide +kernel
theorem dX5_answerAt_49 : decode cX5_answerAt 49 = .ok (.aload 4, 2) := by decide +kernel
theorem dX5_answerAt_51 : decode cX5_answerAt 51 = .ok (.getfield 225, 3) := by decide +kernel
theorem dX5_answerAt_54 : decode cX5_answerAt 54 = .ok (.imul, 1) := by decide +kernel
theorem dX5_answerAt_55 : decode cX5_answerAt 55 = .ok (.bipush 10, 2) := by decide +kernel
theorem dX5_answerAt_57 : decode cX5_answerAt 57 = .ok (.aload 4, 2) := by decide +kernel
theorem dX5_answerAt_59 : decode cX5_answerAt 59 = .ok (.getfield 228, 3) := by decide +kernel
theorem dX5_answerAt_62 : decode cX5_answerAt 62 = .ok (.imul, 1) := by decide +kernel
theorem dX5_answerAt_63 : decode cX5_answerAt 63 = .ok (.iadd, 1) := by decide +kernel
theorem dX5_answerAt_64 : decode cX5_answerAt 64 = .ok (.aload 4, 2) := by decide +kernel
theorem dX5_answerAt_66 : decode cX5_answerAt 66 = .ok (.getfield 229, 3) := by decide +kernel
theorem dX5_answerAt_69 : decode cX5_answerAt 69 = .ok (.iadd, 1) := by decide +kernel
theorem dX5_answerAt_70 : decode cX5_answerAt 70 = .ok (.ireturn, 1) := by decide +kernel
theorem dX5_reward_0 : decode cX5_reward 0 = .ok (.iload_n 1, 1) := by decide +kernel
theorem dX5_reward_1 : decode cX5_reward 1 = .ok (.iconst 0, 1) := by decide +kernel
theorem dX5_reward_2 : decode cX5_reward 2 = .ok (.bipush 15, 2) := by decide +kernel
theorem dX5_reward_4 : decode cX5_reward 4 = .ok (.invokestatic 44, 3) := by decide +kernel
theorem dX5_reward_7 : decode cX5_reward 7 = .ok (.ifCond .ne 13, 3) := by decide +kernel
theorem dX5_reward_10 : decode cX5_reward 10 = .ok (.new 113, 3) := by decide +kernel
theorem dX5_reward_13 : decode cX5_reward 13 = .ok (.dup, 1) := by decide +kernel
theorem dX5_reward_14 : decode cX5_reward 14 = .ok (.ldc 127, 2) := by decide +kernel
theorem dX5_reward_16 : decode cX5_reward 16 = .ok (.invokespecial 117, 3) := by decide +kernel
theorem dX5_reward_19 : decode cX5_reward 19 = .ok (.athrow, 1) := by decide +kernel
theorem dX5_reward_20 : decode cX5_reward 20 = .ok (.aload_n 0, 1) := by decide +kernel
theorem dX5_reward_21 : decode cX5_reward 21 = .ok (.getfield 29, 3) := by decide +kernel
theorem dX5_reward_24 : decode cX5_reward 24 = .ok (.iload_n 1, 1) := by decide +kernel
theorem dX5_reward_25 : decode cX5_reward 25 = .ok (.iaload, 1) := by decide +kernel
theorem dX5_reward_26 : decode cX5_reward 26 = .ok (.ireturn, 1) := by decide +kernel
theorem dX5_budget_0 : decode cX5_budget 0 = .ok (.aload_n 0, 1) := by decide +kernel
theorem dX5_budget_1 : decode cX5_budget 1 = .ok (.iload_n 1, 1) := by decide +kernel
theorem dX5_budget_2 : decode cX5_budget 2 = .ok (.invokevirtual 40, 3) := by decide +kernel
theorem dX5_budget_5 : decode cX5_budget 5 = .ok (.getfield 110, 3) := by decide +kernel
theorem dX5_budget_8 : decode cX5_budget 8 = .ok (.ireturn, 1) := by decide +kernel
theorem dX5_repaid_0 : decode cX5_repaid 0 = .ok (.aload_n 0, 1) := by decide +kernel
theorem dX5_repaid_1 : decode cX5_repaid 1 = .ok (.getfield 232, 3) := by decide +kernel
theorem dX5_repaid_4 : decode cX5_repaid 4 = .ok (.ireturn, 1) := by decide +kernel
theorem dX5_done_0 : decode cX5_done 0 = .ok (.aload_n 0, 1) := by decide +kernel
theorem dX5_done_1 : decode cX5_done 1 = .ok (.iload_n 1, 1) := by decide +kernel
theorem dX5_done_2 : decode cX5_done 2 = .ok (.invokevirtual 40, 3) := by decide +kernel
theorem dX5_done_5 : decode cX5_done 5 = .ok (.astore_n 3, 1) := by decide +kernel
theorem dX5_done_6 : decode cX5_done 6 = .ok (.iload_n 2, 1) := by decide +kernel
theorem dX5_done_7 : decode cX5_done 7 = .ok (.iconst 0, 1) := by decide +kernel
theorem dX5_done_8 : decode cX5_done 8 = .ok (.iconst 3, 1) := by decide +kernel
theorem dX5_done_9 : decode cX5_done 9 = .ok (.invokestatic 44, 3) := by decide +kernel
theorem dX5_done_12 : decode cX5_done 12 = .ok (.ifCond .ne 13, 3) := by decide +kernel
theorem dX5_done_15 : decode cX5_done 15 = .ok (.new 113, 3) := by decide +kernel
theorem dX5_done_18 : decode cX5_done 18 = .ok (.dup, 1) := by decide +kernel
theorem dX5_done_19 : decode cX5_done 19 = .ok (.ldc 115, 2) := by decide +kernel
theorem dX5_done_21 : decode cX5_done 21 = .ok (.invokespecial 117, 3) := by decide +kernel
theorem dX5_done_24 : decode cX5_done 24 = .ok (.athrow, 1) := by decide +kernel
theorem dX5_done_25 : decode cX5_done 25 = .ok (.aload_n 3, 1) := by decide +kernel
theorem dX5_done_26 : decode cX5_done 26 = .ok (.getfield 235, 3) := by decide +kernel
theorem dX5_done_29 : decode cX5_done 29 = .ok (.iload_n 2, 1) := by decide +kernel
theorem dX5_done_30 : decode cX5_done 30 = .ok (.iaload, 1) := by decide +kernel
theorem dX5_done_31 : decode cX5_done 31 = .ok (.ireturn, 1) := by decide +kernel
theorem dX5_formAt_0 : decode cX5_formAt 0 = .ok (.iload_n 1, 1) := by decide +kernel
theorem dX5_formAt_1 : decode cX5_formAt 1 = .ok (.iconst 0, 1) := by decide +kernel
theorem dX5_formAt_2 : decode cX5_formAt 2 = .ok (.iconst 3, 1) := by decide +kernel
theorem dX5_formAt_3 : decode cX5_formAt 3 = .ok (.invokestatic 44, 3) := by decide +kernel
theorem dX5_formAt_6 : decode cX5_formAt 6 = .ok (.ifCond .ne 13, 3) := by decide +kernel
theorem dX5_formAt_9 : decode cX5_formAt 9 = .ok (.new 113, 3) := by decide +kernel
theorem dX5_formAt_12 : decode cX5_formAt 12 = .ok (.dup, 1) := by decide +kernel
theorem dX5_formAt_13 : decode cX5_formAt 13 = .ok (.ldc 238, 2) := by decide +kernel
theorem dX5_formAt_15 : decode cX5_formAt 15 = .ok (.invokespecial 117, 3) := by decide +kernel
theorem dX5_formAt_18 : decode cX5_formAt 18 = .ok (.athrow, 1) := by decide +kernel
theorem dX5_formAt_19 : decode cX5_formAt 19 = .ok (.aload_n 0, 1) := by decide +kernel
theorem dX5_formAt_20 : decode cX5_formAt 20 = .ok (.getfield 11, 3) := by decide +kernel
theorem dX5_formAt_23 : decode cX5_formAt 23 = .ok (.iload_n 1, 1) := by decide +kernel
theorem dX5_formAt_24 : decode cX5_formAt 24 = .ok (.aaload, 1) := by decide +kernel
theorem dX5_formAt_25 : decode cX5_formAt 25 = .ok (.areturn, 1) := by decide +kernel
theorem dX5_runAt_0 : decode cX5_runAt 0 = .ok (.iload_n 1, 1) := by decide +kernel
theorem dX5_runAt_1 : decode cX5_runAt 1 = .ok (.iconst 0, 1) := by decide +kernel
theorem dX5_runAt_2 : decode cX5_runAt 2 = .ok (.aload_n 0, 1) := by decide +kernel
theorem dX5_runAt_3 : decode cX5_runAt 3 = .ok (.getfield 18, 3) := by decide +kernel
theorem dX5_runAt_6 : decode cX5_runAt 6 = .ok (.invokevirtual 133, 3) := by decide +kernel
theorem dX5_runAt_9 : decode cX5_runAt 9 = .ok (.iconst 1, 1) := by decide +kernel
theorem dX5_runAt_10 : decode cX5_runAt 10 = .ok (.isub, 1) := by decide +kernel
theorem dX5_runAt_11 : decode cX5_runAt 11 = .ok (.invokestatic 44, 3) := by decide +kernel
theorem dX5_runAt_14 : decode cX5_runAt 14 = .ok (.ifCond .ne 13, 3) := by decide +kernel
theorem dX5_runAt_17 : decode cX5_runAt 17 = .ok (.new 113, 3) := by decide +kernel
theorem dX5_runAt_20 : decode cX5_runAt 20 = .ok (.dup, 1) := by decide +kernel
theorem dX5_runAt_21 : decode cX5_runAt 21 = .ok (.ldc 240, 2) := by decide +kernel
theorem dX5_runAt_23 : decode cX5_runAt 23 = .ok (.invokespecial 117, 3) := by decide +kernel
theorem dX5_runAt_26 : decode cX5_runAt 26 = .ok (.athrow, 1) := by decide +kernel
theorem dX5_runAt_27 : decode cX5_runAt 27 = .ok (.aload_n 0, 1) := by decide +kernel
theorem dX5_runAt_28 : decode cX5_runAt 28 = .ok (.getfield 18, 3) := by decide +kernel
theorem dX5_runAt_31 : decode cX5_runAt 31 = .ok (.iload_n 1, 1) := by decide +kernel
theorem dX5_runAt_32 : decode cX5_runAt 32 = .ok (.invokevirtual 219, 3) := by decide +kernel
theorem dX5_runAt_35 : decode cX5_runAt 35 = .ok (.checkcast 138, 3) := by decide +kernel
theorem dX5_runAt_38 : decode cX5_runAt 38 = .ok (.areturn, 1) := by decide +kernel
theorem dX5_hasBegun_0 : decode cX5_hasBegun 0 = .ok (.iconst 0, 1) := by decide +kernel
theorem dX5_hasBegun_1 : decode cX5_hasBegun 1 = .ok (.istore_n 3, 1) := by decide +kernel
theorem dX5_hasBegun_2 : decode cX5_hasBegun 2 = .ok (.iload_n 3, 1) := by decide +kernel
theorem dX5_hasBegun_3 : decode cX5_hasBegun 3 = .ok (.aload_n 0, 1) := by decide +kernel
theorem dX5_hasBegun_4 : decode cX5_hasBegun 4 = .ok (.getfield 18, 3) := by decide +kernel
theorem dX5_hasBegun_7 : decode cX5_hasBegun 7 = .ok (.invokevirtual 133, 3) := by decide +kernel
theorem dX5_hasBegun_10 : decode cX5_hasBegun 10 = .ok (.if_icmp .ge 42, 3) := by decide +kernel
theorem dX5_hasBegun_13 : decode cX5_hasBegun 13 = .ok (.aload_n 0, 1) := by decide +kernel
theorem dX5_hasBegun_14 : decode cX5_hasBegun 14 = .ok (.getfield 18, 3) := by decide +kernel
theorem dX5_hasBegun_17 : decode cX5_hasBegun 17 = .ok (.iload_n 3, 1) := by decide +kernel
theorem dX5_hasBegun_18 : decode cX5_hasBegun 18 = .ok (.invokevirtual 219, 3) := by decide +kernel
theorem dX5_hasBegun_21 : decode cX5_hasBegun 21 = .ok (.checkcast 138, 3) := by decide +kernel
theorem dX5_hasBegun_24 : decode cX5_hasBegun 24 = .ok (.astore 4, 2) := by decide +kernel
theorem dX5_hasBegun_26 : decode cX5_hasBegun 26 = .ok (.aload 4, 2) := by decide +kernel
theorem dX5_hasBegun_28 : decode cX5_hasBegun 28 = .ok (.getfield 242, 3) := by decide +kernel
theorem dX5_hasBegun_31 : decode cX5_hasBegun 31 = .ok (.iload_n 1, 1) := by decide +kernel
theorem dX5_hasBegun_32 : decode cX5_hasBegun 32 = .ok (.if_icmp .ne 14, 3) := by decide +kernel
theorem dX5_hasBegun_35 : decode cX5_hasBegun 35 = .ok (.aload 4, 2) := by decide +kernel
theorem dX5_hasBegun_37 : decode cX5_hasBegun 37 = .ok (.getfield 174, 3) := by decide +kernel
theorem dX5_hasBegun_40 : decode cX5_hasBegun 40 = .ok (.aload_n 2, 1) := by decide +kernel
theorem dX5_hasBegun_41 : decode cX5_hasBegun 41 = .ok (.if_acmp .ne 5, 3) := by decide +kernel
theorem dX5_hasBegun_44 : decode cX5_hasBegun 44 = .ok (.iconst 1, 1) := by decide +kernel
theorem dX5_hasBegun_45 : decode cX5_hasBegun 45 = .ok (.ireturn, 1) := by decide +kernel
theorem dX5_hasBegun_46 : decode cX5_hasBegun 46 = .ok (.iinc 3 1, 3) := by decide +kernel
theorem dX5_hasBegun_49 : decode cX5_hasBegun 49 = .ok (.goto (-47), 3) := by decide +kernel
theorem dX5_hasBegun_52 : decode cX5_hasBegun 52 = .ok (.iconst 0, 1) := by decide +kernel
theorem dX5_hasBegun_53 : decode cX5_hasBegun 53 = .ok (.ireturn, 1) := by decide +kernel
theorem dX5_isOutdated_0 : decode cX5_isOutdated 0 = .ok (.aload_n 1, 1) := by decide +kernel
theorem dX5_isOutdated_1 : decode cX5_isOutdated 1 = .ok (.getfield 202, 3) := by decide +kernel
theorem dX5_isOutdated_4 : decode cX5_isOutdated 4 = .ok (.aload_n 1, 1) := by decide +kernel
theorem dX5_isOutdated_5 : decode cX5_isOutdated 5 = .ok (.getfield 174, 3) := by decide +kernel
theorem dX5_isOutdated_8 : decode cX5_isOutdated 8 = .ok (.invokevirtual 98, 3) := by decide +kernel
theorem dX5_isOutdated_11 : decode cX5_isOutdated 11 = .ok (.if_icmp .ge 5, 3) := by decide +kernel
theorem dX5_isOutdated_14 : decode cX5_isOutdated 14 = .ok (.iconst 1, 1) := by decide +kernel
theorem dX5_isOutdated_15 : decode cX5_isOutdated 15 = .ok (.ireturn, 1) := by decide +kernel
theorem dX5_isOutdated_16 : decode cX5_isOutdated 16 = .ok (.iconst 0, 1) := by decide +kernel
theorem dX5_isOutdated_17 : decode cX5_isOutdated 17 = .ok (.istore_n 2, 1) := by decide +kernel
theorem dX5_isOutdated_18 : decode cX5_isOutdated 18 = .ok (.iload_n 2, 1) := by decide +kernel
theorem dX5_isOutdated_19 : decode cX5_isOutdated 19 = .ok (.aload_n 1, 1) := by decide +kernel
theorem dX5_isOutdated_20 : decode cX5_isOutdated 20 = .ok (.getfield 163, 3) := by decide +kernel
theorem dX5_isOutdated_23 : decode cX5_isOutdated 23 = .ok (.invokevirtual 133, 3) := by decide +kernel
theorem dX5_isOutdated_26 : decode cX5_isOutdated 26 = .ok (.if_icmp .ge 71, 3) := by decide +kernel
theorem dX5_isOutdated_29 : decode cX5_isOutdated 29 = .ok (.aload_n 1, 1) := by decide +kernel
theorem dX5_isOutdated_30 : decode cX5_isOutdated 30 = .ok (.getfield 163, 3) := by decide +kernel
theorem dX5_isOutdated_33 : decode cX5_isOutdated 33 = .ok (.iload_n 2, 1) := by decide +kernel
theorem dX5_isOutdated_34 : decode cX5_isOutdated 34 = .ok (.invokevirtual 219, 3) := by decide +kernel
theorem dX5_isOutdated_37 : decode cX5_isOutdated 37 = .ok (.checkcast 223, 3) := by decide +kernel
theorem dX5_isOutdated_40 : decode cX5_isOutdated 40 = .ok (.astore_n 3, 1) := by decide +kernel
theorem dX5_isOutdated_41 : decode cX5_isOutdated 41 = .ok (.aload_n 3, 1) := by decide +kernel
theorem dX5_isOutdated_42 : decode cX5_isOutdated 42 = .ok (.getfield 225, 3) := by decide +kernel
theorem dX5_isOutdated_45 : decode cX5_isOutdated 45 = .ok (.aload_n 1, 1) := by decide +kernel
theorem dX5_isOutdated_46 : decode cX5_isOutdated 46 = .ok (.getfield 245, 3) := by decide +kernel
theorem dX5_isOutdated_49 : decode cX5_isOutdated 49 = .ok (.aload_n 3, 1) := by decide +kernel
theorem dX5_isOutdated_50 : decode cX5_isOutdated 50 = .ok (.getfield 228, 3) := by decide +kernel
theorem dX5_isOutdated_53 : decode cX5_isOutdated 53 = .ok (.invokestatic 58, 3) := by decide +kernel
theorem dX5_isOutdated_56 : decode cX5_isOutdated 56 = .ok (.if_icmp .ne 7, 3) := by decide +kernel
theorem dX5_isOutdated_59 : decode cX5_isOutdated 59 = .ok (.iconst 1, 1) := by decide +kernel
theorem dX5_isOutdated_60 : decode cX5_isOutdated 60 = .ok (.goto 4, 3) := by decide +kernel
theorem dX5_isOutdated_63 : decode cX5_isOutdated 63 = .ok (.iconst 0, 1) := by decide +kernel
theorem dX5_isOutdated_64 : decode cX5_isOutdated 64 = .ok (.istore 4, 2) := by decide +kernel
theorem dX5_isOutdated_66 : decode cX5_isOutdated 66 = .ok (.iload 4, 2) := by decide +kernel
theorem dX5_isOutdated_68 : decode cX5_isOutdated 68 = .ok (.ifCond .eq 23, 3) := by decide +kernel
theorem dX5_isOutdated_71 : decode cX5_isOutdated 71 = .ok (.aload_n 3, 1) := by decide +kernel
theorem dX5_isOutdated_72 : decode cX5_isOutdated 72 = .ok (.getfield 225, 3) := by decide +kernel
theorem dX5_isOutdated_75 : decode cX5_isOutdated 75 = .ok (.aload_n 0, 1) := by decide +kernel
theorem dX5_isOutdated_76 : decode cX5_isOutdated 76 = .ok (.getfield 26, 3) := by decide +kernel
theorem dX5_isOutdated_79 : decode cX5_isOutdated 79 = .ok (.aload_n 3, 1) := by decide +kernel
theorem dX5_isOutdated_80 : decode cX5_isOutdated 80 = .ok (.getfield 228, 3) := by decide +kernel
theorem dX5_isOutdated_83 : decode cX5_isOutdated 83 = .ok (.invokestatic 58, 3) := by decide +kernel
theorem dX5_isOutdated_86 : decode cX5_isOutdated 86 = .ok (.if_icmp .eq 5, 3) := by decide +kernel
theorem dX5_isOutdated_89 : decode cX5_isOutdated 89 = .ok (.iconst 1, 1) := by decide +kernel
theorem dX5_isOutdated_90 : decode cX5_isOutdated 90 = .ok (.ireturn, 1) := by decide +kernel
theorem dX5_isOutdated_91 : decode cX5_isOutdated 91 = .ok (.iinc 2 1, 3) := by decide +kernel
theorem dX5_isOutdated_94 : decode cX5_isOutdated 94 = .ok (.goto (-76), 3) := by decide +kernel
theorem dX5_isOutdated_97 : decode cX5_isOutdated 97 = .ok (.iconst 0, 1) := by decide +kernel
theorem dX5_isOutdated_98 : decode cX5_isOutdated 98 = .ok (.ireturn, 1) := by decide +kernel
theorem dX5_startOver_0 : decode cX5_startOver 0 = .ok (.aload_n 1, 1) := by decide +kernel
theorem dX5_startOver_1 : decode cX5_startOver 1 = .ok (.aload_n 0, 1) := by decide +kernel
theorem dX5_startOver_2 : decode cX5_startOver 2 = .ok (.getfield 26, 3) := by decide +kernel
theorem dX5_startOver_5 : decode cX5_startOver 5 = .ok (.invokevirtual 246, 3) := by decide +kernel
theorem dX5_startOver_8 : decode cX5_startOver 8 = .ok (.aload_n 1, 1) := by decide +kernel
theorem dX5_startOver_9 : decode cX5_startOver 9 = .ok (.getfield 168, 3) := by decide +kernel
theorem dX5_startOver_12 : decode cX5_startOver 12 = .ok (.aload_n 1, 1) := by decide +kernel
theorem dX5_startOver_13 : decode cX5_startOver 13 = .ok (.getfield 250, 3) := by decide +kernel
theorem dX5_startOver_16 : decode cX5_startOver 16 = .ok (.invokevirtual 253, 3) := by decide +kernel
theorem dX5_startOver_19 : decode cX5_startOver 19 = .ok (.return_, 1) := by decide +kernel
theorem dX5_goOn_0 : decode cX5_goOn 0 = .ok (.aload_n 1, 1) := by decide +kernel
theorem dX5_goOn_1 : decode cX5_goOn 1 = .ok (.getfield 168, 3) := by decide +kernel
theorem dX5_goOn_4 : decode cX5_goOn 4 = .ok (.aload_n 1, 1) := by decide +kernel
theorem dX5_goOn_5 : decode cX5_goOn 5 = .ok (.aload_n 1, 1) := by decide +kernel
theorem dX5_goOn_6 : decode cX5_goOn 6 = .ok (.getfield 174, 3) := by decide +kernel
theorem dX5_goOn_9 : decode cX5_goOn 9 = .ok (.aload_n 1, 1) := by decide +kernel
theorem dX5_goOn_10 : decode cX5_goOn 10 = .ok (.getfield 256, 3) := by decide +kernel
theorem dX5_goOn_13 : decode cX5_goOn 13 = .ok (.invokevirtual 259, 3) := by decide +kernel
theorem dX5_goOn_16 : decode cX5_goOn 16 = .ok (.ifCond .eq 7, 3) := by decide +kernel
theorem dX5_goOn_19 : decode cX5_goOn 19 = .ok (.iconst 0, 1) := by decide +kernel
theorem dX5_goOn_20 : decode cX5_goOn 20 = .ok (.goto 6, 3) := by decide +kernel
theorem dX5_goOn_23 : decode cX5_goOn 23 = .ok (.sipush 1000, 3) := by decide +kernel
theorem dX5_goOn_26 : decode cX5_goOn 26 = .ok (.invokevirtual 263, 3) := by decide +kernel
theorem dX5_goOn_29 : decode cX5_goOn 29 = .ok (.aload_n 1, 1) := by decide +kernel
theorem dX5_goOn_30 : decode cX5_goOn 30 = .ok (.aload_n 1, 1) := by decide +kernel
theorem dX5_goOn_31 : decode cX5_goOn 31 = .ok (.getfield 168, 3) := by decide +kernel
theorem dX5_goOn_34 : decode cX5_goOn 34 = .ok (.getfield 265, 3) := by decide +kernel
theorem dX5_goOn_37 : decode cX5_goOn 37 = .ok (.putfield 160, 3) := by decide +kernel
theorem dX5_goOn_40 : decode cX5_goOn 40 = .ok (.aload_n 1, 1) := by decide +kernel
theorem dX5_goOn_41 : decode cX5_goOn 41 = .ok (.getfield 160, 3) := by decide +kernel
theorem dX5_goOn_44 : decode cX5_goOn 44 = .ok (.iconst 2, 1) := by decide +kernel
theorem dX5_goOn_45 : decode cX5_goOn 45 = .ok (.if_icmp .ne 43, 3) := by decide +kernel
theorem dX5_goOn_48 : decode cX5_goOn 48 = .ok (.aload_n 1, 1) := by decide +kernel
theorem dX5_goOn_49 : decode cX5_goOn 49 = .ok (.getfield 174, 3) := by decide +kernel
theorem dX5_goOn_52 : decode cX5_goOn 52 = .ok (.getfield 235, 3) := by decide +kernel
theorem dX5_goOn_55 : decode cX5_goOn 55 = .ok (.aload_n 1, 1) := by decide +kernel
theorem dX5_goOn_56 : decode cX5_goOn 56 = .ok (.getfield 256, 3) := by decide +kernel
theorem dX5_goOn_59 : decode cX5_goOn 59 = .ok (.iconst 1, 1) := by decide +kernel
theorem dX5_goOn_60 : decode cX5_goOn 60 = .ok (.invokestatic 266, 3) := by decide +kernel
theorem dX5_goOn_63 : decode cX5_goOn 63 = .ok (.aload_n 0, 1) := by decide +kernel
theorem dX5_goOn_64 : decode cX5_goOn 64 = .ok (.aload_n 1, 1) := by decide +kernel
theorem dX5_goOn_65 : decode cX5_goOn 65 = .ok (.aload_n 1, 1) := by decide +kernel
theorem dX5_goOn_66 : decode cX5_goOn 66 = .ok (.getfield 168, 3) := by decide +kernel
theorem dX5_goOn_69 : decode cX5_goOn 69 = .ok (.getfield 270, 3) := by decide +kernel
theorem dX5_goOn_72 : decode cX5_goOn 72 = .ok (.aload_n 1, 1) := by decide +kernel
theorem dX5_goOn_73 : decode cX5_goOn 73 = .ok (.getfield 174, 3) := by decide +kernel
theorem dX5_goOn_76 : decode cX5_goOn 76 = .ok (.getfield 110, 3) := by decide +kernel
theorem dX5_goOn_79 : decode cX5_goOn 79 = .ok (.invokestatic 273, 3) := by decide +kernel
theorem dX5_goOn_82 : decode cX5_goOn 82 = .ok (.invokevirtual 187, 3) := by decide +kernel
theorem dX5_goOn_85 : decode cX5_goOn 85 = .ok (.goto 48, 3) := by decide +kernel
theorem dX5_goOn_88 : decode cX5_goOn 88 = .ok (.aload_n 1, 1) := by decide +kernel
theorem dX5_goOn_89 : decode cX5_goOn 89 = .ok (.getfield 160, 3) := by decide +kernel
theorem dX5_goOn_92 : decode cX5_goOn 92 = .ok (.iconst 5, 1) := by decide +kernel
theorem dX5_goOn_93 : decode cX5_goOn 93 = .ok (.if_icmp .eq 11, 3) := by decide +kernel
theorem dX5_goOn_96 : decode cX5_goOn 96 = .ok (.aload_n 1, 1) := by decide +kernel
theorem dX5_goOn_97 : decode cX5_goOn 97 = .ok (.getfield 160, 3) := by decide +kernel
theorem dX5_goOn_100 : decode cX5_goOn 100 = .ok (.iconst 4, 1) := by decide +kernel
theorem dX5_goOn_101 : decode cX5_goOn 101 = .ok (.if_icmp .ne 32, 3) := by decide +kernel
theorem dX5_goOn_104 : decode cX5_goOn 104 = .ok (.aload_n 1, 1) := by decide +kernel
theorem dX5_goOn_105 : decode cX5_goOn 105 = .ok (.getfield 174, 3) := by decide +kernel
theorem dX5_goOn_108 : decode cX5_goOn 108 = .ok (.dup, 1) := by decide +kernel
theorem dX5_goOn_109 : decode cX5_goOn 109 = .ok (.getfield 110, 3) := by decide +kernel
theorem dX5_goOn_112 : decode cX5_goOn 112 = .ok (.aload_n 1, 1) := by decide +kernel
theorem dX5_goOn_113 : decode cX5_goOn 113 = .ok (.getfield 184, 3) := by decide +kernel
theorem dX5_goOn_116 : decode cX5_goOn 116 = .ok (.iadd, 1) := by decide +kernel
theorem dX5_goOn_117 : decode cX5_goOn 117 = .ok (.putfield 110, 3) := by decide +kernel
theorem dX5_goOn_120 : decode cX5_goOn 120 = .ok (.aload_n 0, 1) := by decide +kernel
theorem dX5_goOn_121 : decode cX5_goOn 121 = .ok (.dup, 1) := by decide +kernel
theorem dX5_goOn_122 : decode cX5_goOn 122 = .ok (.getfield 232, 3) := by decide +kernel
theorem dX5_goOn_125 : decode cX5_goOn 125 = .ok (.aload_n 1, 1) := by decide +kernel
theorem dX5_goOn_126 : decode cX5_goOn 126 = .ok (.getfield 184, 3) := by decide +kernel
theorem dX5_goOn_129 : decode cX5_goOn 129 = .ok (.iadd, 1) := by decide +kernel
theorem dX5_goOn_130 : decode cX5_goOn 130 = .ok (.putfield 232, 3) := by decide +kernel
theorem dX5_goOn_133 : decode cX5_goOn 133 = .ok (.return_, 1) := by decide +kernel
theorem dX5_doAgain_0 : decode cX5_doAgain 0 = .ok (.aload_n 0, 1) := by decide +kernel
theorem dX5_doAgain_1 : decode cX5_doAgain 1 = .ok (.getfield 35, 3) := by decide +kernel
theorem dX5_doAgain_4 : decode cX5_doAgain 4 = .ok (.aload_n 1, 1) := by decide +kernel
theorem dX5_doAgain_5 : decode cX5_doAgain 5 = .ok (.getfield 250, 3) := by decide +kernel
theorem dX5_doAgain_8 : decode cX5_doAgain 8 = .ok (.invokevirtual 253, 3) := by decide +kernel
theorem dX5_doAgain_11 : decode cX5_doAgain 11 = .ok (.aload_n 0, 1) := by decide +kernel
theorem dX5_doAgain_12 : decode cX5_doAgain 12 = .ok (.getfield 35, 3) := by decide +kernel
theorem dX5_doAgain_15 : decode cX5_doAgain 15 = .ok (.aload_n 1, 1) := by decide +kernel
theorem dX5_doAgain_16 : decode cX5_doAgain 16 = .ok (.aload_n 1, 1) := by decide +kernel
theorem dX5_doAgain_17 : decode cX5_doAgain 17 = .ok (.getfield 168, 3) := by decide +kernel
theorem dX5_doAgain_20 : decode cX5_doAgain 20 = .ok (.getfield 279, 3) := by decide +kernel
theorem dX5_doAgain_23 : decode cX5_doAgain 23 = .ok (.invokevirtual 263, 3) := by decide +kernel
theorem dX5_doAgain_26 : decode cX5_doAgain 26 = .ok (.return_, 1) := by decide +kernel
theorem dX5_payRespondent_0 : decode cX5_payRespondent 0 = .ok (.aload_n 1, 1) := by decide +kernel
theorem dX5_payRespondent_1 : decode cX5_payRespondent 1 = .ok (.getfield 174, 3) := by decide +kernel
theorem dX5_payRespondent_4 : decode cX5_payRespondent 4 = .ok (.dup, 1) := by decide +kernel
theorem dX5_payRespondent_5 : decode cX5_payRespondent 5 = .ok (.getfield 110, 3) := by decide +kernel
theorem dX5_payRespondent_8 : decode cX5_payRespondent 8 = .ok (.iload_n 2, 1) := by decide +kernel
theorem dX5_payRespondent_9 : decode cX5_payRespondent 9 = .ok (.isub, 1) := by decide +kernel
theorem dX5_payRespondent_10 : decode cX5_payRespondent 10 = .ok (.putfield 110, 3) := by decide +kernel
theorem dX5_payRespondent_13 : decode cX5_payRespondent 13 = .ok (.aload_n 0, 1) := by decide +kernel
theorem dX5_payRespondent_14 : decode cX5_payRespondent 14 = .ok (.getfield 29, 3) := by decide +kernel
theorem dX5_payRespondent_17 : decode cX5_payRespondent 17 = .ok (.aload_n 1, 1) := by decide +kernel
theorem dX5_payRespondent_18 : decode cX5_payRespondent 18 = .ok (.getfield 242, 3) := by decide +kernel
theorem dX5_payRespondent_21 : decode cX5_payRespondent 21 = .ok (.iload_n 2, 1) := by decide +kernel
theorem dX5_payRespondent_22 : decode cX5_payRespondent 22 = .ok (.invokestatic 266, 3) := by decide +kernel
theorem dX5_payRespondent_25 : decode cX5_payRespondent 25 = .ok (.return_, 1) := by decide +kernel
theorem dX5_isWithin_0 : decode cX5_isWithin 0 = .ok (.iload_n 0, 1) := by decide +kernel
theorem dX5_isWithin_1 : decode cX5_isWithin 1 = .ok (.iload_n 1, 1) := by decide +kernel
theorem dX5_isWithin_2 : decode cX5_isWithin 2 = .ok (.if_icmp .lt 12, 3) := by decide +kernel
theorem dX5_isWithin_5 : decode cX5_isWithin 5 = .ok (.iload_n 0, 1) := by decide +kernel
theorem dX5_isWithin_6 : decode cX5_isWithin 6 = .ok (.iload_n 2, 1) := by decide +kernel
theorem dX5_isWithin_7 : decode cX5_isWithin 7 = .ok (.if_icmp .gt 7, 3) := by decide +kernel
theorem dX5_isWithin_10 : decode cX5_isWithin 10 = .ok (.iconst 1, 1) := by decide +kernel
theorem dX5_isWithin_11 : decode cX5_isWithin 11 = .ok (.goto 4, 3) := by decide +kernel
theorem dX5_isWithin_14 : decode cX5_isWithin 14 = .ok (.iconst 0, 1) := by decide +kernel
theorem dX5_isWithin_15 : decode cX5_isWithin 15 = .ok (.ireturn, 1) := by decide +kernel
theorem dX5_at_0 : decode cX5_at 0 = .ok (.iload_n 1, 1) := by decide +kernel
theorem dX5_at_1 : decode cX5_at 1 = .ok (.ifCond .lt 15, 3) := by decide +kernel
theorem dX5_at_4 : decode cX5_at 4 = .ok (.iload_n 1, 1) := by decide +kernel
theorem dX5_at_5 : decode cX5_at 5 = .ok (.aload_n 0, 1) := by decide +kernel
theorem dX5_at_6 : decode cX5_at 6 = .ok (.arraylength, 1) := by decide +kernel
theorem dX5_at_7 : decode cX5_at 7 = .ok (.if_icmp .ge 9, 3) := by decide +kernel
theorem dX5_at_10 : decode cX5_at 10 = .ok (.aload_n 0, 1) := by decide +kernel
theorem dX5_at_11 : decode cX5_at 11 = .ok (.iload_n 1, 1) := by decide +kernel
theorem dX5_at_12 : decode cX5_at 12 = .ok (.iaload, 1) := by decide +kernel
theorem dX5_at_13 : decode cX5_at 13 = .ok (.goto 4, 3) := by decide +kernel
theorem dX5_at_16 : decode cX5_at 16 = .ok (.iconst 0, 1) := by decide +kernel
theorem dX5_at_17 : decode cX5_at 17 = .ok (.ireturn, 1) := by decide +kernel
theorem dX5_addTo_0 : decode cX5_addTo 0 = .ok (.iload_n 1, 1) := by decide +kernel
theorem dX5_addTo_1 : decode cX5_addTo 1 = .ok (.ifCond .lt 16, 3) := by decide +kernel
theorem dX5_addTo_4 : decode cX5_addTo 4 = .ok (.iload_n 1, 1) := by decide +kernel
theorem dX5_addTo_5 : decode cX5_addTo 5 = .ok (.aload_n 0, 1) := by decide +kernel
theorem dX5_addTo_6 : decode cX5_addTo 6 = .ok (.arraylength, 1) := by decide +kernel
theorem dX5_addTo_7 : decode cX5_addTo 7 = .ok (.if_icmp .ge 10, 3) := by decide +kernel
theorem dX5_addTo_10 : decode cX5_addTo 10 = .ok (.aload_n 0, 1) := by decide +kernel
theorem dX5_addTo_11 : decode cX5_addTo 11 = .ok (.iload_n 1, 1) := by decide +kernel
theorem dX5_addTo_12 : decode cX5_addTo 12 = .ok (.dup2, 1) := by decide +kernel
theorem dX5_addTo_13 : decode cX5_addTo 13 = .ok (.iaload, 1) := by decide +kernel
theorem dX5_addTo_14 : decode cX5_addTo 14 = .ok (.iload_n 2, 1) := by decide +kernel
theorem dX5_addTo_15 : decode cX5_addTo 15 = .ok (.iadd, 1) := by decide +kernel
theorem dX5_addTo_16 : decode cX5_addTo 16 = .ok (.iastore, 1) := by decide +kernel
theorem dX5_addTo_17 : decode cX5_addTo 17 = .ok (.return_, 1) := by decide +kernel
theorem dJ9_max_7cf53_0 : decode cJ9_max_7cf53 0 = .ok (.iload_n 0, 1) := by decide +kernel
theorem dJ9_max_7cf53_1 : decode cJ9_max_7cf53 1 = .ok (.iload_n 1, 1) := by decide +kernel
theorem dJ9_max_7cf53_2 : decode cJ9_max_7cf53 2 = .ok (.if_icmp .lt 7, 3) := by decide +kernel
theorem dJ9_max_7cf53_5 : decode cJ9_max_7cf53 5 = .ok (.iload_n 0, 1) := by decide +kernel
theorem dJ9_max_7cf53_6 : decode cJ9_max_7cf53 6 = .ok (.goto 4, 3) := by decide +kernel
theorem dJ9_max_7cf53_9 : decode cJ9_max_7cf53 9 = .ok (.iload_n 1, 1) := by decide +kernel
theorem dJ9_max_7cf53_10 : decode cJ9_max_7cf53 10 = .ok (.ireturn, 1) := by decide +kernel
theorem dJ9_min_7cf53_0 : decode cJ9_min_7cf53 0 = .ok (.iload_n 0, 1) := by decide +kernel
theorem dJ9_min_7cf53_1 : decode cJ9_min_7cf53 1 = .ok (.iload_n 1, 1) := by decide +kernel
theorem dJ9_min_7cf53_2 : decode cJ9_min_7cf53 2 = .ok (.if_icmp .gt 7, 3) := by decide +kernel
theorem dJ9_min_7cf53_5 : decode cJ9_min_7cf53 5 = .ok (.iload_n 0, 1) := by decide +kernel
theorem dJ9_min_7cf53_6 : decode cJ9_min_7cf53 6 = .ok (.goto 4, 3) := by decide +kernel
theorem dJ9_min_7cf53_9 : decode cJ9_min_7cf53 9 = .ok (.iload_n 1, 1) := by decide +kernel
theorem dJ9_min_7cf53_10 : decode cJ9_min_7cf53 10 = .ok (.ireturn, 1) := by decide +kernel
theorem dJxa1e45_init_da8c8_0 : decode cJxa1e45_init_da8c8 0 = .ok (.aload_n 0, 1) := by decide +kernel
theorem dJxa1e45_init_da8c8_1 : decode cJxa1e45_init_da8c8 1 = .ok (.invokespecial 1, 3) := by decide +kernel
theorem dJxa1e45_init_da8c8_4 : decode cJxa1e45_init_da8c8 4 = .ok (.return_, 1) := by decide +kernel
theorem dJxc12de_init_da8c8_0 : decode cJxc12de_init_da8c8 0 = .ok (.aload_n 0, 1) := by decide +kernel
theorem dJxc12de_init_da8c8_1 : decode cJxc12de_init_da8c8 1 = .ok (.invokespecial 1, 3) := by decide +kernel
theorem dJxc12de_init_da8c8_4 : decode cJxc12de_init_da8c8 4 = .ok (.aload_n 0, 1) := by decide +kernel
theorem dJxc12de_init_da8c8_5 : decode cJxc12de_init_da8c8 5 = .ok (.iconst 0, 1) := by decide +kernel
theorem dJxc12de_init_da8c8_6 : decode cJxc12de_init_da8c8 6 = .ok (.putfield 7, 3) := by decide +kernel
theorem dJxc12de_init_da8c8_9 : decode cJxc12de_init_da8c8 9 = .ok (.return_, 1) := by decide +kernel
theorem dJx4a65c_init_da8c8_0 : decode cJx4a65c_init_da8c8 0 = .ok (.aload_n 0, 1) := by decide +kernel
theorem dJx4a65c_init_da8c8_1 : decode cJx4a65c_init_da8c8 1 = .ok (.invokespecial 1, 3) := by decide +kernel
theorem dJx4a65c_init_da8c8_4 : decode cJx4a65c_init_da8c8 4 = .ok (.aload_n 0, 1) := by decide +kernel
theorem dJx4a65c_init_da8c8_5 : decode cJx4a65c_init_da8c8 5 = .ok (.getstatic 39, 3) := by decide +kernel
theorem dJx4a65c_init_da8c8_8 : decode cJx4a65c_init_da8c8 8 = .ok (.putfield 9, 3) := by decide +kernel
theorem dJx4a65c_init_da8c8_11 : decode cJx4a65c_init_da8c8 11 = .ok (.return_, 1) := by decide +kernel
theorem dJx4a65c_grow_92f84_0 : decode cJx4a65c_grow_92f84 0 = .ok (.aload_n 0, 1) := by decide +kernel
theorem dJx4a65c_grow_92f84_1 : decode cJx4a65c_grow_92f84 1 = .ok (.getfield 9, 3) := by decide +kernel
theorem dJx4a65c_grow_92f84_4 : decode cJx4a65c_grow_92f84 4 = .ok (.arraylength, 1) := by decide +kernel
theorem dJx4a65c_grow_92f84_5 : decode cJx4a65c_grow_92f84 5 = .ok (.istore_n 2, 1) := by decide +kernel
theorem dJx4a65c_grow_92f84_6 : decode cJx4a65c_grow_92f84 6 = .ok (.iload_n 2, 1) := by decide +kernel
theorem dJx4a65c_grow_92f84_7 : decode cJx4a65c_grow_92f84 7 = .ok (.ifCond .gt 13, 3) := by decide +kernel
theorem dJx4a65c_grow_92f84_10 : decode cJx4a65c_grow_92f84 10 = .ok (.aload_n 0, 1) := by decide +kernel
theorem dJx4a65c_grow_92f84_11 : decode cJx4a65c_grow_92f84 11 = .ok (.getfield 9, 3) := by decide +kernel
theorem dJx4a65c_grow_92f84_14 : decode cJx4a65c_grow_92f84 14 = .ok (.getstatic 39, 3) := by decide +kernel
theorem dJx4a65c_grow_92f84_17 : decode cJx4a65c_grow_92f84 17 = .ok (.if_acmp .eq 28, 3) := by decide +kernel
theorem dJx4a65c_grow_92f84_20 : decode cJx4a65c_grow_92f84 20 = .ok (.iload_n 2, 1) := by decide +kernel
theorem dJx4a65c_grow_92f84_21 : decode cJx4a65c_grow_92f84 21 = .ok (.iload_n 1, 1) := by decide +kernel
theorem dJx4a65c_grow_92f84_22 : decode cJx4a65c_grow_92f84 22 = .ok (.iload_n 2, 1) := by decide +kernel
theorem dJx4a65c_grow_92f84_23 : decode cJx4a65c_grow_92f84 23 = .ok (.isub, 1) := by decide +kernel
theorem dJx4a65c_grow_92f84_24 : decode cJx4a65c_grow_92f84 24 = .ok (.iload_n 2, 1) := by decide +kernel
theorem dJx4a65c_grow_92f84_25 : decode cJx4a65c_grow_92f84 25 = .ok (.iconst 1, 1) := by decide +kernel
theorem dJx4a65c_grow_92f84_26 : decode cJx4a65c_grow_92f84 26 = .ok (.ishr, 1) := by decide +kernel
theorem dJx4a65c_grow_92f84_27 : decode cJx4a65c_grow_92f84 27 = .ok (.invokestatic 73, 3) := by decide +kernel
theorem dJx4a65c_grow_92f84_30 : decode cJx4a65c_grow_92f84 30 = .ok (.istore_n 3, 1) := by decide +kernel
theorem dJx4a65c_grow_92f84_31 : decode cJx4a65c_grow_92f84 31 = .ok (.aload_n 0, 1) := by decide +kernel
theorem dJx4a65c_grow_92f84_32 : decode cJx4a65c_grow_92f84 32 = .ok (.aload_n 0, 1) := by decide +kernel
theorem dJx4a65c_grow_92f84_33 : decode cJx4a65c_grow_92f84 33 = .ok (.getfield 9, 3) := by decide +kernel
theorem dJx4a65c_grow_92f84_36 : decode cJx4a65c_grow_92f84 36 = .ok (.iload_n 3, 1) := by decide +kernel
theorem dJx4a65c_grow_92f84_37 : decode cJx4a65c_grow_92f84 37 = .ok (.invokestatic 66, 3) := by decide +kernel
theorem dJx4a65c_grow_92f84_40 : decode cJx4a65c_grow_92f84 40 = .ok (.dup_x1, 1) := by decide +kernel
theorem dJx4a65c_grow_92f84_41 : decode cJx4a65c_grow_92f84 41 = .ok (.putfield 9, 3) := by decide +kernel
theorem dJx4a65c_grow_92f84_44 : decode cJx4a65c_grow_92f84 44 = .ok (.areturn, 1) := by decide +kernel
theorem dJx4a65c_grow_92f84_45 : decode cJx4a65c_grow_92f84 45 = .ok (.aload_n 0, 1) := by decide +kernel
theorem dJx4a65c_grow_92f84_46 : decode cJx4a65c_grow_92f84 46 = .ok (.bipush 10, 2) := by decide +kernel
theorem dJx4a65c_grow_92f84_48 : decode cJx4a65c_grow_92f84 48 = .ok (.iload_n 1, 1) := by decide +kernel
theorem dJx4a65c_grow_92f84_49 : decode cJx4a65c_grow_92f84 49 = .ok (.invokestatic 79, 3) := by decide +kernel
theorem dJx4a65c_grow_92f84_52 : decode cJx4a65c_grow_92f84 52 = .ok (.anewarray 7, 3) := by decide +kernel
theorem dJx4a65c_grow_92f84_55 : decode cJx4a65c_grow_92f84 55 = .ok (.dup_x1, 1) := by decide +kernel
theorem dJx4a65c_grow_92f84_56 : decode cJx4a65c_grow_92f84 56 = .ok (.putfield 9, 3) := by decide +kernel
theorem dJx4a65c_grow_92f84_59 : decode cJx4a65c_grow_92f84 59 = .ok (.areturn, 1) := by decide +kernel
theorem dJx4a65c_grow_d5877_0 : decode cJx4a65c_grow_d5877 0 = .ok (.aload_n 0, 1) := by decide +kernel
theorem dJx4a65c_grow_d5877_1 : decode cJx4a65c_grow_d5877 1 = .ok (.aload_n 0, 1) := by decide +kernel
theorem dJx4a65c_grow_d5877_2 : decode cJx4a65c_grow_d5877 2 = .ok (.getfield 48, 3) := by decide +kernel
theorem dJx4a65c_grow_d5877_5 : decode cJx4a65c_grow_d5877 5 = .ok (.iconst 1, 1) := by decide +kernel
theorem dJx4a65c_grow_d5877_6 : decode cJx4a65c_grow_d5877 6 = .ok (.iadd, 1) := by decide +kernel
theorem dJx4a65c_grow_d5877_7 : decode cJx4a65c_grow_d5877 7 = .ok (.invokevirtual 69, 3) := by decide +kernel
theorem dJx4a65c_grow_d5877_10 : decode cJx4a65c_grow_d5877 10 = .ok (.areturn, 1) := by decide +kernel
theorem dJx4a65c_size_8abf5_0 : decode cJx4a65c_size_8abf5 0 = .ok (.aload_n 0, 1) := by decide +kernel
theorem dJx4a65c_size_8abf5_1 : decode cJx4a65c_size_8abf5 1 = .ok (.getfield 48, 3) := by decide +kernel
theorem dJx4a65c_size_8abf5_4 : decode cJx4a65c_size_8abf5 4 = .ok (.ireturn, 1) := by decide +kernel
theorem dJx4a65c_elementData_915e3_0 : decode cJx4a65c_elementData_915e3 0 = .ok (.aload_n 0, 1) := by decide +kernel
theorem dJx4a65c_elementData_915e3_1 : decode cJx4a65c_elementData_915e3 1 = .ok (.getfield 9, 3) := by decide +kernel
theorem dJx4a65c_elementData_915e3_4 : decode cJx4a65c_elementData_915e3 4 = .ok (.iload_n 1, 1) := by decide +kernel
theorem dJx4a65c_elementData_915e3_5 : decode cJx4a65c_elementData_915e3 5 = .ok (.aaload, 1) := by decide +kernel
theorem dJx4a65c_elementData_915e3_6 : decode cJx4a65c_elementData_915e3 6 = .ok (.areturn, 1) := by decide +kernel
theorem dJx4a65c_get_915e3_0 : decode cJx4a65c_get_915e3 0 = .ok (.iload_n 1, 1) := by decide +kernel
theorem dJx4a65c_get_915e3_1 : decode cJx4a65c_get_915e3 1 = .ok (.aload_n 0, 1) := by decide +kernel
theorem dJx4a65c_get_915e3_2 : decode cJx4a65c_get_915e3 2 = .ok (.getfield 48, 3) := by decide +kernel
theorem dJx4a65c_get_915e3_5 : decode cJx4a65c_get_915e3 5 = .ok (.invokestatic 118, 3) := by decide +kernel
theorem dJx4a65c_get_915e3_8 : decode cJx4a65c_get_915e3 8 = .ok (.pop, 1) := by decide +kernel
theorem dJx4a65c_get_915e3_9 : decode cJx4a65c_get_915e3 9 = .ok (.aload_n 0, 1) := by decide +kernel
theorem dJx4a65c_get_915e3_10 : decode cJx4a65c_get_915e3 10 = .ok (.iload_n 1, 1) := by decide +kernel
theorem dJx4a65c_get_915e3_11 : decode cJx4a65c_get_915e3 11 = .ok (.invokevirtual 123, 3) := by decide +kernel
theorem dJx4a65c_get_915e3_14 : decode cJx4a65c_get_915e3 14 = .ok (.areturn, 1) := by decide +kernel
theorem dJx4a65c_add_72be8_0 : decode cJx4a65c_add_72be8 0 = .ok (.iload_n 3, 1) := by decide +kernel
theorem dJx4a65c_add_72be8_1 : decode cJx4a65c_add_72be8 1 = .ok (.aload_n 2, 1) := by decide +kernel
theorem dJx4a65c_add_72be8_2 : decode cJx4a65c_add_72be8 2 = .ok (.arraylength, 1) := by decide +kernel
theorem dJx4a65c_add_72be8_3 : decode cJx4a65c_add_72be8 3 = .ok (.if_icmp .ne 8, 3) := by decide +kernel
theorem dJx4a65c_add_72be8_6 : decode cJx4a65c_add_72be8 6 = .ok (.aload_n 0, 1) := by decide +kernel
theorem dJx4a65c_add_72be8_7 : decode cJx4a65c_add_72be8 7 = .ok (.invokevirtual 129, 3) := by decide +kernel
theorem dJx4a65c_add_72be8_10 : decode cJx4a65c_add_72be8 10 = .ok (.astore_n 2, 1) := by decide +kernel
theorem dJx4a65c_add_72be8_11 : decode cJx4a65c_add_72be8 11 = .ok (.aload_n 2, 1) := by decide +kernel
theorem dJx4a65c_add_72be8_12 : decode cJx4a65c_add_72be8 12 = .ok (.iload_n 3, 1) := by decide +kernel
theorem dJx4a65c_add_72be8_13 : decode cJx4a65c_add_72be8 13 = .ok (.aload_n 1, 1) := by decide +kernel
theorem dJx4a65c_add_72be8_14 : decode cJx4a65c_add_72be8 14 = .ok (.aastore, 1) := by decide +kernel
theorem dJx4a65c_add_72be8_15 : decode cJx4a65c_add_72be8 15 = .ok (.aload_n 0, 1) := by decide +kernel
theorem dJx4a65c_add_72be8_16 : decode cJx4a65c_add_72be8 16 = .ok (.iload_n 3, 1) := by decide +kernel
theorem dJx4a65c_add_72be8_17 : decode cJx4a65c_add_72be8 17 = .ok (.iconst 1, 1) := by decide +kernel
theorem dJx4a65c_add_72be8_18 : decode cJx4a65c_add_72be8 18 = .ok (.iadd, 1) := by decide +kernel
theorem dJx4a65c_add_72be8_19 : decode cJx4a65c_add_72be8 19 = .ok (.putfield 48, 3) := by decide +kernel
theorem dJx4a65c_add_72be8_22 : decode cJx4a65c_add_72be8 22 = .ok (.return_, 1) := by decide +kernel
theorem dJx4a65c_add_9ea2d_0 : decode cJx4a65c_add_9ea2d 0 = .ok (.aload_n 0, 1) := by decide +kernel
theorem dJx4a65c_add_9ea2d_1 : decode cJx4a65c_add_9ea2d 1 = .ok (.dup, 1) := by decide +kernel
theorem dJx4a65c_add_9ea2d_2 : decode cJx4a65c_add_9ea2d 2 = .ok (.getfield 63, 3) := by decide +kernel
theorem dJx4a65c_add_9ea2d_5 : decode cJx4a65c_add_9ea2d 5 = .ok (.iconst 1, 1) := by decide +kernel
theorem dJx4a65c_add_9ea2d_6 : decode cJx4a65c_add_9ea2d 6 = .ok (.iadd, 1) := by decide +kernel
theorem dJx4a65c_add_9ea2d_7 : decode cJx4a65c_add_9ea2d 7 = .ok (.putfield 63, 3) := by decide +kernel
theorem dJx4a65c_add_9ea2d_10 : decode cJx4a65c_add_9ea2d 10 = .ok (.aload_n 0, 1) := by decide +kernel
theorem dJx4a65c_add_9ea2d_11 : decode cJx4a65c_add_9ea2d 11 = .ok (.aload_n 1, 1) := by decide +kernel
theorem dJx4a65c_add_9ea2d_12 : decode cJx4a65c_add_9ea2d 12 = .ok (.aload_n 0, 1) := by decide +kernel
theorem dJx4a65c_add_9ea2d_13 : decode cJx4a65c_add_9ea2d 13 = .ok (.getfield 9, 3) := by decide +kernel
theorem dJx4a65c_add_9ea2d_16 : decode cJx4a65c_add_9ea2d 16 = .ok (.aload_n 0, 1) := by decide +kernel
theorem dJx4a65c_add_9ea2d_17 : decode cJx4a65c_add_9ea2d 17 = .ok (.getfield 48, 3) := by decide +kernel
theorem dJx4a65c_add_9ea2d_20 : decode cJx4a65c_add_9ea2d 20 = .ok (.invokevirtual 131, 3) := by decide +kernel
theorem dJx4a65c_add_9ea2d_23 : decode cJx4a65c_add_9ea2d 23 = .ok (.iconst 1, 1) := by decide +kernel
theorem dJx4a65c_add_9ea2d_24 : decode cJx4a65c_add_9ea2d 24 = .ok (.ireturn, 1) := by decide +kernel
theorem dJ7_copyOf_1904c_0 : decode cJ7_copyOf_1904c 0 = .ok (.aload_n 0, 1) := by decide +kernel
theorem dJ7_copyOf_1904c_1 : decode cJ7_copyOf_1904c 1 = .ok (.iload_n 1, 1) := by decide +kernel
theorem dJ7_copyOf_1904c_2 : decode cJ7_copyOf_1904c 2 = .ok (.aload_n 0, 1) := by decide +kernel
theorem dJ7_copyOf_1904c_3 : decode cJ7_copyOf_1904c 3 = .ok (.invokevirtual 86, 3) := by decide +kernel
theorem dJ7_copyOf_1904c_6 : decode cJ7_copyOf_1904c 6 = .ok (.invokestatic 300, 3) := by decide +kernel
theorem dJ7_copyOf_1904c_9 : decode cJ7_copyOf_1904c 9 = .ok (.areturn, 1) := by decide +kernel
theorem dJ7_copyOf_6403c_0 : decode cJ7_copyOf_6403c 0 = .ok (.aload_n 2, 1) := by decide +kernel
theorem dJ7_copyOf_6403c_1 : decode cJ7_copyOf_6403c 1 = .ok (.ldc 110, 2) := by decide +kernel
theorem dJ7_copyOf_6403c_3 : decode cJ7_copyOf_6403c 3 = .ok (.if_acmp .ne 10, 3) := by decide +kernel
theorem dJ7_copyOf_6403c_6 : decode cJ7_copyOf_6403c 6 = .ok (.iload_n 1, 1) := by decide +kernel
theorem dJ7_copyOf_6403c_7 : decode cJ7_copyOf_6403c 7 = .ok (.anewarray 2, 3) := by decide +kernel
theorem dJ7_copyOf_6403c_10 : decode cJ7_copyOf_6403c 10 = .ok (.goto 14, 3) := by decide +kernel
theorem dJ7_copyOf_6403c_13 : decode cJ7_copyOf_6403c 13 = .ok (.aload_n 2, 1) := by decide +kernel
theorem dJ7_copyOf_6403c_14 : decode cJ7_copyOf_6403c 14 = .ok (.invokevirtual 90, 3) := by decide +kernel
theorem dJ7_copyOf_6403c_17 : decode cJ7_copyOf_6403c 17 = .ok (.iload_n 1, 1) := by decide +kernel
theorem dJ7_copyOf_6403c_18 : decode cJ7_copyOf_6403c 18 = .ok (.invokestatic 95, 3) := by decide +kernel
theorem dJ7_copyOf_6403c_21 : decode cJ7_copyOf_6403c 21 = .ok (.checkcast 110, 3) := by decide +kernel
theorem dJ7_copyOf_6403c_24 : decode cJ7_copyOf_6403c 24 = .ok (.astore_n 3, 1) := by decide +kernel
theorem dJ7_copyOf_6403c_25 : decode cJ7_copyOf_6403c 25 = .ok (.aload_n 0, 1) := by decide +kernel
theorem dJ7_copyOf_6403c_26 : decode cJ7_copyOf_6403c 26 = .ok (.iconst 0, 1) := by decide +kernel
theorem dJ7_copyOf_6403c_27 : decode cJ7_copyOf_6403c 27 = .ok (.aload_n 3, 1) := by decide +kernel
theorem dJ7_copyOf_6403c_28 : decode cJ7_copyOf_6403c 28 = .ok (.iconst 0, 1) := by decide +kernel
theorem dJ7_copyOf_6403c_29 : decode cJ7_copyOf_6403c 29 = .ok (.aload_n 0, 1) := by decide +kernel
theorem dJ7_copyOf_6403c_30 : decode cJ7_copyOf_6403c 30 = .ok (.arraylength, 1) := by decide +kernel
theorem dJ7_copyOf_6403c_31 : decode cJ7_copyOf_6403c 31 = .ok (.iload_n 1, 1) := by decide +kernel
theorem dJ7_copyOf_6403c_32 : decode cJ7_copyOf_6403c 32 = .ok (.invokestatic 304, 3) := by decide +kernel
theorem dJ7_copyOf_6403c_35 : decode cJ7_copyOf_6403c 35 = .ok (.invokestatic 150, 3) := by decide +kernel
theorem dJ7_copyOf_6403c_38 : decode cJ7_copyOf_6403c 38 = .ok (.aload_n 3, 1) := by decide +kernel
theorem dJ7_copyOf_6403c_39 : decode cJ7_copyOf_6403c 39 = .ok (.areturn, 1) := by decide +kernel
theorem dJ15_checkIndex_7cf53_0 : decode cJ15_checkIndex_7cf53 0 = .ok (.iload_n 0, 1) := by decide +kernel
theorem dJ15_checkIndex_7cf53_1 : decode cJ15_checkIndex_7cf53 1 = .ok (.iload_n 1, 1) := by decide +kernel
theorem dJ15_checkIndex_7cf53_2 : decode cJ15_checkIndex_7cf53 2 = .ok (.aconst_null, 1) := by decide +kernel
theorem dJ15_checkIndex_7cf53_3 : decode cJ15_checkIndex_7cf53 3 = .ok (.invokestatic 105, 3) := by decide +kernel
theorem dJ15_checkIndex_7cf53_6 : decode cJ15_checkIndex_7cf53 6 = .ok (.ireturn, 1) := by decide +kernel
theorem dJ8_newLength_cabcc_0 : decode cJ8_newLength_cabcc 0 = .ok (.iload_n 0, 1) := by decide +kernel
theorem dJ8_newLength_cabcc_1 : decode cJ8_newLength_cabcc 1 = .ok (.iload_n 1, 1) := by decide +kernel
theorem dJ8_newLength_cabcc_2 : decode cJ8_newLength_cabcc 2 = .ok (.iload_n 2, 1) := by decide +kernel
theorem dJ8_newLength_cabcc_3 : decode cJ8_newLength_cabcc 3 = .ok (.invokestatic 194, 3) := by decide +kernel
theorem dJ8_newLength_cabcc_6 : decode cJ8_newLength_cabcc 6 = .ok (.iadd, 1) := by decide +kernel
theorem dJ8_newLength_cabcc_7 : decode cJ8_newLength_cabcc 7 = .ok (.istore_n 3, 1) := by decide +kernel
theorem dJ8_newLength_cabcc_8 : decode cJ8_newLength_cabcc 8 = .ok (.iconst 0, 1) := by decide +kernel
theorem dJ8_newLength_cabcc_9 : decode cJ8_newLength_cabcc 9 = .ok (.iload_n 3, 1) := by decide +kernel
theorem dJ8_newLength_cabcc_10 : decode cJ8_newLength_cabcc 10 = .ok (.if_icmp .ge 11, 3) := by decide +kernel
theorem dJ8_newLength_cabcc_13 : decode cJ8_newLength_cabcc 13 = .ok (.iload_n 3, 1) := by decide +kernel
theorem dJ8_newLength_cabcc_14 : decode cJ8_newLength_cabcc 14 = .ok (.ldc 200, 2) := by decide +kernel
theorem dJ8_newLength_cabcc_16 : decode cJ8_newLength_cabcc 16 = .ok (.if_icmp .gt 5, 3) := by decide +kernel
theorem dJ8_newLength_cabcc_19 : decode cJ8_newLength_cabcc 19 = .ok (.iload_n 3, 1) := by decide +kernel
theorem dJ8_newLength_cabcc_20 : decode cJ8_newLength_cabcc 20 = .ok (.ireturn, 1) := by decide +kernel
theorem dJ8_newLength_cabcc_21 : decode cJ8_newLength_cabcc 21 = .ok (.iload_n 0, 1) := by decide +kernel
theorem dJ8_newLength_cabcc_22 : decode cJ8_newLength_cabcc 22 = .ok (.iload_n 1, 1) := by decide +kernel
theorem dJ8_newLength_cabcc_23 : decode cJ8_newLength_cabcc 23 = .ok (.invokestatic 201, 3) := by decide +kernel
theorem dJ8_newLength_cabcc_26 : decode cJ8_newLength_cabcc 26 = .ok (.ireturn, 1) := by decide +kernel
theorem dJ8_hugeLength_7cf53_0 : decode cJ8_hugeLength_7cf53 0 = .ok (.iload_n 0, 1) := by decide +kernel
theorem dJ8_hugeLength_7cf53_1 : decode cJ8_hugeLength_7cf53 1 = .ok (.iload_n 1, 1) := by decide +kernel
theorem dJ8_hugeLength_7cf53_2 : decode cJ8_hugeLength_7cf53 2 = .ok (.iadd, 1) := by decide +kernel
theorem dJ8_hugeLength_7cf53_3 : decode cJ8_hugeLength_7cf53 3 = .ok (.istore_n 2, 1) := by decide +kernel
theorem dJ8_hugeLength_7cf53_4 : decode cJ8_hugeLength_7cf53 4 = .ok (.iload_n 2, 1) := by decide +kernel
theorem dJ8_hugeLength_7cf53_5 : decode cJ8_hugeLength_7cf53 5 = .ok (.ifCond .ge 44, 3) := by decide +kernel
theorem dJ8_hugeLength_7cf53_8 : decode cJ8_hugeLength_7cf53 8 = .ok (.new 204, 3) := by decide +kernel
theorem dJ8_hugeLength_7cf53_11 : decode cJ8_hugeLength_7cf53 11 = .ok (.dup, 1) := by decide +kernel
theorem dJ8_hugeLength_7cf53_12 : decode cJ8_hugeLength_7cf53 12 = .ok (.new 89, 3) := by decide +kernel
theorem dJ8_hugeLength_7cf53_15 : decode cJ8_hugeLength_7cf53 15 = .ok (.dup, 1) := by decide +kernel
theorem dJ8_hugeLength_7cf53_16 : decode cJ8_hugeLength_7cf53 16 = .ok (.invokespecial 91, 3) := by decide +kernel
theorem dJ8_hugeLength_7cf53_19 : decode cJ8_hugeLength_7cf53 19 = .ok (.ldc 206, 2) := by decide +kernel
theorem dJ8_hugeLength_7cf53_21 : decode cJ8_hugeLength_7cf53 21 = .ok (.invokevirtual 94, 3) := by decide +kernel
theorem dJ8_hugeLength_7cf53_24 : decode cJ8_hugeLength_7cf53 24 = .ok (.iload_n 0, 1) := by decide +kernel
theorem dJ8_hugeLength_7cf53_25 : decode cJ8_hugeLength_7cf53 25 = .ok (.invokevirtual 98, 3) := by decide +kernel
theorem dJ8_hugeLength_7cf53_28 : decode cJ8_hugeLength_7cf53 28 = .ok (.ldc 208, 2) := by decide +kernel
theorem dJ8_hugeLength_7cf53_30 : decode cJ8_hugeLength_7cf53 30 = .ok (.invokevirtual 94, 3) := by decide +kernel
theorem dJ8_hugeLength_7cf53_33 : decode cJ8_hugeLength_7cf53 33 = .ok (.iload_n 1, 1) := by decide +kernel
theorem dJ8_hugeLength_7cf53_34 : decode cJ8_hugeLength_7cf53 34 = .ok (.invokevirtual 98, 3) := by decide +kernel
theorem dJ8_hugeLength_7cf53_37 : decode cJ8_hugeLength_7cf53 37 = .ok (.ldc 210, 2) := by decide +kernel
theorem dJ8_hugeLength_7cf53_39 : decode cJ8_hugeLength_7cf53 39 = .ok (.invokevirtual 94, 3) := by decide +kernel
theorem dJ8_hugeLength_7cf53_42 : decode cJ8_hugeLength_7cf53 42 = .ok (.invokevirtual 101, 3) := by decide +kernel
theorem dJ8_hugeLength_7cf53_45 : decode cJ8_hugeLength_7cf53 45 = .ok (.invokespecial 212, 3) := by decide +kernel
theorem dJ8_hugeLength_7cf53_48 : decode cJ8_hugeLength_7cf53 48 = .ok (.athrow, 1) := by decide +kernel
theorem dJ8_hugeLength_7cf53_49 : decode cJ8_hugeLength_7cf53 49 = .ok (.iload_n 2, 1) := by decide +kernel
theorem dJ8_hugeLength_7cf53_50 : decode cJ8_hugeLength_7cf53 50 = .ok (.ldc 200, 2) := by decide +kernel
theorem dJ8_hugeLength_7cf53_52 : decode cJ8_hugeLength_7cf53 52 = .ok (.if_icmp .gt 6, 3) := by decide +kernel
theorem dJ8_hugeLength_7cf53_55 : decode cJ8_hugeLength_7cf53 55 = .ok (.ldc 200, 2) := by decide +kernel
theorem dJ8_hugeLength_7cf53_57 : decode cJ8_hugeLength_7cf53 57 = .ok (.ireturn, 1) := by decide +kernel
theorem dJ8_hugeLength_7cf53_58 : decode cJ8_hugeLength_7cf53 58 = .ok (.iload_n 2, 1) := by decide +kernel
theorem dJ8_hugeLength_7cf53_59 : decode cJ8_hugeLength_7cf53 59 = .ok (.ireturn, 1) := by decide +kernel
theorem dJ3_checkIndex_8e157_0 : decode cJ3_checkIndex_8e157 0 = .ok (.iload_n 0, 1) := by decide +kernel
theorem dJ3_checkIndex_8e157_1 : decode cJ3_checkIndex_8e157 1 = .ok (.ifCond .lt 8, 3) := by decide +kernel
theorem dJ3_checkIndex_8e157_4 : decode cJ3_checkIndex_8e157 4 = .ok (.iload_n 0, 1) := by decide +kernel
theorem dJ3_checkIndex_8e157_5 : decode cJ3_checkIndex_8e157 5 = .ok (.iload_n 1, 1) := by decide +kernel
theorem dJ3_checkIndex_8e157_6 : decode cJ3_checkIndex_8e157 6 = .ok (.if_icmp .lt 10, 3) := by decide +kernel
theorem dJ3_checkIndex_8e157_9 : decode cJ3_checkIndex_8e157 9 = .ok (.aload_n 2, 1) := by decide +kernel
theorem dJ3_checkIndex_8e157_10 : decode cJ3_checkIndex_8e157 10 = .ok (.iload_n 0, 1) := by decide +kernel
theorem dJ3_checkIndex_8e157_11 : decode cJ3_checkIndex_8e157 11 = .ok (.iload_n 1, 1) := by decide +kernel
theorem dJ3_checkIndex_8e157_12 : decode cJ3_checkIndex_8e157 12 = .ok (.invokestatic 95, 3) := by decide +kernel
theorem dJ3_checkIndex_8e157_15 : decode cJ3_checkIndex_8e157 15 = .ok (.athrow, 1) := by decide +kernel
theorem dJ3_checkIndex_8e157_16 : decode cJ3_checkIndex_8e157 16 = .ok (.iload_n 0, 1) := by decide +kernel
theorem dJ3_checkIndex_8e157_17 : decode cJ3_checkIndex_8e157 17 = .ok (.ireturn, 1) := by decide +kernel

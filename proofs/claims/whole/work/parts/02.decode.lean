theorem dX0_init_0 : decode cX0_init 0 = .ok (.aload_n 0, 1) := by decide +kernel
theorem dX0_init_1 : decode cX0_init 1 = .ok (.invokespecial 1, 3) := by decide +kernel
theorem dX0_init_4 : decode cX0_init 4 = .ok (.aload_n 0, 1) := by decide +kernel
theorem dX0_init_5 : decode cX0_init 5 = .ok (.iload_n 1, 1) := by decide +kernel
theorem dX0_init_6 : decode cX0_init 6 = .ok (.putfield 7, 3) := by decide +kernel
theorem dX0_init_9 : decode cX0_init 9 = .ok (.aload_n 0, 1) := by decide +kernel
theorem dX0_init_10 : decode cX0_init 10 = .ok (.iload_n 2, 1) := by decide +kernel
theorem dX0_init_11 : decode cX0_init 11 = .ok (.putfield 13, 3) := by decide +kernel
theorem dX0_init_14 : decode cX0_init 14 = .ok (.aload_n 0, 1) := by decide +kernel
theorem dX0_init_15 : decode cX0_init 15 = .ok (.iload_n 3, 1) := by decide +kernel
theorem dX0_init_16 : decode cX0_init 16 = .ok (.putfield 16, 3) := by decide +kernel
theorem dX0_init_19 : decode cX0_init 19 = .ok (.return_, 1) := by decide +kernel
theorem dX1_init_0 : decode cX1_init 0 = .ok (.aload_n 0, 1) := by decide +kernel
theorem dX1_init_1 : decode cX1_init 1 = .ok (.invokespecial 3, 3) := by decide +kernel
theorem dX1_init_4 : decode cX1_init 4 = .ok (.aload_n 0, 1) := by decide +kernel
theorem dX1_init_5 : decode cX1_init 5 = .ok (.bipush 24, 2) := by decide +kernel
theorem dX1_init_7 : decode cX1_init 7 = .ok (.newarray .int, 2) := by decide +kernel
theorem dX1_init_9 : decode cX1_init 9 = .ok (.putfield 9, 3) := by decide +kernel
theorem dX1_init_12 : decode cX1_init 12 = .ok (.aload_n 0, 1) := by decide +kernel
theorem dX1_init_13 : decode cX1_init 13 = .ok (.bipush 24, 2) := by decide +kernel
theorem dX1_init_15 : decode cX1_init 15 = .ok (.newarray .int, 2) := by decide +kernel
theorem dX1_init_17 : decode cX1_init 17 = .ok (.putfield 15, 3) := by decide +kernel
theorem dX1_init_20 : decode cX1_init 20 = .ok (.return_, 1) := by decide +kernel
theorem dX1_isFull_0 : decode cX1_isFull 0 = .ok (.aload_n 0, 1) := by decide +kernel
theorem dX1_isFull_1 : decode cX1_isFull 1 = .ok (.getfield 18, 3) := by decide +kernel
theorem dX1_isFull_4 : decode cX1_isFull 4 = .ok (.bipush 24, 2) := by decide +kernel
theorem dX1_isFull_6 : decode cX1_isFull 6 = .ok (.if_icmp .lt 7, 3) := by decide +kernel
theorem dX1_isFull_9 : decode cX1_isFull 9 = .ok (.iconst 1, 1) := by decide +kernel
theorem dX1_isFull_10 : decode cX1_isFull 10 = .ok (.goto 4, 3) := by decide +kernel
theorem dX1_isFull_13 : decode cX1_isFull 13 = .ok (.iconst 0, 1) := by decide +kernel
theorem dX1_isFull_14 : decode cX1_isFull 14 = .ok (.ireturn, 1) := by decide +kernel
theorem dX1_append_0 : decode cX1_append 0 = .ok (.aload_n 0, 1) := by decide +kernel
theorem dX1_append_1 : decode cX1_append 1 = .ok (.invokevirtual 22, 3) := by decide +kernel
theorem dX1_append_4 : decode cX1_append 4 = .ok (.ifCond .eq 4, 3) := by decide +kernel
theorem dX1_append_7 : decode cX1_append 7 = .ok (.return_, 1) := by decide +kernel
theorem dX1_append_8 : decode cX1_append 8 = .ok (.aload_n 0, 1) := by decide +kernel
theorem dX1_append_9 : decode cX1_append 9 = .ok (.getfield 9, 3) := by decide +kernel
theorem dX1_append_12 : decode cX1_append 12 = .ok (.aload_n 0, 1) := by decide +kernel
theorem dX1_append_13 : decode cX1_append 13 = .ok (.getfield 18, 3) := by decide +kernel
theorem dX1_append_16 : decode cX1_append 16 = .ok (.iload_n 1, 1) := by decide +kernel
theorem dX1_append_17 : decode cX1_append 17 = .ok (.iastore, 1) := by decide +kernel
theorem dX1_append_18 : decode cX1_append 18 = .ok (.aload_n 0, 1) := by decide +kernel
theorem dX1_append_19 : decode cX1_append 19 = .ok (.getfield 15, 3) := by decide +kernel
theorem dX1_append_22 : decode cX1_append 22 = .ok (.aload_n 0, 1) := by decide +kernel
theorem dX1_append_23 : decode cX1_append 23 = .ok (.getfield 18, 3) := by decide +kernel
theorem dX1_append_26 : decode cX1_append 26 = .ok (.iload_n 2, 1) := by decide +kernel
theorem dX1_append_27 : decode cX1_append 27 = .ok (.iastore, 1) := by decide +kernel
theorem dX1_append_28 : decode cX1_append 28 = .ok (.aload_n 0, 1) := by decide +kernel
theorem dX1_append_29 : decode cX1_append 29 = .ok (.dup, 1) := by decide +kernel
theorem dX1_append_30 : decode cX1_append 30 = .ok (.getfield 18, 3) := by decide +kernel
theorem dX1_append_33 : decode cX1_append 33 = .ok (.iconst 1, 1) := by decide +kernel
theorem dX1_append_34 : decode cX1_append 34 = .ok (.iadd, 1) := by decide +kernel
theorem dX1_append_35 : decode cX1_append 35 = .ok (.putfield 18, 3) := by decide +kernel
theorem dX1_append_38 : decode cX1_append 38 = .ok (.return_, 1) := by decide +kernel
theorem dX2_init_0 : decode cX2_init 0 = .ok (.aload_n 0, 1) := by decide +kernel
theorem dX2_init_1 : decode cX2_init 1 = .ok (.invokespecial 3, 3) := by decide +kernel
theorem dX2_init_4 : decode cX2_init 4 = .ok (.aload_n 0, 1) := by decide +kernel
theorem dX2_init_5 : decode cX2_init 5 = .ok (.new 9, 3) := by decide +kernel
theorem dX2_init_8 : decode cX2_init 8 = .ok (.dup, 1) := by decide +kernel
theorem dX2_init_9 : decode cX2_init 9 = .ok (.invokespecial 11, 3) := by decide +kernel
theorem dX2_init_12 : decode cX2_init 12 = .ok (.putfield 12, 3) := by decide +kernel
theorem dX2_init_15 : decode cX2_init 15 = .ok (.aload_n 0, 1) := by decide +kernel
theorem dX2_init_16 : decode cX2_init 16 = .ok (.new 9, 3) := by decide +kernel
theorem dX2_init_19 : decode cX2_init 19 = .ok (.dup, 1) := by decide +kernel
theorem dX2_init_20 : decode cX2_init 20 = .ok (.invokespecial 11, 3) := by decide +kernel
theorem dX2_init_23 : decode cX2_init 23 = .ok (.putfield 18, 3) := by decide +kernel
theorem dX2_init_26 : decode cX2_init 26 = .ok (.aload_n 0, 1) := by decide +kernel
theorem dX2_init_27 : decode cX2_init 27 = .ok (.bipush 60, 2) := by decide +kernel
theorem dX2_init_29 : decode cX2_init 29 = .ok (.putfield 21, 3) := by decide +kernel
theorem dX2_init_32 : decode cX2_init 32 = .ok (.aload_n 0, 1) := by decide +kernel
theorem dX2_init_33 : decode cX2_init 33 = .ok (.iconst 4, 1) := by decide +kernel
theorem dX2_init_34 : decode cX2_init 34 = .ok (.newarray .int, 2) := by decide +kernel
theorem dX2_init_36 : decode cX2_init 36 = .ok (.putfield 25, 3) := by decide +kernel
theorem dX2_init_39 : decode cX2_init 39 = .ok (.aload_n 0, 1) := by decide +kernel
theorem dX2_init_40 : decode cX2_init 40 = .ok (.iconst 4, 1) := by decide +kernel
theorem dX2_init_41 : decode cX2_init 41 = .ok (.newarray .int, 2) := by decide +kernel
theorem dX2_init_43 : decode cX2_init 43 = .ok (.putfield 29, 3) := by decide +kernel
theorem dX2_init_46 : decode cX2_init 46 = .ok (.iconst 0, 1) := by decide +kernel
theorem dX2_init_47 : decode cX2_init 47 = .ok (.istore_n 1, 1) := by decide +kernel
theorem dX2_init_48 : decode cX2_init 48 = .ok (.iload_n 1, 1) := by decide +kernel
theorem dX2_init_49 : decode cX2_init 49 = .ok (.iconst 4, 1) := by decide +kernel
theorem dX2_init_50 : decode cX2_init 50 = .ok (.if_icmp .ge 17, 3) := by decide +kernel
theorem dX2_init_53 : decode cX2_init 53 = .ok (.aload_n 0, 1) := by decide +kernel
theorem dX2_init_54 : decode cX2_init 54 = .ok (.getfield 25, 3) := by decide +kernel
theorem dX2_init_57 : decode cX2_init 57 = .ok (.iload_n 1, 1) := by decide +kernel
theorem dX2_init_58 : decode cX2_init 58 = .ok (.bipush 20, 2) := by decide +kernel
theorem dX2_init_60 : decode cX2_init 60 = .ok (.iastore, 1) := by decide +kernel
theorem dX2_init_61 : decode cX2_init 61 = .ok (.iinc 1 1, 3) := by decide +kernel
theorem dX2_init_64 : decode cX2_init 64 = .ok (.goto (-16), 3) := by decide +kernel
theorem dX2_init_67 : decode cX2_init 67 = .ok (.return_, 1) := by decide +kernel
theorem dX2_makeVersion_0 : decode cX2_makeVersion 0 = .ok (.aload_n 0, 1) := by decide +kernel
theorem dX2_makeVersion_1 : decode cX2_makeVersion 1 = .ok (.aload_n 0, 1) := by decide +kernel
theorem dX2_makeVersion_2 : decode cX2_makeVersion 2 = .ok (.getfield 12, 3) := by decide +kernel
theorem dX2_makeVersion_5 : decode cX2_makeVersion 5 = .ok (.putfield 18, 3) := by decide +kernel
theorem dX2_makeVersion_8 : decode cX2_makeVersion 8 = .ok (.aload_n 0, 1) := by decide +kernel
theorem dX2_makeVersion_9 : decode cX2_makeVersion 9 = .ok (.new 9, 3) := by decide +kernel
theorem dX2_makeVersion_12 : decode cX2_makeVersion 12 = .ok (.dup, 1) := by decide +kernel
theorem dX2_makeVersion_13 : decode cX2_makeVersion 13 = .ok (.invokespecial 11, 3) := by decide +kernel
theorem dX2_makeVersion_16 : decode cX2_makeVersion 16 = .ok (.putfield 12, 3) := by decide +kernel
theorem dX2_makeVersion_19 : decode cX2_makeVersion 19 = .ok (.aload_n 0, 1) := by decide +kernel
theorem dX2_makeVersion_20 : decode cX2_makeVersion 20 = .ok (.dup, 1) := by decide +kernel
theorem dX2_makeVersion_21 : decode cX2_makeVersion 21 = .ok (.getfield 32, 3) := by decide +kernel
theorem dX2_makeVersion_24 : decode cX2_makeVersion 24 = .ok (.iconst 1, 1) := by decide +kernel
theorem dX2_makeVersion_25 : decode cX2_makeVersion 25 = .ok (.iadd, 1) := by decide +kernel
theorem dX2_makeVersion_26 : decode cX2_makeVersion 26 = .ok (.putfield 32, 3) := by decide +kernel
theorem dX2_makeVersion_29 : decode cX2_makeVersion 29 = .ok (.return_, 1) := by decide +kernel
theorem dX2_newestNumber_0 : decode cX2_newestNumber 0 = .ok (.aload_n 0, 1) := by decide +kernel
theorem dX2_newestNumber_1 : decode cX2_newestNumber 1 = .ok (.getfield 32, 3) := by decide +kernel
theorem dX2_newestNumber_4 : decode cX2_newestNumber 4 = .ok (.iconst 1, 1) := by decide +kernel
theorem dX2_newestNumber_5 : decode cX2_newestNumber 5 = .ok (.isub, 1) := by decide +kernel
theorem dX2_newestNumber_6 : decode cX2_newestNumber 6 = .ok (.ireturn, 1) := by decide +kernel
theorem dX2_isFullFor_0 : decode cX2_isFullFor 0 = .ok (.aload_n 0, 1) := by decide +kernel
theorem dX2_isFullFor_1 : decode cX2_isFullFor 1 = .ok (.getfield 29, 3) := by decide +kernel
theorem dX2_isFullFor_4 : decode cX2_isFullFor 4 = .ok (.iload_n 1, 1) := by decide +kernel
theorem dX2_isFullFor_5 : decode cX2_isFullFor 5 = .ok (.invokestatic 35, 3) := by decide +kernel
theorem dX2_isFullFor_8 : decode cX2_isFullFor 8 = .ok (.aload_n 0, 1) := by decide +kernel
theorem dX2_isFullFor_9 : decode cX2_isFullFor 9 = .ok (.getfield 25, 3) := by decide +kernel
theorem dX2_isFullFor_12 : decode cX2_isFullFor 12 = .ok (.iload_n 1, 1) := by decide +kernel
theorem dX2_isFullFor_13 : decode cX2_isFullFor 13 = .ok (.invokestatic 35, 3) := by decide +kernel
theorem dX2_isFullFor_16 : decode cX2_isFullFor 16 = .ok (.if_icmp .lt 7, 3) := by decide +kernel
theorem dX2_isFullFor_19 : decode cX2_isFullFor 19 = .ok (.iconst 1, 1) := by decide +kernel
theorem dX2_isFullFor_20 : decode cX2_isFullFor 20 = .ok (.goto 4, 3) := by decide +kernel
theorem dX2_isFullFor_23 : decode cX2_isFullFor 23 = .ok (.iconst 0, 1) := by decide +kernel
theorem dX2_isFullFor_24 : decode cX2_isFullFor 24 = .ok (.ireturn, 1) := by decide +kernel
theorem dX3_init_0 : decode cX3_init 0 = .ok (.aload_n 0, 1) := by decide +kernel
theorem dX3_init_1 : decode cX3_init 1 = .ok (.invokespecial 3, 3) := by decide +kernel
theorem dX3_init_4 : decode cX3_init 4 = .ok (.aload_n 0, 1) := by decide +kernel
theorem dX3_init_5 : decode cX3_init 5 = .ok (.bipush 8, 2) := by decide +kernel
theorem dX3_init_7 : decode cX3_init 7 = .ok (.newarray .int, 2) := by decide +kernel
theorem dX3_init_9 : decode cX3_init 9 = .ok (.putfield 9, 3) := by decide +kernel
theorem dX3_init_12 : decode cX3_init 12 = .ok (.aload_n 0, 1) := by decide +kernel
theorem dX3_init_13 : decode cX3_init 13 = .ok (.bipush 8, 2) := by decide +kernel
theorem dX3_init_15 : decode cX3_init 15 = .ok (.newarray .int, 2) := by decide +kernel
theorem dX3_init_17 : decode cX3_init 17 = .ok (.putfield 15, 3) := by decide +kernel
theorem dX3_init_20 : decode cX3_init 20 = .ok (.aload_n 0, 1) := by decide +kernel
theorem dX3_init_21 : decode cX3_init 21 = .ok (.bipush 16, 2) := by decide +kernel
theorem dX3_init_23 : decode cX3_init 23 = .ok (.newarray .int, 2) := by decide +kernel
theorem dX3_init_25 : decode cX3_init 25 = .ok (.putfield 18, 3) := by decide +kernel
theorem dX3_init_28 : decode cX3_init 28 = .ok (.return_, 1) := by decide +kernel
theorem dX3_reset_0 : decode cX3_reset 0 = .ok (.iconst 0, 1) := by decide +kernel
theorem dX3_reset_1 : decode cX3_reset 1 = .ok (.istore_n 2, 1) := by decide +kernel
theorem dX3_reset_2 : decode cX3_reset 2 = .ok (.iload_n 2, 1) := by decide +kernel
theorem dX3_reset_3 : decode cX3_reset 3 = .ok (.bipush 8, 2) := by decide +kernel
theorem dX3_reset_5 : decode cX3_reset 5 = .ok (.if_icmp .ge 16, 3) := by decide +kernel
theorem dX3_reset_8 : decode cX3_reset 8 = .ok (.aload_n 0, 1) := by decide +kernel
theorem dX3_reset_9 : decode cX3_reset 9 = .ok (.getfield 15, 3) := by decide +kernel
theorem dX3_reset_12 : decode cX3_reset 12 = .ok (.iload_n 2, 1) := by decide +kernel
theorem dX3_reset_13 : decode cX3_reset 13 = .ok (.iconst 0, 1) := by decide +kernel
theorem dX3_reset_14 : decode cX3_reset 14 = .ok (.iastore, 1) := by decide +kernel
theorem dX3_reset_15 : decode cX3_reset 15 = .ok (.iinc 2 1, 3) := by decide +kernel
theorem dX3_reset_18 : decode cX3_reset 18 = .ok (.goto (-16), 3) := by decide +kernel
theorem dX3_reset_21 : decode cX3_reset 21 = .ok (.iconst 0, 1) := by decide +kernel
theorem dX3_reset_22 : decode cX3_reset 22 = .ok (.istore_n 2, 1) := by decide +kernel
theorem dX3_reset_23 : decode cX3_reset 23 = .ok (.iload_n 2, 1) := by decide +kernel
theorem dX3_reset_24 : decode cX3_reset 24 = .ok (.bipush 16, 2) := by decide +kernel
theorem dX3_reset_26 : decode cX3_reset 26 = .ok (.if_icmp .ge 16, 3) := by decide +kernel
theorem dX3_reset_29 : decode cX3_reset 29 = .ok (.aload_n 0, 1) := by decide +kernel
theorem dX3_reset_30 : decode cX3_reset 30 = .ok (.getfield 18, 3) := by decide +kernel
theorem dX3_reset_33 : decode cX3_reset 33 = .ok (.iload_n 2, 1) := by decide +kernel
theorem dX3_reset_34 : decode cX3_reset 34 = .ok (.iconst 0, 1) := by decide +kernel
theorem dX3_reset_35 : decode cX3_reset 35 = .ok (.iastore, 1) := by decide +kernel
theorem dX3_reset_36 : decode cX3_reset 36 = .ok (.iinc 2 1, 3) := by decide +kernel
theorem dX3_reset_39 : decode cX3_reset 39 = .ok (.goto (-16), 3) := by decide +kernel
theorem dX3_reset_42 : decode cX3_reset 42 = .ok (.aload_n 0, 1) := by decide +kernel
theorem dX3_reset_43 : decode cX3_reset 43 = .ok (.iconst 0, 1) := by decide +kernel
theorem dX3_reset_44 : decode cX3_reset 44 = .ok (.putfield 21, 3) := by decide +kernel
theorem dX3_reset_47 : decode cX3_reset 47 = .ok (.aload_n 0, 1) := by decide +kernel
theorem dX3_reset_48 : decode cX3_reset 48 = .ok (.iconst 0, 1) := by decide +kernel
theorem dX3_reset_49 : decode cX3_reset 49 = .ok (.putfield 25, 3) := by decide +kernel
theorem dX3_reset_52 : decode cX3_reset 52 = .ok (.aload_n 0, 1) := by decide +kernel
theorem dX3_reset_53 : decode cX3_reset 53 = .ok (.iload_n 1, 1) := by decide +kernel
theorem dX3_reset_54 : decode cX3_reset 54 = .ok (.putfield 28, 3) := by decide +kernel
theorem dX3_reset_57 : decode cX3_reset 57 = .ok (.aload_n 0, 1) := by decide +kernel
theorem dX3_reset_58 : decode cX3_reset 58 = .ok (.iconst 0, 1) := by decide +kernel
theorem dX3_reset_59 : decode cX3_reset 59 = .ok (.putfield 31, 3) := by decide +kernel
theorem dX3_reset_62 : decode cX3_reset 62 = .ok (.aload_n 0, 1) := by decide +kernel
theorem dX3_reset_63 : decode cX3_reset 63 = .ok (.bipush 7, 2) := by decide +kernel
theorem dX3_reset_65 : decode cX3_reset 65 = .ok (.putfield 34, 3) := by decide +kernel
theorem dX3_reset_68 : decode cX3_reset 68 = .ok (.aload_n 0, 1) := by decide +kernel
theorem dX3_reset_69 : decode cX3_reset 69 = .ok (.iconst 0, 1) := by decide +kernel
theorem dX3_reset_70 : decode cX3_reset 70 = .ok (.putfield 37, 3) := by decide +kernel
theorem dX3_reset_73 : decode cX3_reset 73 = .ok (.return_, 1) := by decide +kernel
theorem dX3_takeAnswer_0 : decode cX3_takeAnswer 0 = .ok (.aload_n 0, 1) := by decide +kernel
theorem dX3_takeAnswer_1 : decode cX3_takeAnswer 1 = .ok (.bipush 7, 2) := by decide +kernel
theorem dX3_takeAnswer_3 : decode cX3_takeAnswer 3 = .ok (.putfield 34, 3) := by decide +kernel
theorem dX3_takeAnswer_6 : decode cX3_takeAnswer 6 = .ok (.aload_n 0, 1) := by decide +kernel
theorem dX3_takeAnswer_7 : decode cX3_takeAnswer 7 = .ok (.iload_n 1, 1) := by decide +kernel
theorem dX3_takeAnswer_8 : decode cX3_takeAnswer 8 = .ok (.invokevirtual 40, 3) := by decide +kernel
theorem dX3_takeAnswer_11 : decode cX3_takeAnswer 11 = .ok (.return_, 1) := by decide +kernel
theorem dX3_goOn_0 : decode cX3_goOn 0 = .ok (.aload_n 0, 1) := by decide +kernel
theorem dX3_goOn_1 : decode cX3_goOn 1 = .ok (.iload_n 2, 1) := by decide +kernel
theorem dX3_goOn_2 : decode cX3_goOn 2 = .ok (.putfield 44, 3) := by decide +kernel
theorem dX3_goOn_5 : decode cX3_goOn 5 = .ok (.iconst 0, 1) := by decide +kernel
theorem dX3_goOn_6 : decode cX3_goOn 6 = .ok (.istore_n 3, 1) := by decide +kernel
theorem dX3_goOn_7 : decode cX3_goOn 7 = .ok (.iload_n 3, 1) := by decide +kernel
theorem dX3_goOn_8 : decode cX3_goOn 8 = .ok (.sipush 200, 3) := by decide +kernel
theorem dX3_goOn_11 : decode cX3_goOn 11 = .ok (.if_icmp .gt 63, 3) := by decide +kernel
theorem dX3_goOn_14 : decode cX3_goOn 14 = .ok (.aload_n 0, 1) := by decide +kernel
theorem dX3_goOn_15 : decode cX3_goOn 15 = .ok (.getfield 34, 3) := by decide +kernel
theorem dX3_goOn_18 : decode cX3_goOn 18 = .ok (.bipush 7, 2) := by decide +kernel
theorem dX3_goOn_20 : decode cX3_goOn 20 = .ok (.if_icmp .ne 54, 3) := by decide +kernel
theorem dX3_goOn_23 : decode cX3_goOn 23 = .ok (.aload_n 0, 1) := by decide +kernel
theorem dX3_goOn_24 : decode cX3_goOn 24 = .ok (.aload_n 1, 1) := by decide +kernel
theorem dX3_goOn_25 : decode cX3_goOn 25 = .ok (.getfield 47, 3) := by decide +kernel
theorem dX3_goOn_28 : decode cX3_goOn 28 = .ok (.invokevirtual 53, 3) := by decide +kernel
theorem dX3_goOn_31 : decode cX3_goOn 31 = .ok (.istore 4, 2) := by decide +kernel
theorem dX3_goOn_33 : decode cX3_goOn 33 = .ok (.iload 4, 2) := by decide +kernel
theorem dX3_goOn_35 : decode cX3_goOn 35 = .ok (.iconst (-1), 1) := by decide +kernel
theorem dX3_goOn_36 : decode cX3_goOn 36 = .ok (.if_icmp .eq 32, 3) := by decide +kernel
theorem dX3_goOn_39 : decode cX3_goOn 39 = .ok (.aload_n 0, 1) := by decide +kernel
theorem dX3_goOn_40 : decode cX3_goOn 40 = .ok (.aload_n 1, 1) := by decide +kernel
theorem dX3_goOn_41 : decode cX3_goOn 41 = .ok (.aload_n 1, 1) := by decide +kernel
theorem dX3_goOn_42 : decode cX3_goOn 42 = .ok (.getfield 47, 3) := by decide +kernel
theorem dX3_goOn_45 : decode cX3_goOn 45 = .ok (.getfield 57, 3) := by decide +kernel
theorem dX3_goOn_48 : decode cX3_goOn 48 = .ok (.iload 4, 2) := by decide +kernel
theorem dX3_goOn_50 : decode cX3_goOn 50 = .ok (.invokestatic 62, 3) := by decide +kernel
theorem dX3_goOn_53 : decode cX3_goOn 53 = .ok (.aload_n 1, 1) := by decide +kernel
theorem dX3_goOn_54 : decode cX3_goOn 54 = .ok (.getfield 47, 3) := by decide +kernel
theorem dX3_goOn_57 : decode cX3_goOn 57 = .ok (.getfield 66, 3) := by decide +kernel
theorem dX3_goOn_60 : decode cX3_goOn 60 = .ok (.iload 4, 2) := by decide +kernel
theorem dX3_goOn_62 : decode cX3_goOn 62 = .ok (.invokestatic 62, 3) := by decide +kernel
theorem dX3_goOn_65 : decode cX3_goOn 65 = .ok (.invokevirtual 69, 3) := by decide +kernel
theorem dX3_goOn_68 : decode cX3_goOn 68 = .ok (.iinc 3 1, 3) := by decide +kernel
theorem dX3_goOn_71 : decode cX3_goOn 71 = .ok (.goto (-64), 3) := by decide +kernel
theorem dX3_goOn_74 : decode cX3_goOn 74 = .ok (.return_, 1) := by decide +kernel
theorem dX3_payForNext_0 : decode cX3_payForNext 0 = .ok (.aload_n 0, 1) := by decide +kernel
theorem dX3_payForNext_1 : decode cX3_payForNext 1 = .ok (.getfield 25, 3) := by decide +kernel
theorem dX3_payForNext_4 : decode cX3_payForNext 4 = .ok (.iconst 0, 1) := by decide +kernel
theorem dX3_payForNext_5 : decode cX3_payForNext 5 = .ok (.aload_n 1, 1) := by decide +kernel
theorem dX3_payForNext_6 : decode cX3_payForNext 6 = .ok (.getfield 73, 3) := by decide +kernel
theorem dX3_payForNext_9 : decode cX3_payForNext 9 = .ok (.iconst 1, 1) := by decide +kernel
theorem dX3_payForNext_10 : decode cX3_payForNext 10 = .ok (.isub, 1) := by decide +kernel
theorem dX3_payForNext_11 : decode cX3_payForNext 11 = .ok (.invokestatic 76, 3) := by decide +kernel
theorem dX3_payForNext_14 : decode cX3_payForNext 14 = .ok (.ifCond .ne 10, 3) := by decide +kernel
theorem dX3_payForNext_17 : decode cX3_payForNext 17 = .ok (.aload_n 0, 1) := by decide +kernel
theorem dX3_payForNext_18 : decode cX3_payForNext 18 = .ok (.iconst 5, 1) := by decide +kernel
theorem dX3_payForNext_19 : decode cX3_payForNext 19 = .ok (.putfield 34, 3) := by decide +kernel
theorem dX3_payForNext_22 : decode cX3_payForNext 22 = .ok (.iconst (-1), 1) := by decide +kernel
theorem dX3_payForNext_23 : decode cX3_payForNext 23 = .ok (.ireturn, 1) := by decide +kernel
theorem dX3_payForNext_24 : decode cX3_payForNext 24 = .ok (.aload_n 1, 1) := by decide +kernel
theorem dX3_payForNext_25 : decode cX3_payForNext 25 = .ok (.getfield 57, 3) := by decide +kernel
theorem dX3_payForNext_28 : decode cX3_payForNext 28 = .ok (.aload_n 0, 1) := by decide +kernel
theorem dX3_payForNext_29 : decode cX3_payForNext 29 = .ok (.getfield 25, 3) := by decide +kernel
theorem dX3_payForNext_32 : decode cX3_payForNext 32 = .ok (.invokestatic 62, 3) := by decide +kernel
theorem dX3_payForNext_35 : decode cX3_payForNext 35 = .ok (.ifCond .ne 7, 3) := by decide +kernel
theorem dX3_payForNext_38 : decode cX3_payForNext 38 = .ok (.iconst 3, 1) := by decide +kernel
theorem dX3_payForNext_39 : decode cX3_payForNext 39 = .ok (.goto 4, 3) := by decide +kernel
theorem dX3_payForNext_42 : decode cX3_payForNext 42 = .ok (.iconst 1, 1) := by decide +kernel
theorem dX3_payForNext_43 : decode cX3_payForNext 43 = .ok (.istore_n 2, 1) := by decide +kernel
theorem dX3_payForNext_44 : decode cX3_payForNext 44 = .ok (.aload_n 0, 1) := by decide +kernel
theorem dX3_payForNext_45 : decode cX3_payForNext 45 = .ok (.getfield 28, 3) := by decide +kernel
theorem dX3_payForNext_48 : decode cX3_payForNext 48 = .ok (.iload_n 2, 1) := by decide +kernel
theorem dX3_payForNext_49 : decode cX3_payForNext 49 = .ok (.if_icmp .ge 10, 3) := by decide +kernel
theorem dX3_payForNext_52 : decode cX3_payForNext 52 = .ok (.aload_n 0, 1) := by decide +kernel
theorem dX3_payForNext_53 : decode cX3_payForNext 53 = .ok (.iconst 4, 1) := by decide +kernel
theorem dX3_payForNext_54 : decode cX3_payForNext 54 = .ok (.putfield 34, 3) := by decide +kernel
theorem dX3_payForNext_57 : decode cX3_payForNext 57 = .ok (.iconst (-1), 1) := by decide +kernel
theorem dX3_payForNext_58 : decode cX3_payForNext 58 = .ok (.ireturn, 1) := by decide +kernel
theorem dX3_payForNext_59 : decode cX3_payForNext 59 = .ok (.aload_n 0, 1) := by decide +kernel
theorem dX3_payForNext_60 : decode cX3_payForNext 60 = .ok (.dup, 1) := by decide +kernel
theorem dX3_payForNext_61 : decode cX3_payForNext 61 = .ok (.getfield 28, 3) := by decide +kernel
theorem dX3_payForNext_64 : decode cX3_payForNext 64 = .ok (.iload_n 2, 1) := by decide +kernel
theorem dX3_payForNext_65 : decode cX3_payForNext 65 = .ok (.isub, 1) := by decide +kernel
theorem dX3_payForNext_66 : decode cX3_payForNext 66 = .ok (.putfield 28, 3) := by decide +kernel
theorem dX3_payForNext_69 : decode cX3_payForNext 69 = .ok (.aload_n 0, 1) := by decide +kernel
theorem dX3_payForNext_70 : decode cX3_payForNext 70 = .ok (.dup, 1) := by decide +kernel
theorem dX3_payForNext_71 : decode cX3_payForNext 71 = .ok (.getfield 25, 3) := by decide +kernel
theorem dX3_payForNext_74 : decode cX3_payForNext 74 = .ok (.iconst 1, 1) := by decide +kernel
theorem dX3_payForNext_75 : decode cX3_payForNext 75 = .ok (.iadd, 1) := by decide +kernel
theorem dX3_payForNext_76 : decode cX3_payForNext 76 = .ok (.putfield 25, 3) := by decide +kernel
theorem dX3_payForNext_79 : decode cX3_payForNext 79 = .ok (.aload_n 0, 1) := by decide +kernel
theorem dX3_payForNext_80 : decode cX3_payForNext 80 = .ok (.getfield 25, 3) := by decide +kernel
theorem dX3_payForNext_83 : decode cX3_payForNext 83 = .ok (.iconst 1, 1) := by decide +kernel
theorem dX3_payForNext_84 : decode cX3_payForNext 84 = .ok (.isub, 1) := by decide +kernel
theorem dX3_payForNext_85 : decode cX3_payForNext 85 = .ok (.ireturn, 1) := by decide +kernel
theorem dX3_perform_0 : decode cX3_perform 0 = .ok (.iload_n 2, 1) := by decide +kernel
theorem dX3_perform_1 : decode cX3_perform 1 = .ok (.tableswitch 175 0 12 #[67, 76, 84, 99, 175, 175, 175, 175, 107, 115, 123, 136, 156], 67) := by decide +kernel
theorem dX3_perform_68 : decode cX3_perform 68 = .ok (.aload_n 0, 1) := by decide +kernel
theorem dX3_perform_69 : decode cX3_perform 69 = .ok (.aload_n 1, 1) := by decide +kernel
theorem dX3_perform_70 : decode cX3_perform 70 = .ok (.iload_n 3, 1) := by decide +kernel
theorem dX3_perform_71 : decode cX3_perform 71 = .ok (.invokevirtual 80, 3) := by decide +kernel
theorem dX3_perform_74 : decode cX3_perform 74 = .ok (.goto 107, 3) := by decide +kernel
theorem dX3_perform_77 : decode cX3_perform 77 = .ok (.aload_n 0, 1) := by decide +kernel
theorem dX3_perform_78 : decode cX3_perform 78 = .ok (.iload_n 3, 1) := by decide +kernel
theorem dX3_perform_79 : decode cX3_perform 79 = .ok (.invokevirtual 40, 3) := by decide +kernel
theorem dX3_perform_82 : decode cX3_perform 82 = .ok (.goto 99, 3) := by decide +kernel
theorem dX3_perform_85 : decode cX3_perform 85 = .ok (.aload_n 0, 1) := by decide +kernel
theorem dX3_perform_86 : decode cX3_perform 86 = .ok (.aload_n 0, 1) := by decide +kernel
theorem dX3_perform_87 : decode cX3_perform 87 = .ok (.getfield 15, 3) := by decide +kernel
theorem dX3_perform_90 : decode cX3_perform 90 = .ok (.iload_n 3, 1) := by decide +kernel
theorem dX3_perform_91 : decode cX3_perform 91 = .ok (.invokestatic 62, 3) := by decide +kernel
theorem dX3_perform_94 : decode cX3_perform 94 = .ok (.invokevirtual 40, 3) := by decide +kernel
theorem dX3_perform_97 : decode cX3_perform 97 = .ok (.goto 84, 3) := by decide +kernel
theorem dX3_perform_100 : decode cX3_perform 100 = .ok (.aload_n 0, 1) := by decide +kernel
theorem dX3_perform_101 : decode cX3_perform 101 = .ok (.iload_n 3, 1) := by decide +kernel
theorem dX3_perform_102 : decode cX3_perform 102 = .ok (.invokevirtual 84, 3) := by decide +kernel
theorem dX3_perform_105 : decode cX3_perform 105 = .ok (.goto 76, 3) := by decide +kernel
theorem dX3_perform_108 : decode cX3_perform 108 = .ok (.aload_n 0, 1) := by decide +kernel
theorem dX3_perform_109 : decode cX3_perform 109 = .ok (.iload_n 3, 1) := by decide +kernel
theorem dX3_perform_110 : decode cX3_perform 110 = .ok (.putfield 25, 3) := by decide +kernel
theorem dX3_perform_113 : decode cX3_perform 113 = .ok (.goto 68, 3) := by decide +kernel
theorem dX3_perform_116 : decode cX3_perform 116 = .ok (.aload_n 0, 1) := by decide +kernel
theorem dX3_perform_117 : decode cX3_perform 117 = .ok (.iload_n 3, 1) := by decide +kernel
theorem dX3_perform_118 : decode cX3_perform 118 = .ok (.invokevirtual 87, 3) := by decide +kernel
theorem dX3_perform_121 : decode cX3_perform 121 = .ok (.goto 60, 3) := by decide +kernel
theorem dX3_perform_124 : decode cX3_perform 124 = .ok (.aload_n 0, 1) := by decide +kernel
theorem dX3_perform_125 : decode cX3_perform 125 = .ok (.dup, 1) := by decide +kernel
theorem dX3_perform_126 : decode cX3_perform 126 = .ok (.getfield 31, 3) := by decide +kernel
theorem dX3_perform_129 : decode cX3_perform 129 = .ok (.iload_n 3, 1) := by decide +kernel
theorem dX3_perform_130 : decode cX3_perform 130 = .ok (.iadd, 1) := by decide +kernel
theorem dX3_perform_131 : decode cX3_perform 131 = .ok (.putfield 31, 3) := by decide +kernel
theorem dX3_perform_134 : decode cX3_perform 134 = .ok (.goto 47, 3) := by decide +kernel
theorem dX3_perform_137 : decode cX3_perform 137 = .ok (.aload_n 0, 1) := by decide +kernel
theorem dX3_perform_138 : decode cX3_perform 138 = .ok (.aload_n 0, 1) := by decide +kernel
theorem dX3_perform_139 : decode cX3_perform 139 = .ok (.invokevirtual 90, 3) := by decide +kernel
theorem dX3_perform_142 : decode cX3_perform 142 = .ok (.ifCond .eq 8, 3) := by decide +kernel
theorem dX3_perform_145 : decode cX3_perform 145 = .ok (.bipush 7, 2) := by decide +kernel
theorem dX3_perform_147 : decode cX3_perform 147 = .ok (.goto 4, 3) := by decide +kernel
theorem dX3_perform_150 : decode cX3_perform 150 = .ok (.iconst 3, 1) := by decide +kernel
theorem dX3_perform_151 : decode cX3_perform 151 = .ok (.putfield 34, 3) := by decide +kernel
theorem dX3_perform_154 : decode cX3_perform 154 = .ok (.goto 27, 3) := by decide +kernel
theorem dX3_perform_157 : decode cX3_perform 157 = .ok (.aload_n 0, 1) := by decide +kernel
theorem dX3_perform_158 : decode cX3_perform 158 = .ok (.aload_n 0, 1) := by decide +kernel
theorem dX3_perform_159 : decode cX3_perform 159 = .ok (.invokevirtual 90, 3) := by decide +kernel
theorem dX3_perform_162 : decode cX3_perform 162 = .ok (.ifCond .eq 7, 3) := by decide +kernel
theorem dX3_perform_165 : decode cX3_perform 165 = .ok (.iconst 2, 1) := by decide +kernel
theorem dX3_perform_166 : decode cX3_perform 166 = .ok (.goto 4, 3) := by decide +kernel
theorem dX3_perform_169 : decode cX3_perform 169 = .ok (.iconst 3, 1) := by decide +kernel
theorem dX3_perform_170 : decode cX3_perform 170 = .ok (.putfield 34, 3) := by decide +kernel
theorem dX3_perform_173 : decode cX3_perform 173 = .ok (.goto 8, 3) := by decide +kernel
theorem dX3_perform_176 : decode cX3_perform 176 = .ok (.aload_n 0, 1) := by decide +kernel
theorem dX3_perform_177 : decode cX3_perform 177 = .ok (.iload_n 2, 1) := by decide +kernel
theorem dX3_perform_178 : decode cX3_perform 178 = .ok (.invokevirtual 94, 3) := by decide +kernel
theorem dX3_perform_181 : decode cX3_perform 181 = .ok (.return_, 1) := by decide +kernel
theorem dX3_ask_0 : decode cX3_ask 0 = .ok (.aload_n 0, 1) := by decide +kernel
theorem dX3_ask_1 : decode cX3_ask 1 = .ok (.getfield 18, 3) := by decide +kernel
theorem dX3_ask_4 : decode cX3_ask 4 = .ok (.iload_n 2, 1) := by decide +kernel
theorem dX3_ask_5 : decode cX3_ask 5 = .ok (.iconst 1, 1) := by decide +kernel
theorem dX3_ask_6 : decode cX3_ask 6 = .ok (.invokestatic 97, 3) := by decide +kernel
theorem dX3_ask_9 : decode cX3_ask 9 = .ok (.aload_n 1, 1) := by decide +kernel
theorem dX3_ask_10 : decode cX3_ask 10 = .ok (.iload_n 2, 1) := by decide +kernel
theorem dX3_ask_11 : decode cX3_ask 11 = .ok (.aload_n 0, 1) := by decide +kernel
theorem dX3_ask_12 : decode cX3_ask 12 = .ok (.getfield 18, 3) := by decide +kernel
theorem dX3_ask_15 : decode cX3_ask 15 = .ok (.iload_n 2, 1) := by decide +kernel
theorem dX3_ask_16 : decode cX3_ask 16 = .ok (.invokestatic 62, 3) := by decide +kernel
theorem dX3_ask_19 : decode cX3_ask 19 = .ok (.invokevirtual 101, 3) := by decide +kernel
theorem dX3_ask_22 : decode cX3_ask 22 = .ok (.istore_n 3, 1) := by decide +kernel
theorem dX3_ask_23 : decode cX3_ask 23 = .ok (.iload_n 3, 1) := by decide +kernel
theorem dX3_ask_24 : decode cX3_ask 24 = .ok (.iconst (-1), 1) := by decide +kernel
theorem dX3_ask_25 : decode cX3_ask 25 = .ok (.if_icmp .ne 16, 3) := by decide +kernel
theorem dX3_ask_28 : decode cX3_ask 28 = .ok (.aload_n 0, 1) := by decide +kernel
theorem dX3_ask_29 : decode cX3_ask 29 = .ok (.iload_n 2, 1) := by decide +kernel
theorem dX3_ask_30 : decode cX3_ask 30 = .ok (.putfield 105, 3) := by decide +kernel
theorem dX3_ask_33 : decode cX3_ask 33 = .ok (.aload_n 0, 1) := by decide +kernel
theorem dX3_ask_34 : decode cX3_ask 34 = .ok (.iconst 0, 1) := by decide +kernel
theorem dX3_ask_35 : decode cX3_ask 35 = .ok (.putfield 34, 3) := by decide +kernel
theorem dX3_ask_38 : decode cX3_ask 38 = .ok (.goto 8, 3) := by decide +kernel
theorem dX3_ask_41 : decode cX3_ask 41 = .ok (.aload_n 0, 1) := by decide +kernel
theorem dX3_ask_42 : decode cX3_ask 42 = .ok (.iload_n 3, 1) := by decide +kernel
theorem dX3_ask_43 : decode cX3_ask 43 = .ok (.invokevirtual 40, 3) := by decide +kernel
theorem dX3_ask_46 : decode cX3_ask 46 = .ok (.return_, 1) := by decide +kernel
theorem dX3_store_0 : decode cX3_store 0 = .ok (.aload_n 0, 1) := by decide +kernel
theorem dX3_store_1 : decode cX3_store 1 = .ok (.invokevirtual 108, 3) := by decide +kernel
theorem dX3_store_4 : decode cX3_store 4 = .ok (.istore_n 2, 1) := by decide +kernel
theorem dX3_store_5 : decode cX3_store 5 = .ok (.aload_n 0, 1) := by decide +kernel
theorem dX3_store_6 : decode cX3_store 6 = .ok (.getfield 34, 3) := by decide +kernel
theorem dX3_store_9 : decode cX3_store 9 = .ok (.bipush 7, 2) := by decide +kernel
theorem dX3_store_11 : decode cX3_store 11 = .ok (.if_icmp .ne 20, 3) := by decide +kernel
theorem dX3_store_14 : decode cX3_store 14 = .ok (.iload_n 1, 1) := by decide +kernel
theorem dX3_store_15 : decode cX3_store 15 = .ok (.iconst 0, 1) := by decide +kernel
theorem dX3_store_16 : decode cX3_store 16 = .ok (.bipush 7, 2) := by decide +kernel
theorem dX3_store_18 : decode cX3_store 18 = .ok (.invokestatic 76, 3) := by decide +kernel
theorem dX3_store_21 : decode cX3_store 21 = .ok (.ifCond .eq 10, 3) := by decide +kernel
theorem dX3_store_24 : decode cX3_store 24 = .ok (.aload_n 0, 1) := by decide +kernel
theorem dX3_store_25 : decode cX3_store 25 = .ok (.getfield 15, 3) := by decide +kernel
theorem dX3_store_28 : decode cX3_store 28 = .ok (.iload_n 1, 1) := by decide +kernel
theorem dX3_store_29 : decode cX3_store 29 = .ok (.iload_n 2, 1) := by decide +kernel
theorem dX3_store_30 : decode cX3_store 30 = .ok (.iastore, 1) := by decide +kernel
theorem dX3_store_31 : decode cX3_store 31 = .ok (.return_, 1) := by decide +kernel
theorem dX3_jumpIfZero_0 : decode cX3_jumpIfZero 0 = .ok (.aload_n 0, 1) := by decide +kernel
theorem dX3_jumpIfZero_1 : decode cX3_jumpIfZero 1 = .ok (.invokevirtual 108, 3) := by decide +kernel
theorem dX3_jumpIfZero_4 : decode cX3_jumpIfZero 4 = .ok (.istore_n 2, 1) := by decide +kernel
theorem dX3_jumpIfZero_5 : decode cX3_jumpIfZero 5 = .ok (.aload_n 0, 1) := by decide +kernel
theorem dX3_jumpIfZero_6 : decode cX3_jumpIfZero 6 = .ok (.getfield 34, 3) := by decide +kernel
theorem dX3_jumpIfZero_9 : decode cX3_jumpIfZero 9 = .ok (.bipush 7, 2) := by decide +kernel
theorem dX3_jumpIfZero_11 : decode cX3_jumpIfZero 11 = .ok (.if_icmp .ne 12, 3) := by decide +kernel
theorem dX3_jumpIfZero_14 : decode cX3_jumpIfZero 14 = .ok (.iload_n 2, 1) := by decide +kernel
theorem dX3_jumpIfZero_15 : decode cX3_jumpIfZero 15 = .ok (.ifCond .ne 8, 3) := by decide +kernel
theorem dX3_jumpIfZero_18 : decode cX3_jumpIfZero 18 = .ok (.aload_n 0, 1) := by decide +kernel
theorem dX3_jumpIfZero_19 : decode cX3_jumpIfZero 19 = .ok (.iload_n 1, 1) := by decide +kernel
theorem dX3_jumpIfZero_20 : decode cX3_jumpIfZero 20 = .ok (.putfield 25, 3) := by decide +kernel
theorem dX3_jumpIfZero_23 : decode cX3_jumpIfZero 23 = .ok (.return_, 1) := by decide +kernel
theorem dX3_combine_0 : decode cX3_combine 0 = .ok (.aload_n 0, 1) := by decide +kernel
theorem dX3_combine_1 : decode cX3_combine 1 = .ok (.invokevirtual 108, 3) := by decide +kernel
theorem dX3_combine_4 : decode cX3_combine 4 = .ok (.istore_n 2, 1) := by decide +kernel
theorem dX3_combine_5 : decode cX3_combine 5 = .ok (.aload_n 0, 1) := by decide +kernel
theorem dX3_combine_6 : decode cX3_combine 6 = .ok (.invokevirtual 108, 3) := by decide +kernel
theorem dX3_combine_9 : decode cX3_combine 9 = .ok (.istore_n 3, 1) := by decide +kernel
theorem dX3_combine_10 : decode cX3_combine 10 = .ok (.aload_n 0, 1) := by decide +kernel
theorem dX3_combine_11 : decode cX3_combine 11 = .ok (.getfield 34, 3) := by decide +kernel
theorem dX3_combine_14 : decode cX3_combine 14 = .ok (.bipush 7, 2) := by decide +kernel
theorem dX3_combine_16 : decode cX3_combine 16 = .ok (.if_icmp .ne 13, 3) := by decide +kernel
theorem dX3_combine_19 : decode cX3_combine 19 = .ok (.aload_n 0, 1) := by decide +kernel
theorem dX3_combine_20 : decode cX3_combine 20 = .ok (.iload_n 1, 1) := by decide +kernel
theorem dX3_combine_21 : decode cX3_combine 21 = .ok (.iload_n 3, 1) := by decide +kernel
theorem dX3_combine_22 : decode cX3_combine 22 = .ok (.iload_n 2, 1) := by decide +kernel
theorem dX3_combine_23 : decode cX3_combine 23 = .ok (.invokestatic 112, 3) := by decide +kernel
theorem dX3_combine_26 : decode cX3_combine 26 = .ok (.invokevirtual 40, 3) := by decide +kernel
theorem dX3_combine_29 : decode cX3_combine 29 = .ok (.return_, 1) := by decide +kernel
theorem dX3_combined_0 : decode cX3_combined 0 = .ok (.iload_n 0, 1) := by decide +kernel
theorem dX3_combined_1 : decode cX3_combined 1 = .ok (.tableswitch 52 4 6 #[27, 34, 41], 27) := by decide +kernel
theorem dX3_combined_28 : decode cX3_combined 28 = .ok (.iload_n 1, 1) := by decide +kernel
theorem dX3_combined_29 : decode cX3_combined 29 = .ok (.iload_n 2, 1) := by decide +kernel
theorem dX3_combined_30 : decode cX3_combined 30 = .ok (.iadd, 1) := by decide +kernel
theorem dX3_combined_31 : decode cX3_combined 31 = .ok (.invokestatic 116, 3) := by decide +kernel
theorem dX3_combined_34 : decode cX3_combined 34 = .ok (.ireturn, 1) := by decide +kernel
theorem dX3_combined_35 : decode cX3_combined 35 = .ok (.iload_n 1, 1) := by decide +kernel
theorem dX3_combined_36 : decode cX3_combined 36 = .ok (.iload_n 2, 1) := by decide +kernel
theorem dX3_combined_37 : decode cX3_combined 37 = .ok (.isub, 1) := by decide +kernel
theorem dX3_combined_38 : decode cX3_combined 38 = .ok (.invokestatic 116, 3) := by decide +kernel
theorem dX3_combined_41 : decode cX3_combined 41 = .ok (.ireturn, 1) := by decide +kernel
theorem dX3_combined_42 : decode cX3_combined 42 = .ok (.iload_n 1, 1) := by decide +kernel
theorem dX3_combined_43 : decode cX3_combined 43 = .ok (.iload_n 2, 1) := by decide +kernel
theorem dX3_combined_44 : decode cX3_combined 44 = .ok (.if_icmp .ge 7, 3) := by decide +kernel
theorem dX3_combined_47 : decode cX3_combined 47 = .ok (.iconst 1, 1) := by decide +kernel
theorem dX3_combined_48 : decode cX3_combined 48 = .ok (.goto 4, 3) := by decide +kernel
theorem dX3_combined_51 : decode cX3_combined 51 = .ok (.iconst 0, 1) := by decide +kernel
theorem dX3_combined_52 : decode cX3_combined 52 = .ok (.ireturn, 1) := by decide +kernel
theorem dX3_combined_53 : decode cX3_combined 53 = .ok (.iload_n 1, 1) := by decide +kernel
theorem dX3_combined_54 : decode cX3_combined 54 = .ok (.iload_n 2, 1) := by decide +kernel
theorem dX3_combined_55 : decode cX3_combined 55 = .ok (.if_icmp .ne 7, 3) := by decide +kernel
theorem dX3_combined_58 : decode cX3_combined 58 = .ok (.iconst 1, 1) := by decide +kernel
theorem dX3_combined_59 : decode cX3_combined 59 = .ok (.goto 4, 3) := by decide +kernel
theorem dX3_combined_62 : decode cX3_combined 62 = .ok (.iconst 0, 1) := by decide +kernel
theorem dX3_combined_63 : decode cX3_combined 63 = .ok (.ireturn, 1) := by decide +kernel
theorem dX3_held_0 : decode cX3_held 0 = .ok (.sipush (-9999), 3) := by decide +kernel
theorem dX3_held_3 : decode cX3_held 3 = .ok (.sipush 9999, 3) := by decide +kernel
theorem dX3_held_6 : decode cX3_held 6 = .ok (.iload_n 0, 1) := by decide +kernel
theorem dX3_held_7 : decode cX3_held 7 = .ok (.invokestatic 120, 3) := by decide +kernel
theorem dX3_held_10 : decode cX3_held 10 = .ok (.invokestatic 125, 3) := by decide +kernel
theorem dX3_held_13 : decode cX3_held 13 = .ok (.ireturn, 1) := by decide +kernel
theorem dX3_passesGate_0 : decode cX3_passesGate 0 = .ok (.aload_n 0, 1) := by decide +kernel
theorem dX3_passesGate_1 : decode cX3_passesGate 1 = .ok (.getfield 44, 3) := by decide +kernel
theorem dX3_passesGate_4 : decode cX3_passesGate 4 = .ok (.ifCond .gt 5, 3) := by decide +kernel
theorem dX3_passesGate_7 : decode cX3_passesGate 7 = .ok (.iconst 0, 1) := by decide +kernel
theorem dX3_passesGate_8 : decode cX3_passesGate 8 = .ok (.ireturn, 1) := by decide +kernel
theorem dX3_passesGate_9 : decode cX3_passesGate 9 = .ok (.aload_n 0, 1) := by decide +kernel
theorem dX3_passesGate_10 : decode cX3_passesGate 10 = .ok (.dup, 1) := by decide +kernel
theorem dX3_passesGate_11 : decode cX3_passesGate 11 = .ok (.getfield 44, 3) := by decide +kernel
theorem dX3_passesGate_14 : decode cX3_passesGate 14 = .ok (.iconst 1, 1) := by decide +kernel
theorem dX3_passesGate_15 : decode cX3_passesGate 15 = .ok (.isub, 1) := by decide +kernel
theorem dX3_passesGate_16 : decode cX3_passesGate 16 = .ok (.putfield 44, 3) := by decide +kernel
theorem dX3_passesGate_19 : decode cX3_passesGate 19 = .ok (.aload_n 0, 1) := by decide +kernel
theorem dX3_passesGate_20 : decode cX3_passesGate 20 = .ok (.dup, 1) := by decide +kernel
theorem dX3_passesGate_21 : decode cX3_passesGate 21 = .ok (.getfield 37, 3) := by decide +kernel
theorem dX3_passesGate_24 : decode cX3_passesGate 24 = .ok (.iconst 1, 1) := by decide +kernel
theorem dX3_passesGate_25 : decode cX3_passesGate 25 = .ok (.iadd, 1) := by decide +kernel
theorem dX3_passesGate_26 : decode cX3_passesGate 26 = .ok (.putfield 37, 3) := by decide +kernel
theorem dX3_passesGate_29 : decode cX3_passesGate 29 = .ok (.iconst 1, 1) := by decide +kernel
theorem dX3_passesGate_30 : decode cX3_passesGate 30 = .ok (.ireturn, 1) := by decide +kernel
theorem dX3_put_0 : decode cX3_put 0 = .ok (.aload_n 0, 1) := by decide +kernel
theorem dX3_put_1 : decode cX3_put 1 = .ok (.getfield 21, 3) := by decide +kernel
theorem dX3_put_4 : decode cX3_put 4 = .ok (.iconst 0, 1) := by decide +kernel
theorem dX3_put_5 : decode cX3_put 5 = .ok (.bipush 7, 2) := by decide +kernel
theorem dX3_put_7 : decode cX3_put 7 = .ok (.invokestatic 76, 3) := by decide +kernel
theorem dX3_put_10 : decode cX3_put 10 = .ok (.ifCond .ne 9, 3) := by decide +kernel
theorem dX3_put_13 : decode cX3_put 13 = .ok (.aload_n 0, 1) := by decide +kernel
theorem dX3_put_14 : decode cX3_put 14 = .ok (.iconst 5, 1) := by decide +kernel
theorem dX3_put_15 : decode cX3_put 15 = .ok (.putfield 34, 3) := by decide +kernel
theorem dX3_put_18 : decode cX3_put 18 = .ok (.return_, 1) := by decide +kernel
theorem dX3_put_19 : decode cX3_put 19 = .ok (.aload_n 0, 1) := by decide +kernel
theorem dX3_put_20 : decode cX3_put 20 = .ok (.getfield 9, 3) := by decide +kernel
theorem dX3_put_23 : decode cX3_put 23 = .ok (.aload_n 0, 1) := by decide +kernel
theorem dX3_put_24 : decode cX3_put 24 = .ok (.getfield 21, 3) := by decide +kernel
theorem dX3_put_27 : decode cX3_put 27 = .ok (.iload_n 1, 1) := by decide +kernel
theorem dX3_put_28 : decode cX3_put 28 = .ok (.iastore, 1) := by decide +kernel
theorem dX3_put_29 : decode cX3_put 29 = .ok (.aload_n 0, 1) := by decide +kernel
theorem dX3_put_30 : decode cX3_put 30 = .ok (.dup, 1) := by decide +kernel
theorem dX3_put_31 : decode cX3_put 31 = .ok (.getfield 21, 3) := by decide +kernel
theorem dX3_put_34 : decode cX3_put 34 = .ok (.iconst 1, 1) := by decide +kernel
theorem dX3_put_35 : decode cX3_put 35 = .ok (.iadd, 1) := by decide +kernel
theorem dX3_put_36 : decode cX3_put 36 = .ok (.putfield 21, 3) := by decide +kernel
theorem dX3_put_39 : decode cX3_put 39 = .ok (.return_, 1) := by decide +kernel
theorem dX3_take_0 : decode cX3_take 0 = .ok (.aload_n 0, 1) := by decide +kernel
theorem dX3_take_1 : decode cX3_take 1 = .ok (.getfield 21, 3) := by decide +kernel
theorem dX3_take_4 : decode cX3_take 4 = .ok (.iconst 1, 1) := by decide +kernel
theorem dX3_take_5 : decode cX3_take 5 = .ok (.bipush 8, 2) := by decide +kernel
theorem dX3_take_7 : decode cX3_take 7 = .ok (.invokestatic 76, 3) := by decide +kernel
theorem dX3_take_10 : decode cX3_take 10 = .ok (.ifCond .ne 10, 3) := by decide +kernel
theorem dX3_take_13 : decode cX3_take 13 = .ok (.aload_n 0, 1) := by decide +kernel
theorem dX3_take_14 : decode cX3_take 14 = .ok (.iconst 5, 1) := by decide +kernel
theorem dX3_take_15 : decode cX3_take 15 = .ok (.putfield 34, 3) := by decide +kernel
theorem dX3_take_18 : decode cX3_take 18 = .ok (.iconst 0, 1) := by decide +kernel
theorem dX3_take_19 : decode cX3_take 19 = .ok (.ireturn, 1) := by decide +kernel
theorem dX3_take_20 : decode cX3_take 20 = .ok (.aload_n 0, 1) := by decide +kernel
theorem dX3_take_21 : decode cX3_take 21 = .ok (.dup, 1) := by decide +kernel
theorem dX3_take_22 : decode cX3_take 22 = .ok (.getfield 21, 3) := by decide +kernel
theorem dX3_take_25 : decode cX3_take 25 = .ok (.iconst 1, 1) := by decide +kernel
theorem dX3_take_26 : decode cX3_take 26 = .ok (.isub, 1) := by decide +kernel
theorem dX3_take_27 : decode cX3_take 27 = .ok (.putfield 21, 3) := by decide +kernel
theorem dX3_take_30 : decode cX3_take 30 = .ok (.aload_n 0, 1) := by decide +kernel
theorem dX3_take_31 : decode cX3_take 31 = .ok (.getfield 9, 3) := by decide +kernel
theorem dX3_take_34 : decode cX3_take 34 = .ok (.aload_n 0, 1) := by decide +kernel
theorem dX3_take_35 : decode cX3_take 35 = .ok (.getfield 21, 3) := by decide +kernel
theorem dX3_take_38 : decode cX3_take 38 = .ok (.iaload, 1) := by decide +kernel
theorem dX3_take_39 : decode cX3_take 39 = .ok (.ireturn, 1) := by decide +kernel
theorem dX4_init_0 : decode cX4_init 0 = .ok (.aload_n 0, 1) := by decide +kernel
theorem dX4_init_1 : decode cX4_init 1 = .ok (.invokespecial 3, 3) := by decide +kernel
theorem dX4_init_4 : decode cX4_init 4 = .ok (.aload_n 0, 1) := by decide +kernel
theorem dX4_init_5 : decode cX4_init 5 = .ok (.new 9, 3) := by decide +kernel
theorem dX4_init_8 : decode cX4_init 8 = .ok (.dup, 1) := by decide +kernel
theorem dX4_init_9 : decode cX4_init 9 = .ok (.invokespecial 11, 3) := by decide +kernel
theorem dX4_init_12 : decode cX4_init 12 = .ok (.putfield 12, 3) := by decide +kernel
theorem dX4_init_15 : decode cX4_init 15 = .ok (.aload_n 0, 1) := by decide +kernel
theorem dX4_init_16 : decode cX4_init 16 = .ok (.new 18, 3) := by decide +kernel
theorem dX4_init_19 : decode cX4_init 19 = .ok (.dup, 1) := by decide +kernel
theorem dX4_init_20 : decode cX4_init 20 = .ok (.invokespecial 20, 3) := by decide +kernel
theorem dX4_init_23 : decode cX4_init 23 = .ok (.putfield 21, 3) := by decide +kernel
theorem dX4_init_26 : decode cX4_init 26 = .ok (.aload_n 0, 1) := by decide +kernel
theorem dX4_init_27 : decode cX4_init 27 = .ok (.bipush 16, 2) := by decide +kernel
theorem dX4_init_29 : decode cX4_init 29 = .ok (.newarray .int, 2) := by decide +kernel
theorem dX4_init_31 : decode cX4_init 31 = .ok (.putfield 25, 3) := by decide +kernel
theorem dX4_init_34 : decode cX4_init 34 = .ok (.aload_n 0, 1) := by decide +kernel
theorem dX4_init_35 : decode cX4_init 35 = .ok (.iload_n 1, 1) := by decide +kernel
theorem dX4_init_36 : decode cX4_init 36 = .ok (.putfield 29, 3) := by decide +kernel
theorem dX4_init_39 : decode cX4_init 39 = .ok (.aload_n 0, 1) := by decide +kernel
theorem dX4_init_40 : decode cX4_init 40 = .ok (.iload_n 1, 1) := by decide +kernel
theorem dX4_init_41 : decode cX4_init 41 = .ok (.iconst 4, 1) := by decide +kernel
theorem dX4_init_42 : decode cX4_init 42 = .ok (.irem, 1) := by decide +kernel
theorem dX4_init_43 : decode cX4_init 43 = .ok (.putfield 33, 3) := by decide +kernel
theorem dX4_init_46 : decode cX4_init 46 = .ok (.aload_n 0, 1) := by decide +kernel
theorem dX4_init_47 : decode cX4_init 47 = .ok (.aload_n 2, 1) := by decide +kernel
theorem dX4_init_48 : decode cX4_init 48 = .ok (.putfield 36, 3) := by decide +kernel
theorem dX4_init_51 : decode cX4_init 51 = .ok (.aload_n 0, 1) := by decide +kernel
theorem dX4_init_52 : decode cX4_init 52 = .ok (.aload_n 2, 1) := by decide +kernel
theorem dX4_init_53 : decode cX4_init 53 = .ok (.getfield 40, 3) := by decide +kernel
theorem dX4_init_56 : decode cX4_init 56 = .ok (.putfield 46, 3) := by decide +kernel
theorem dX4_init_59 : decode cX4_init 59 = .ok (.return_, 1) := by decide +kernel
theorem dX4_takeNewest_0 : decode cX4_takeNewest 0 = .ok (.aload_n 0, 1) := by decide +kernel
theorem dX4_takeNewest_1 : decode cX4_takeNewest 1 = .ok (.aload_n 0, 1) := by decide +kernel
theorem dX4_takeNewest_2 : decode cX4_takeNewest 2 = .ok (.getfield 36, 3) := by decide +kernel
theorem dX4_takeNewest_5 : decode cX4_takeNewest 5 = .ok (.getfield 40, 3) := by decide +kernel
theorem dX4_takeNewest_8 : decode cX4_takeNewest 8 = .ok (.putfield 46, 3) := by decide +kernel
theorem dX4_takeNewest_11 : decode cX4_takeNewest 11 = .ok (.aload_n 0, 1) := by decide +kernel
theorem dX4_takeNewest_12 : decode cX4_takeNewest 12 = .ok (.aload_n 0, 1) := by decide +kernel
theorem dX4_takeNewest_13 : decode cX4_takeNewest 13 = .ok (.getfield 36, 3) := by decide +kernel
theorem dX4_takeNewest_16 : decode cX4_takeNewest 16 = .ok (.invokevirtual 49, 3) := by decide +kernel
theorem dX4_takeNewest_19 : decode cX4_takeNewest 19 = .ok (.putfield 53, 3) := by decide +kernel
theorem dX4_takeNewest_22 : decode cX4_takeNewest 22 = .ok (.aload_n 0, 1) := by decide +kernel
theorem dX4_takeNewest_23 : decode cX4_takeNewest 23 = .ok (.aload_n 0, 1) := by decide +kernel
theorem dX4_takeNewest_24 : decode cX4_takeNewest 24 = .ok (.getfield 36, 3) := by decide +kernel
theorem dX4_takeNewest_27 : decode cX4_takeNewest 27 = .ok (.getfield 56, 3) := by decide +kernel
theorem dX4_takeNewest_30 : decode cX4_takeNewest 30 = .ok (.putfield 59, 3) := by decide +kernel
theorem dX4_takeNewest_33 : decode cX4_takeNewest 33 = .ok (.aload_n 1, 1) := by decide +kernel
theorem dX4_takeNewest_34 : decode cX4_takeNewest 34 = .ok (.iconst 0, 1) := by decide +kernel
theorem dX4_takeNewest_35 : decode cX4_takeNewest 35 = .ok (.aload_n 0, 1) := by decide +kernel
theorem dX4_takeNewest_36 : decode cX4_takeNewest 36 = .ok (.getfield 25, 3) := by decide +kernel
theorem dX4_takeNewest_39 : decode cX4_takeNewest 39 = .ok (.iconst 0, 1) := by decide +kernel
theorem dX4_takeNewest_40 : decode cX4_takeNewest 40 = .ok (.bipush 16, 2) := by decide +kernel
theorem dX4_takeNewest_42 : decode cX4_takeNewest 42 = .ok (.invokestatic 62, 3) := by decide +kernel
theorem dX4_takeNewest_45 : decode cX4_takeNewest 45 = .ok (.return_, 1) := by decide +kernel
theorem dX4_keepAnswer_0 : decode cX4_keepAnswer 0 = .ok (.aload_n 0, 1) := by decide +kernel
theorem dX4_keepAnswer_1 : decode cX4_keepAnswer 1 = .ok (.getfield 12, 3) := by decide +kernel
theorem dX4_keepAnswer_4 : decode cX4_keepAnswer 4 = .ok (.getfield 68, 3) := by decide +kernel
theorem dX4_keepAnswer_7 : decode cX4_keepAnswer 7 = .ok (.istore_n 2, 1) := by decide +kernel
theorem dX4_keepAnswer_8 : decode cX4_keepAnswer 8 = .ok (.aload_n 0, 1) := by decide +kernel
theorem dX4_keepAnswer_9 : decode cX4_keepAnswer 9 = .ok (.getfield 21, 3) := by decide +kernel
theorem dX4_keepAnswer_12 : decode cX4_keepAnswer 12 = .ok (.new 71, 3) := by decide +kernel
theorem dX4_keepAnswer_15 : decode cX4_keepAnswer 15 = .ok (.dup, 1) := by decide +kernel
theorem dX4_keepAnswer_16 : decode cX4_keepAnswer 16 = .ok (.iload_n 2, 1) := by decide +kernel
theorem dX4_keepAnswer_17 : decode cX4_keepAnswer 17 = .ok (.aload_n 0, 1) := by decide +kernel
theorem dX4_keepAnswer_18 : decode cX4_keepAnswer 18 = .ok (.getfield 25, 3) := by decide +kernel
theorem dX4_keepAnswer_21 : decode cX4_keepAnswer 21 = .ok (.iload_n 2, 1) := by decide +kernel
theorem dX4_keepAnswer_22 : decode cX4_keepAnswer 22 = .ok (.invokestatic 73, 3) := by decide +kernel
theorem dX4_keepAnswer_25 : decode cX4_keepAnswer 25 = .ok (.iload_n 1, 1) := by decide +kernel
theorem dX4_keepAnswer_26 : decode cX4_keepAnswer 26 = .ok (.invokespecial 77, 3) := by decide +kernel
theorem dX4_keepAnswer_29 : decode cX4_keepAnswer 29 = .ok (.invokevirtual 80, 3) := by decide +kernel
theorem dX4_keepAnswer_32 : decode cX4_keepAnswer 32 = .ok (.pop, 1) := by decide +kernel
theorem dX4_keepAnswer_33 : decode cX4_keepAnswer 33 = .ok (.return_, 1) := by decide +kernel
theorem dX4_nthValue_0 : decode cX4_nthValue 0 = .ok (.aload_n 0, 1) := by decide +kernel
theorem dX4_nthValue_1 : decode cX4_nthValue 1 = .ok (.getfield 25, 3) := by decide +kernel
theorem dX4_nthValue_4 : decode cX4_nthValue 4 = .ok (.iload_n 1, 1) := by decide +kernel
theorem dX4_nthValue_5 : decode cX4_nthValue 5 = .ok (.invokestatic 73, 3) := by decide +kernel
theorem dX4_nthValue_8 : decode cX4_nthValue 8 = .ok (.istore_n 3, 1) := by decide +kernel
theorem dX4_nthValue_9 : decode cX4_nthValue 9 = .ok (.iconst 0, 1) := by decide +kernel
theorem dX4_nthValue_10 : decode cX4_nthValue 10 = .ok (.istore 4, 2) := by decide +kernel
theorem dX4_nthValue_12 : decode cX4_nthValue 12 = .ok (.iconst 0, 1) := by decide +kernel
theorem dX4_nthValue_13 : decode cX4_nthValue 13 = .ok (.istore 5, 2) := by decide +kernel
theorem dX4_nthValue_15 : decode cX4_nthValue 15 = .ok (.iload 5, 2) := by decide +kernel
theorem dX4_nthValue_17 : decode cX4_nthValue 17 = .ok (.aload_n 0, 1) := by decide +kernel
theorem dX4_nthValue_18 : decode cX4_nthValue 18 = .ok (.getfield 21, 3) := by decide +kernel
theorem dX4_nthValue_21 : decode cX4_nthValue 21 = .ok (.invokevirtual 84, 3) := by decide +kernel
theorem dX4_nthValue_24 : decode cX4_nthValue 24 = .ok (.if_icmp .ge 56, 3) := by decide +kernel
theorem dX4_nthValue_27 : decode cX4_nthValue 27 = .ok (.aload_n 0, 1) := by decide +kernel
theorem dX4_nthValue_28 : decode cX4_nthValue 28 = .ok (.getfield 21, 3) := by decide +kernel
theorem dX4_nthValue_31 : decode cX4_nthValue 31 = .ok (.iload 5, 2) := by decide +kernel
theorem dX4_nthValue_33 : decode cX4_nthValue 33 = .ok (.invokevirtual 87, 3) := by decide +kernel
theorem dX4_nthValue_36 : decode cX4_nthValue 36 = .ok (.checkcast 71, 3) := by decide +kernel
theorem dX4_nthValue_39 : decode cX4_nthValue 39 = .ok (.astore 6, 2) := by decide +kernel
theorem dX4_nthValue_41 : decode cX4_nthValue 41 = .ok (.aload 6, 2) := by decide +kernel
theorem dX4_nthValue_43 : decode cX4_nthValue 43 = .ok (.getfield 91, 3) := by decide +kernel
theorem dX4_nthValue_46 : decode cX4_nthValue 46 = .ok (.iload_n 1, 1) := by decide +kernel
theorem dX4_nthValue_47 : decode cX4_nthValue 47 = .ok (.if_icmp .ne 27, 3) := by decide +kernel
theorem dX4_nthValue_50 : decode cX4_nthValue 50 = .ok (.aload 6, 2) := by decide +kernel
theorem dX4_nthValue_52 : decode cX4_nthValue 52 = .ok (.getfield 92, 3) := by decide +kernel
theorem dX4_nthValue_55 : decode cX4_nthValue 55 = .ok (.iload_n 3, 1) := by decide +kernel
theorem dX4_nthValue_56 : decode cX4_nthValue 56 = .ok (.if_icmp .ne 18, 3) := by decide +kernel
theorem dX4_nthValue_59 : decode cX4_nthValue 59 = .ok (.iinc 4 1, 3) := by decide +kernel
theorem dX4_nthValue_62 : decode cX4_nthValue 62 = .ok (.iload 4, 2) := by decide +kernel
theorem dX4_nthValue_64 : decode cX4_nthValue 64 = .ok (.iload_n 2, 1) := by decide +kernel
theorem dX4_nthValue_65 : decode cX4_nthValue 65 = .ok (.if_icmp .ne 9, 3) := by decide +kernel
theorem dX4_nthValue_68 : decode cX4_nthValue 68 = .ok (.aload 6, 2) := by decide +kernel
theorem dX4_nthValue_70 : decode cX4_nthValue 70 = .ok (.getfield 95, 3) := by decide +kernel
theorem dX4_nthValue_73 : decode cX4_nthValue 73 = .ok (.ireturn, 1) := by decide +kernel
theorem dX4_nthValue_74 : decode cX4_nthValue 74 = .ok (.iinc 5 1, 3) := by decide +kernel
theorem dX4_nthValue_77 : decode cX4_nthValue 77 = .ok (.goto (-62), 3) := by decide +kernel
theorem dX4_nthValue_80 : decode cX4_nthValue 80 = .ok (.iconst (-1), 1) := by decide +kernel
theorem dX4_nthValue_81 : decode cX4_nthValue 81 = .ok (.ireturn, 1) := by decide +kernel
theorem dX5_init_0 : decode cX5_init 0 = .ok (.aload_n 0, 1) := by decide +kernel
theorem dX5_init_1 : decode cX5_init 1 = .ok (.invokespecial 1, 3) := by decide +kernel
theorem dX5_init_4 : decode cX5_init 4 = .ok (.aload_n 0, 1) := by decide +kernel
theorem dX5_init_5 : decode cX5_init 5 = .ok (.iconst 4, 1) := by decide +kernel
theorem dX5_init_6 : decode cX5_init 6 = .ok (.anewarray 9, 3) := by decide +kernel
theorem dX5_init_9 : decode cX5_init 9 = .ok (.putfield 11, 3) := by decide +kernel
theorem dX5_init_12 : decode cX5_init 12 = .ok (.aload_n 0, 1) := by decide +kernel
theorem dX5_init_13 : decode cX5_init 13 = .ok (.new 15, 3) := by decide +kernel
theorem dX5_init_16 : decode cX5_init 16 = .ok (.dup, 1) := by decide +kernel
theorem dX5_init_17 : decode cX5_init 17 = .ok (.invokespecial 17, 3) := by decide +kernel
theorem dX5_init_20 : decode cX5_init 20 = .ok (.putfield 18, 3) := by decide +kernel
theorem dX5_init_23 : decode cX5_init 23 = .ok (.aload_n 0, 1) := by decide +kernel
theorem dX5_init_24 : decode cX5_init 24 = .ok (.bipush 16, 2) := by decide +kernel
theorem dX5_init_26 : decode cX5_init 26 = .ok (.newarray .int, 2) := by decide +kernel
theorem dX5_init_28 : decode cX5_init 28 = .ok (.putfield 22, 3) := by decide +kernel
theorem dX5_init_31 : decode cX5_init 31 = .ok (.aload_n 0, 1) := by decide +kernel
theorem dX5_init_32 : decode cX5_init 32 = .ok (.bipush 16, 2) := by decide +kernel
theorem dX5_init_34 : decode cX5_init 34 = .ok (.newarray .int, 2) := by decide +kernel
theorem dX5_init_36 : decode cX5_init 36 = .ok (.putfield 26, 3) := by decide +kernel
theorem dX5_init_39 : decode cX5_init 39 = .ok (.aload_n 0, 1) := by decide +kernel
theorem dX5_init_40 : decode cX5_init 40 = .ok (.bipush 16, 2) := by decide +kernel
theorem dX5_init_42 : decode cX5_init 42 = .ok (.newarray .int, 2) := by decide +kernel
theorem dX5_init_44 : decode cX5_init 44 = .ok (.putfield 29, 3) := by decide +kernel
theorem dX5_init_47 : decode cX5_init 47 = .ok (.aload_n 0, 1) := by decide +kernel
theorem dX5_init_48 : decode cX5_init 48 = .ok (.new 32, 3) := by decide +kernel
theorem dX5_init_51 : decode cX5_init 51 = .ok (.dup, 1) := by decide +kernel
theorem dX5_init_52 : decode cX5_init 52 = .ok (.invokespecial 34, 3) := by decide +kernel
theorem dX5_init_55 : decode cX5_init 55 = .ok (.putfield 35, 3) := by decide +kernel
theorem dX5_init_58 : decode cX5_init 58 = .ok (.iconst 0, 1) := by decide +kernel
theorem dX5_init_59 : decode cX5_init 59 = .ok (.istore_n 1, 1) := by decide +kernel
theorem dX5_init_60 : decode cX5_init 60 = .ok (.iload_n 1, 1) := by decide +kernel
theorem dX5_init_61 : decode cX5_init 61 = .ok (.iconst 4, 1) := by decide +kernel
theorem dX5_init_62 : decode cX5_init 62 = .ok (.if_icmp .ge 22, 3) := by decide +kernel
theorem dX5_init_65 : decode cX5_init 65 = .ok (.aload_n 0, 1) := by decide +kernel
theorem dX5_init_66 : decode cX5_init 66 = .ok (.getfield 11, 3) := by decide +kernel
theorem dX5_init_69 : decode cX5_init 69 = .ok (.iload_n 1, 1) := by decide +kernel
theorem dX5_init_70 : decode cX5_init 70 = .ok (.new 9, 3) := by decide +kernel
theorem dX5_init_73 : decode cX5_init 73 = .ok (.dup, 1) := by decide +kernel
theorem dX5_init_74 : decode cX5_init 74 = .ok (.invokespecial 39, 3) := by decide +kernel
theorem dX5_init_77 : decode cX5_init 77 = .ok (.aastore, 1) := by decide +kernel
theorem dX5_init_78 : decode cX5_init 78 = .ok (.iinc 1 1, 3) := by decide +kernel
theorem dX5_init_81 : decode cX5_init 81 = .ok (.goto (-21), 3) := by decide +kernel
theorem dX5_init_84 : decode cX5_init 84 = .ok (.return_, 1) := by decide +kernel
theorem dX5_write_0 : decode cX5_write 0 = .ok (.aload_n 0, 1) := by decide +kernel
theorem dX5_write_1 : decode cX5_write 1 = .ok (.iload_n 1, 1) := by decide +kernel
theorem dX5_write_2 : decode cX5_write 2 = .ok (.invokevirtual 40, 3) := by decide +kernel
theorem dX5_write_5 : decode cX5_write 5 = .ok (.astore 4, 2) := by decide +kernel
theorem dX5_write_7 : decode cX5_write 7 = .ok (.iload_n 2, 1) := by decide +kernel
theorem dX5_write_8 : decode cX5_write 8 = .ok (.iconst 0, 1) := by decide +kernel
theorem dX5_write_9 : decode cX5_write 9 = .ok (.bipush 12, 2) := by decide +kernel
theorem dX5_write_11 : decode cX5_write 11 = .ok (.invokestatic 44, 3) := by decide +kernel
theorem dX5_write_14 : decode cX5_write 14 = .ok (.ifCond .ne 13, 3) := by decide +kernel
theorem dX5_write_17 : decode cX5_write 17 = .ok (.new 48, 3) := by decide +kernel
theorem dX5_write_20 : decode cX5_write 20 = .ok (.dup, 1) := by decide +kernel
theorem dX5_write_21 : decode cX5_write 21 = .ok (.ldc 50, 2) := by decide +kernel
theorem dX5_write_23 : decode cX5_write 23 = .ok (.invokespecial 52, 3) := by decide +kernel
theorem dX5_write_26 : decode cX5_write 26 = .ok (.athrow, 1) := by decide +kernel
theorem dX5_write_27 : decode cX5_write 27 = .ok (.iload_n 3, 1) := by decide +kernel
theorem dX5_write_28 : decode cX5_write 28 = .ok (.getstatic 55, 3) := by decide +kernel
theorem dX5_write_31 : decode cX5_write 31 = .ok (.iload_n 2, 1) := by decide +kernel
theorem dX5_write_32 : decode cX5_write 32 = .ok (.invokestatic 58, 3) := by decide +kernel
theorem dX5_write_35 : decode cX5_write 35 = .ok (.getstatic 62, 3) := by decide +kernel
theorem dX5_write_38 : decode cX5_write 38 = .ok (.iload_n 2, 1) := by decide +kernel
theorem dX5_write_39 : decode cX5_write 39 = .ok (.invokestatic 58, 3) := by decide +kernel
theorem dX5_write_42 : decode cX5_write 42 = .ok (.invokestatic 44, 3) := by decide +kernel
theorem dX5_write_45 : decode cX5_write 45 = .ok (.ifCond .ne 13, 3) := by decide +kernel
theorem dX5_write_48 : decode cX5_write 48 = .ok (.new 48, 3) := by decide +kernel
theorem dX5_write_51 : decode cX5_write 51 = .ok (.dup, 1) := by decide +kernel
theorem dX5_write_52 : decode cX5_write 52 = .ok (.ldc 65, 2) := by decide +kernel
theorem dX5_write_54 : decode cX5_write 54 = .ok (.invokespecial 52, 3) := by decide +kernel
theorem dX5_write_57 : decode cX5_write 57 = .ok (.athrow, 1) := by decide +kernel
theorem dX5_write_58 : decode cX5_write 58 = .ok (.aload 4, 2) := by decide +kernel
theorem dX5_write_60 : decode cX5_write 60 = .ok (.getfield 67, 3) := by decide +kernel
theorem dX5_write_63 : decode cX5_write 63 = .ok (.invokevirtual 71, 3) := by decide +kernel
theorem dX5_write_66 : decode cX5_write 66 = .ok (.ifCond .eq 13, 3) := by decide +kernel
theorem dX5_write_69 : decode cX5_write 69 = .ok (.new 77, 3) := by decide +kernel
theorem dX5_write_72 : decode cX5_write 72 = .ok (.dup, 1) := by decide +kernel
theorem dX5_write_73 : decode cX5_write 73 = .ok (.ldc 79, 2) := by decide +kernel
theorem dX5_write_75 : decode cX5_write 75 = .ok (.invokespecial 81, 3) := by decide +kernel
theorem dX5_write_78 : decode cX5_write 78 = .ok (.athrow, 1) := by decide +kernel
theorem dX5_write_79 : decode cX5_write 79 = .ok (.aload 4, 2) := by decide +kernel
theorem dX5_write_81 : decode cX5_write 81 = .ok (.getfield 67, 3) := by decide +kernel
theorem dX5_write_84 : decode cX5_write 84 = .ok (.iload_n 2, 1) := by decide +kernel
theorem dX5_write_85 : decode cX5_write 85 = .ok (.iload_n 3, 1) := by decide +kernel
theorem dX5_write_86 : decode cX5_write 86 = .ok (.invokevirtual 82, 3) := by decide +kernel
theorem dX5_write_89 : decode cX5_write 89 = .ok (.aload 4, 2) := by decide +kernel
theorem dX5_write_91 : decode cX5_write 91 = .ok (.getfield 67, 3) := by decide +kernel
theorem dX5_write_94 : decode cX5_write 94 = .ok (.getfield 86, 3) := by decide +kernel
theorem dX5_write_97 : decode cX5_write 97 = .ok (.ireturn, 1) := by decide +kernel
theorem dX5_publish_0 : decode cX5_publish 0 = .ok (.aload_n 0, 1) := by decide +kernel
theorem dX5_publish_1 : decode cX5_publish 1 = .ok (.iload_n 1, 1) := by decide +kernel
theorem dX5_publish_2 : decode cX5_publish 2 = .ok (.invokevirtual 40, 3) := by decide +kernel
theorem dX5_publish_5 : decode cX5_publish 5 = .ok (.astore_n 2, 1) := by decide +kernel
theorem dX5_publish_6 : decode cX5_publish 6 = .ok (.aload_n 2, 1) := by decide +kernel
theorem dX5_publish_7 : decode cX5_publish 7 = .ok (.getfield 67, 3) := by decide +kernel
theorem dX5_publish_10 : decode cX5_publish 10 = .ok (.getfield 86, 3) := by decide +kernel
theorem dX5_publish_13 : decode cX5_publish 13 = .ok (.ifCond .eq 12, 3) := by decide +kernel
theorem dX5_publish_16 : decode cX5_publish 16 = .ok (.aload_n 2, 1) := by decide +kernel
theorem dX5_publish_17 : decode cX5_publish 17 = .ok (.getfield 90, 3) := by decide +kernel
theorem dX5_publish_20 : decode cX5_publish 20 = .ok (.bipush 6, 2) := by decide +kernel
theorem dX5_publish_22 : decode cX5_publish 22 = .ok (.if_icmp .lt 13, 3) := by decide +kernel
theorem dX5_publish_25 : decode cX5_publish 25 = .ok (.new 77, 3) := by decide +kernel
theorem dX5_publish_28 : decode cX5_publish 28 = .ok (.dup, 1) := by decide +kernel
theorem dX5_publish_29 : decode cX5_publish 29 = .ok (.ldc 93, 2) := by decide +kernel
theorem dX5_publish_31 : decode cX5_publish 31 = .ok (.invokespecial 81, 3) := by decide +kernel
theorem dX5_publish_34 : decode cX5_publish 34 = .ok (.athrow, 1) := by decide +kernel
theorem dX5_publish_35 : decode cX5_publish 35 = .ok (.aload_n 2, 1) := by decide +kernel
theorem dX5_publish_36 : decode cX5_publish 36 = .ok (.invokevirtual 95, 3) := by decide +kernel
theorem dX5_publish_39 : decode cX5_publish 39 = .ok (.aload_n 2, 1) := by decide +kernel
theorem dX5_publish_40 : decode cX5_publish 40 = .ok (.invokevirtual 98, 3) := by decide +kernel
theorem dX5_publish_43 : decode cX5_publish 43 = .ok (.ireturn, 1) := by decide +kernel
theorem dX5_setFuel_0 : decode cX5_setFuel 0 = .ok (.aload_n 0, 1) := by decide +kernel
theorem dX5_setFuel_1 : decode cX5_setFuel 1 = .ok (.iload_n 1, 1) := by decide +kernel
theorem dX5_setFuel_2 : decode cX5_setFuel 2 = .ok (.invokevirtual 40, 3) := by decide +kernel
theorem dX5_setFuel_5 : decode cX5_setFuel 5 = .ok (.astore_n 3, 1) := by decide +kernel
theorem dX5_setFuel_6 : decode cX5_setFuel 6 = .ok (.iload_n 2, 1) := by decide +kernel
theorem dX5_setFuel_7 : decode cX5_setFuel 7 = .ok (.iconst 1, 1) := by decide +kernel
theorem dX5_setFuel_8 : decode cX5_setFuel 8 = .ok (.sipush 200, 3) := by decide +kernel
theorem dX5_setFuel_11 : decode cX5_setFuel 11 = .ok (.invokestatic 44, 3) := by decide +kernel
theorem dX5_setFuel_14 : decode cX5_setFuel 14 = .ok (.ifCond .ne 13, 3) := by decide +kernel
theorem dX5_setFuel_17 : decode cX5_setFuel 17 = .ok (.new 48, 3) := by decide +kernel
theorem dX5_setFuel_20 : decode cX5_setFuel 20 = .ok (.dup, 1) := by decide +kernel
theorem dX5_setFuel_21 : decode cX5_setFuel 21 = .ok (.ldc 102, 2) := by decide +kernel
theorem dX5_setFuel_23 : decode cX5_setFuel 23 = .ok (.invokespecial 52, 3) := by decide +kernel
theorem dX5_setFuel_26 : decode cX5_setFuel 26 = .ok (.athrow, 1) := by decide +kernel
theorem dX5_setFuel_27 : decode cX5_setFuel 27 = .ok (.aload_n 3, 1) := by decide +kernel
theorem dX5_setFuel_28 : decode cX5_setFuel 28 = .ok (.getfield 104, 3) := by decide +kernel
theorem dX5_setFuel_31 : decode cX5_setFuel 31 = .ok (.istore 4, 2) := by decide +kernel
theorem dX5_setFuel_33 : decode cX5_setFuel 33 = .ok (.aload_n 3, 1) := by decide +kernel
theorem dX5_setFuel_34 : decode cX5_setFuel 34 = .ok (.iload_n 2, 1) := by decide +kernel
theorem dX5_setFuel_35 : decode cX5_setFuel 35 = .ok (.putfield 104, 3) := by decide +kernel
theorem dX5_setFuel_38 : decode cX5_setFuel 38 = .ok (.iload 4, 2) := by decide +kernel
theorem dX5_setFuel_40 : decode cX5_setFuel 40 = .ok (.ireturn, 1) := by decide +kernel
theorem dX5_fund_0 : decode cX5_fund 0 = .ok (.aload_n 0, 1) := by decide +kernel
theorem dX5_fund_1 : decode cX5_fund 1 = .ok (.iload_n 1, 1) := by decide +kernel
theorem dX5_fund_2 : decode cX5_fund 2 = .ok (.invokevirtual 40, 3) := by decide +kernel
theorem dX5_fund_5 : decode cX5_fund 5 = .ok (.astore_n 3, 1) := by decide +kernel
theorem dX5_fund_6 : decode cX5_fund 6 = .ok (.iload_n 2, 1) := by decide +kernel
theorem dX5_fund_7 : decode cX5_fund 7 = .ok (.iconst 1, 1) := by decide +kernel
theorem dX5_fund_8 : decode cX5_fund 8 = .ok (.ldc 107, 2) := by decide +kernel
theorem dX5_fund_10 : decode cX5_fund 10 = .ok (.invokestatic 44, 3) := by decide +kernel
theorem dX5_fund_13 : decode cX5_fund 13 = .ok (.ifCond .ne 13, 3) := by decide +kernel
theorem dX5_fund_16 : decode cX5_fund 16 = .ok (.new 48, 3) := by decide +kernel
theorem dX5_fund_19 : decode cX5_fund 19 = .ok (.dup, 1) := by decide +kernel
theorem dX5_fund_20 : decode cX5_fund 20 = .ok (.ldc 108, 2) := by decide +kernel
theorem dX5_fund_22 : decode cX5_fund 22 = .ok (.invokespecial 52, 3) := by decide +kernel
theorem dX5_fund_25 : decode cX5_fund 25 = .ok (.athrow, 1) := by decide +kernel
theorem dX5_fund_26 : decode cX5_fund 26 = .ok (.aload_n 3, 1) := by decide +kernel
theorem dX5_fund_27 : decode cX5_fund 27 = .ok (.dup, 1) := by decide +kernel
theorem dX5_fund_28 : decode cX5_fund 28 = .ok (.getfield 110, 3) := by decide +kernel
theorem dX5_fund_31 : decode cX5_fund 31 = .ok (.iload_n 2, 1) := by decide +kernel
theorem dX5_fund_32 : decode cX5_fund 32 = .ok (.iadd, 1) := by decide +kernel
theorem dX5_fund_33 : decode cX5_fund 33 = .ok (.putfield 110, 3) := by decide +kernel
theorem dX5_fund_36 : decode cX5_fund 36 = .ok (.aload_n 3, 1) := by decide +kernel
theorem dX5_fund_37 : decode cX5_fund 37 = .ok (.getfield 110, 3) := by decide +kernel
theorem dX5_fund_40 : decode cX5_fund 40 = .ok (.ireturn, 1) := by decide +kernel
theorem dX5_setQuota_0 : decode cX5_setQuota 0 = .ok (.aload_n 0, 1) := by decide +kernel
theorem dX5_setQuota_1 : decode cX5_setQuota 1 = .ok (.iload_n 1, 1) := by decide +kernel
theorem dX5_setQuota_2 : decode cX5_setQuota 2 = .ok (.invokevirtual 40, 3) := by decide +kernel
theorem dX5_setQuota_5 : decode cX5_setQuota 5 = .ok (.astore 4, 2) := by decide +kernel
theorem dX5_setQuota_7 : decode cX5_setQuota 7 = .ok (.iload_n 2, 1) := by decide +kernel
theorem dX5_setQuota_8 : decode cX5_setQuota 8 = .ok (.iconst 0, 1) := by decide +kernel
theorem dX5_setQuota_9 : decode cX5_setQuota 9 = .ok (.iconst 3, 1) := by decide +kernel
theorem dX5_setQuota_10 : decode cX5_setQuota 10 = .ok (.invokestatic 44, 3) := by decide +kernel
theorem dX5_setQuota_13 : decode cX5_setQuota 13 = .ok (.ifCond .ne 13, 3) := by decide +kernel
theorem dX5_setQuota_16 : decode cX5_setQuota 16 = .ok (.new 113, 3) := by decide +kernel
theorem dX5_setQuota_19 : decode cX5_setQuota 19 = .ok (.dup, 1) := by decide +kernel
theorem dX5_setQuota_20 : decode cX5_setQuota 20 = .ok (.ldc 115, 2) := by decide +kernel
theorem dX5_setQuota_22 : decode cX5_setQuota 22 = .ok (.invokespecial 117, 3) := by decide +kernel
theorem dX5_setQuota_25 : decode cX5_setQuota 25 = .ok (.athrow, 1) := by decide +kernel
theorem dX5_setQuota_26 : decode cX5_setQuota 26 = .ok (.iload_n 3, 1) := by decide +kernel
theorem dX5_setQuota_27 : decode cX5_setQuota 27 = .ok (.iconst 0, 1) := by decide +kernel
theorem dX5_setQuota_28 : decode cX5_setQuota 28 = .ok (.bipush 20, 2) := by decide +kernel
theorem dX5_setQuota_30 : decode cX5_setQuota 30 = .ok (.invokestatic 44, 3) := by decide +kernel
theorem dX5_setQuota_33 : decode cX5_setQuota 33 = .ok (.ifCond .ne 13, 3) := by decide +kernel
theorem dX5_setQuota_36 : decode cX5_setQuota 36 = .ok (.new 48, 3) := by decide +kernel
theorem dX5_setQuota_39 : decode cX5_setQuota 39 = .ok (.dup, 1) := by decide +kernel
theorem dX5_setQuota_40 : decode cX5_setQuota 40 = .ok (.ldc 118, 2) := by decide +kernel
theorem dX5_setQuota_42 : decode cX5_setQuota 42 = .ok (.invokespecial 52, 3) := by decide +kernel
theorem dX5_setQuota_45 : decode cX5_setQuota 45 = .ok (.athrow, 1) := by decide +kernel
theorem dX5_setQuota_46 : decode cX5_setQuota 46 = .ok (.aload 4, 2) := by decide +kernel
theorem dX5_setQuota_48 : decode cX5_setQuota 48 = .ok (.getfield 120, 3) := by decide +kernel
theorem dX5_setQuota_51 : decode cX5_setQuota 51 = .ok (.iload_n 2, 1) := by decide +kernel
theorem dX5_setQuota_52 : decode cX5_setQuota 52 = .ok (.iaload, 1) := by decide +kernel
theorem dX5_setQuota_53 : decode cX5_setQuota 53 = .ok (.istore 5, 2) := by decide +kernel
theorem dX5_setQuota_55 : decode cX5_setQuota 55 = .ok (.aload 4, 2) := by decide +kernel
theorem dX5_setQuota_57 : decode cX5_setQuota 57 = .ok (.getfield 120, 3) := by decide +kernel
theorem dX5_setQuota_60 : decode cX5_setQuota 60 = .ok (.iload_n 2, 1) := by decide +kernel
theorem dX5_setQuota_61 : decode cX5_setQuota 61 = .ok (.iload_n 3, 1) := by decide +kernel
theorem dX5_setQuota_62 : decode cX5_setQuota 62 = .ok (.iastore, 1) := by decide +kernel
theorem dX5_setQuota_63 : decode cX5_setQuota 63 = .ok (.iload 5, 2) := by decide +kernel
theorem dX5_setQuota_65 : decode cX5_setQuota 65 = .ok (.ireturn, 1) := by decide +kernel
theorem dX5_setPrice_0 : decode cX5_setPrice 0 = .ok (.iload_n 1, 1) := by decide +kernel
theorem dX5_setPrice_1 : decode cX5_setPrice 1 = .ok (.iconst 0, 1) := by decide +kernel
theorem dX5_setPrice_2 : decode cX5_setPrice 2 = .ok (.bipush 15, 2) := by decide +kernel
theorem dX5_setPrice_4 : decode cX5_setPrice 4 = .ok (.invokestatic 44, 3) := by decide +kernel
theorem dX5_setPrice_7 : decode cX5_setPrice 7 = .ok (.ifCond .ne 13, 3) := by decide +kernel
theorem dX5_setPrice_10 : decode cX5_setPrice 10 = .ok (.new 113, 3) := by decide +kernel
theorem dX5_setPrice_13 : decode cX5_setPrice 13 = .ok (.dup, 1) := by decide +kernel
theorem dX5_setPrice_14 : decode cX5_setPrice 14 = .ok (.ldc 123, 2) := by decide +kernel
theorem dX5_setPrice_16 : decode cX5_setPrice 16 = .ok (.invokespecial 117, 3) := by decide +kernel
theorem dX5_setPrice_19 : decode cX5_setPrice 19 = .ok (.athrow, 1) := by decide +kernel
theorem dX5_setPrice_20 : decode cX5_setPrice 20 = .ok (.iload_n 2, 1) := by decide +kernel
theorem dX5_setPrice_21 : decode cX5_setPrice 21 = .ok (.iconst 0, 1) := by decide +kernel
theorem dX5_setPrice_22 : decode cX5_setPrice 22 = .ok (.sipush 1000, 3) := by decide +kernel
theorem dX5_setPrice_25 : decode cX5_setPrice 25 = .ok (.invokestatic 44, 3) := by decide +kernel
theorem dX5_setPrice_28 : decode cX5_setPrice 28 = .ok (.ifCond .ne 13, 3) := by decide +kernel
theorem dX5_setPrice_31 : decode cX5_setPrice 31 = .ok (.new 48, 3) := by decide +kernel
theorem dX5_setPrice_34 : decode cX5_setPrice 34 = .ok (.dup, 1) := by decide +kernel
theorem dX5_setPrice_35 : decode cX5_setPrice 35 = .ok (.ldc 125, 2) := by decide +kernel
theorem dX5_setPrice_37 : decode cX5_setPrice 37 = .ok (.invokespecial 52, 3) := by decide +kernel
theorem dX5_setPrice_40 : decode cX5_setPrice 40 = .ok (.athrow, 1) := by decide +kernel
theorem dX5_setPrice_41 : decode cX5_setPrice 41 = .ok (.aload_n 0, 1) := by decide +kernel
theorem dX5_setPrice_42 : decode cX5_setPrice 42 = .ok (.getfield 22, 3) := by decide +kernel
theorem dX5_setPrice_45 : decode cX5_setPrice 45 = .ok (.iload_n 1, 1) := by decide +kernel
theorem dX5_setPrice_46 : decode cX5_setPrice 46 = .ok (.iaload, 1) := by decide +kernel
theorem dX5_setPrice_47 : decode cX5_setPrice 47 = .ok (.istore_n 3, 1) := by decide +kernel
theorem dX5_setPrice_48 : decode cX5_setPrice 48 = .ok (.aload_n 0, 1) := by decide +kernel
theorem dX5_setPrice_49 : decode cX5_setPrice 49 = .ok (.getfield 22, 3) := by decide +kernel
theorem dX5_setPrice_52 : decode cX5_setPrice 52 = .ok (.iload_n 1, 1) := by decide +kernel
theorem dX5_setPrice_53 : decode cX5_setPrice 53 = .ok (.iload_n 2, 1) := by decide +kernel
theorem dX5_setPrice_54 : decode cX5_setPrice 54 = .ok (.iastore, 1) := by decide +kernel
theorem dX5_setPrice_55 : decode cX5_setPrice 55 = .ok (.iload_n 3, 1) := by decide +kernel
theorem dX5_setPrice_56 : decode cX5_setPrice 56 = .ok (.ireturn, 1) := by decide +kernel
theorem dX5_reword_0 : decode cX5_reword 0 = .ok (.iload_n 1, 1) := by decide +kernel
theorem dX5_reword_1 : decode cX5_reword 1 = .ok (.iconst 0, 1) := by decide +kernel
theorem dX5_reword_2 : decode cX5_reword 2 = .ok (.bipush 15, 2) := by decide +kernel
theorem dX5_reword_4 : decode cX5_reword 4 = .ok (.invokestatic 44, 3) := by decide +kernel
theorem dX5_reword_7 : decode cX5_reword 7 = .ok (.ifCond .ne 13, 3) := by decide +kernel
theorem dX5_reword_10 : decode cX5_reword 10 = .ok (.new 113, 3) := by decide +kernel
theorem dX5_reword_13 : decode cX5_reword 13 = .ok (.dup, 1) := by decide +kernel
theorem dX5_reword_14 : decode cX5_reword 14 = .ok (.ldc 123, 2) := by decide +kernel
theorem dX5_reword_16 : decode cX5_reword 16 = .ok (.invokespecial 117, 3) := by decide +kernel
theorem dX5_reword_19 : decode cX5_reword 19 = .ok (.athrow, 1) := by decide +kernel
theorem dX5_reword_20 : decode cX5_reword 20 = .ok (.aload_n 0, 1) := by decide +kernel
theorem dX5_reword_21 : decode cX5_reword 21 = .ok (.getfield 26, 3) := by decide +kernel
theorem dX5_reword_24 : decode cX5_reword 24 = .ok (.iload_n 1, 1) := by decide +kernel
theorem dX5_reword_25 : decode cX5_reword 25 = .ok (.dup2, 1) := by decide +kernel
theorem dX5_reword_26 : decode cX5_reword 26 = .ok (.iaload, 1) := by decide +kernel
theorem dX5_reword_27 : decode cX5_reword 27 = .ok (.iconst 1, 1) := by decide +kernel
theorem dX5_reword_28 : decode cX5_reword 28 = .ok (.iadd, 1) := by decide +kernel
theorem dX5_reword_29 : decode cX5_reword 29 = .ok (.iastore, 1) := by decide +kernel
theorem dX5_reword_30 : decode cX5_reword 30 = .ok (.aload_n 0, 1) := by decide +kernel
theorem dX5_reword_31 : decode cX5_reword 31 = .ok (.getfield 26, 3) := by decide +kernel
theorem dX5_reword_34 : decode cX5_reword 34 = .ok (.iload_n 1, 1) := by decide +kernel
theorem dX5_reword_35 : decode cX5_reword 35 = .ok (.iaload, 1) := by decide +kernel
theorem dX5_reword_36 : decode cX5_reword 36 = .ok (.ireturn, 1) := by decide +kernel
theorem dX5_begin_0 : decode cX5_begin 0 = .ok (.iload_n 1, 1) := by decide +kernel
theorem dX5_begin_1 : decode cX5_begin 1 = .ok (.iconst 0, 1) := by decide +kernel
theorem dX5_begin_2 : decode cX5_begin 2 = .ok (.bipush 15, 2) := by decide +kernel
theorem dX5_begin_4 : decode cX5_begin 4 = .ok (.invokestatic 44, 3) := by decide +kernel
theorem dX5_begin_7 : decode cX5_begin 7 = .ok (.ifCond .ne 13, 3) := by decide +kernel
theorem dX5_begin_10 : decode cX5_begin 10 = .ok (.new 113, 3) := by decide +kernel
theorem dX5_begin_13 : decode cX5_begin 13 = .ok (.dup, 1) := by decide +kernel
theorem dX5_begin_14 : decode cX5_begin 14 = .ok (.ldc 127, 2) := by decide +kernel
theorem dX5_begin_16 : decode cX5_begin 16 = .ok (.invokespecial 117, 3) := by decide +kernel
theorem dX5_begin_19 : decode cX5_begin 19 = .ok (.athrow, 1) := by decide +kernel
theorem dX5_begin_20 : decode cX5_begin 20 = .ok (.aload_n 0, 1) := by decide +kernel
theorem dX5_begin_21 : decode cX5_begin 21 = .ok (.iload_n 2, 1) := by decide +kernel
theorem dX5_begin_22 : decode cX5_begin 22 = .ok (.invokevirtual 40, 3) := by decide +kernel
theorem dX5_begin_25 : decode cX5_begin 25 = .ok (.astore_n 3, 1) := by decide +kernel
theorem dX5_begin_26 : decode cX5_begin 26 = .ok (.aload_n 3, 1) := by decide +kernel
theorem dX5_begin_27 : decode cX5_begin 27 = .ok (.getfield 90, 3) := by decide +kernel
theorem dX5_begin_30 : decode cX5_begin 30 = .ok (.ifCond .eq 24, 3) := by decide +kernel
theorem dX5_begin_33 : decode cX5_begin 33 = .ok (.aload_n 0, 1) := by decide +kernel
theorem dX5_begin_34 : decode cX5_begin 34 = .ok (.iload_n 1, 1) := by decide +kernel
theorem dX5_begin_35 : decode cX5_begin 35 = .ok (.aload_n 3, 1) := by decide +kernel
theorem dX5_begin_36 : decode cX5_begin 36 = .ok (.invokevirtual 129, 3) := by decide +kernel
theorem dX5_begin_39 : decode cX5_begin 39 = .ok (.ifCond .ne 15, 3) := by decide +kernel
theorem dX5_begin_42 : decode cX5_begin 42 = .ok (.aload_n 0, 1) := by decide +kernel
theorem dX5_begin_43 : decode cX5_begin 43 = .ok (.getfield 18, 3) := by decide +kernel
theorem dX5_begin_46 : decode cX5_begin 46 = .ok (.invokevirtual 133, 3) := by decide +kernel
theorem dX5_begin_49 : decode cX5_begin 49 = .ok (.bipush 24, 2) := by decide +kernel
theorem dX5_begin_51 : decode cX5_begin 51 = .ok (.if_icmp .lt 13, 3) := by decide +kernel
theorem dX5_begin_54 : decode cX5_begin 54 = .ok (.new 77, 3) := by decide +kernel
theorem dX5_begin_57 : decode cX5_begin 57 = .ok (.dup, 1) := by decide +kernel
theorem dX5_begin_58 : decode cX5_begin 58 = .ok (.ldc 136, 2) := by decide +kernel
theorem dX5_begin_60 : decode cX5_begin 60 = .ok (.invokespecial 81, 3) := by decide +kernel
theorem dX5_begin_63 : decode cX5_begin 63 = .ok (.athrow, 1) := by decide +kernel
theorem dX5_begin_64 : decode cX5_begin 64 = .ok (.new 138, 3) := by decide +kernel
theorem dX5_begin_67 : decode cX5_begin 67 = .ok (.dup, 1) := by decide +kernel
theorem dX5_begin_68 : decode cX5_begin 68 = .ok (.iload_n 1, 1) := by decide +kernel
theorem dX5_begin_69 : decode cX5_begin 69 = .ok (.aload_n 3, 1) := by decide +kernel
theorem dX5_begin_70 : decode cX5_begin 70 = .ok (.invokespecial 140, 3) := by decide +kernel
theorem dX5_begin_73 : decode cX5_begin 73 = .ok (.astore 4, 2) := by decide +kernel
theorem dX5_begin_75 : decode cX5_begin 75 = .ok (.aload_n 0, 1) := by decide +kernel
theorem dX5_begin_76 : decode cX5_begin 76 = .ok (.getfield 18, 3) := by decide +kernel
theorem dX5_begin_79 : decode cX5_begin 79 = .ok (.aload 4, 2) := by decide +kernel
theorem dX5_begin_81 : decode cX5_begin 81 = .ok (.invokevirtual 143, 3) := by decide +kernel
theorem dX5_begin_84 : decode cX5_begin 84 = .ok (.pop, 1) := by decide +kernel
theorem dX5_begin_85 : decode cX5_begin 85 = .ok (.aload_n 0, 1) := by decide +kernel
theorem dX5_begin_86 : decode cX5_begin 86 = .ok (.aload 4, 2) := by decide +kernel
theorem dX5_begin_88 : decode cX5_begin 88 = .ok (.invokevirtual 147, 3) := by decide +kernel
theorem dX5_begin_91 : decode cX5_begin 91 = .ok (.aload_n 0, 1) := by decide +kernel
theorem dX5_begin_92 : decode cX5_begin 92 = .ok (.aload 4, 2) := by decide +kernel
theorem dX5_begin_94 : decode cX5_begin 94 = .ok (.invokevirtual 151, 3) := by decide +kernel
theorem dX5_begin_97 : decode cX5_begin 97 = .ok (.aload_n 0, 1) := by decide +kernel
theorem dX5_begin_98 : decode cX5_begin 98 = .ok (.getfield 18, 3) := by decide +kernel
theorem dX5_begin_101 : decode cX5_begin 101 = .ok (.invokevirtual 133, 3) := by decide +kernel
theorem dX5_begin_104 : decode cX5_begin 104 = .ok (.iconst 1, 1) := by decide +kernel
theorem dX5_begin_105 : decode cX5_begin 105 = .ok (.isub, 1) := by decide +kernel
theorem dX5_begin_106 : decode cX5_begin 106 = .ok (.ireturn, 1) := by decide +kernel
theorem dX5_answer_0 : decode cX5_answer 0 = .ok (.aload_n 0, 1) := by decide +kernel
theorem dX5_answer_1 : decode cX5_answer 1 = .ok (.iload_n 1, 1) := by decide +kernel
theorem dX5_answer_2 : decode cX5_answer 2 = .ok (.invokevirtual 154, 3) := by decide +kernel
theorem dX5_answer_5 : decode cX5_answer 5 = .ok (.astore_n 3, 1) := by decide +kernel
theorem dX5_answer_6 : decode cX5_answer 6 = .ok (.iload_n 2, 1) := by decide +kernel
theorem dX5_answer_7 : decode cX5_answer 7 = .ok (.iconst 0, 1) := by decide +kernel
theorem dX5_answer_8 : decode cX5_answer 8 = .ok (.bipush 9, 2) := by decide +kernel
theorem dX5_answer_10 : decode cX5_answer 10 = .ok (.invokestatic 44, 3) := by decide +kernel
theorem dX5_answer_13 : decode cX5_answer 13 = .ok (.ifCond .ne 13, 3) := by decide +kernel
theorem dX5_answer_16 : decode cX5_answer 16 = .ok (.new 48, 3) := by decide +kernel
theorem dX5_answer_19 : decode cX5_answer 19 = .ok (.dup, 1) := by decide +kernel
theorem dX5_answer_20 : decode cX5_answer 20 = .ok (.ldc 158, 2) := by decide +kernel
theorem dX5_answer_22 : decode cX5_answer 22 = .ok (.invokespecial 52, 3) := by decide +kernel
theorem dX5_answer_25 : decode cX5_answer 25 = .ok (.athrow, 1) := by decide +kernel
theorem dX5_answer_26 : decode cX5_answer 26 = .ok (.aload_n 3, 1) := by decide +kernel
theorem dX5_answer_27 : decode cX5_answer 27 = .ok (.getfield 160, 3) := by decide +kernel
theorem dX5_answer_30 : decode cX5_answer 30 = .ok (.ifCond .ne 16, 3) := by decide +kernel
theorem dX5_answer_33 : decode cX5_answer 33 = .ok (.aload_n 3, 1) := by decide +kernel
theorem dX5_answer_34 : decode cX5_answer 34 = .ok (.getfield 163, 3) := by decide +kernel
theorem dX5_answer_37 : decode cX5_answer 37 = .ok (.invokevirtual 133, 3) := by decide +kernel
theorem dX5_answer_40 : decode cX5_answer 40 = .ok (.sipush 512, 3) := by decide +kernel
theorem dX5_answer_43 : decode cX5_answer 43 = .ok (.if_icmp .lt 13, 3) := by decide +kernel
theorem dX5_answer_46 : decode cX5_answer 46 = .ok (.new 77, 3) := by decide +kernel
theorem dX5_answer_49 : decode cX5_answer 49 = .ok (.dup, 1) := by decide +kernel
theorem dX5_answer_50 : decode cX5_answer 50 = .ok (.ldc 166, 2) := by decide +kernel
theorem dX5_answer_52 : decode cX5_answer 52 = .ok (.invokespecial 81, 3) := by decide +kernel
theorem dX5_answer_55 : decode cX5_answer 55 = .ok (.athrow, 1) := by decide +kernel
theorem dX5_answer_56 : decode cX5_answer 56 = .ok (.aload_n 0, 1) := by decide +kernel
theorem dX5_answer_57 : decode cX5_answer 57 = .ok (.getfield 22, 3) := by decide +kernel
theorem dX5_answer_60 : decode cX5_answer 60 = .ok (.aload_n 3, 1) := by decide +kernel
theorem dX5_answer_61 : decode cX5_answer 61 = .ok (.getfield 168, 3) := by decide +kernel
theorem dX5_answer_64 : decode cX5_answer 64 = .ok (.getfield 171, 3) := by decide +kernel
theorem dX5_answer_67 : decode cX5_answer 67 = .ok (.invokestatic 58, 3) := by decide +kernel
theorem dX5_answer_70 : decode cX5_answer 70 = .ok (.istore 4, 2) := by decide +kernel
theorem dX5_answer_72 : decode cX5_answer 72 = .ok (.aload_n 3, 1) := by decide +kernel
theorem dX5_answer_73 : decode cX5_answer 73 = .ok (.getfield 174, 3) := by decide +kernel
theorem dX5_answer_76 : decode cX5_answer 76 = .ok (.getfield 110, 3) := by decide +kernel
theorem dX5_answer_79 : decode cX5_answer 79 = .ok (.iload 4, 2) := by decide +kernel
theorem dX5_answer_81 : decode cX5_answer 81 = .ok (.if_icmp .ge 13, 3) := by decide +kernel
theorem dX5_answer_84 : decode cX5_answer 84 = .ok (.new 77, 3) := by decide +kernel
theorem dX5_answer_87 : decode cX5_answer 87 = .ok (.dup, 1) := by decide +kernel
theorem dX5_answer_88 : decode cX5_answer 88 = .ok (.ldc 178, 2) := by decide +kernel
theorem dX5_answer_90 : decode cX5_answer 90 = .ok (.invokespecial 81, 3) := by decide +kernel
theorem dX5_answer_93 : decode cX5_answer 93 = .ok (.athrow, 1) := by decide +kernel
theorem dX5_answer_94 : decode cX5_answer 94 = .ok (.aload_n 3, 1) := by decide +kernel
theorem dX5_answer_95 : decode cX5_answer 95 = .ok (.iload_n 2, 1) := by decide +kernel
theorem dX5_answer_96 : decode cX5_answer 96 = .ok (.invokevirtual 180, 3) := by decide +kernel
theorem dX5_answer_99 : decode cX5_answer 99 = .ok (.aload_n 3, 1) := by decide +kernel
theorem dX5_answer_100 : decode cX5_answer 100 = .ok (.dup, 1) := by decide +kernel
theorem dX5_answer_101 : decode cX5_answer 101 = .ok (.getfield 184, 3) := by decide +kernel
theorem dX5_answer_104 : decode cX5_answer 104 = .ok (.iload 4, 2) := by decide +kernel
theorem dX5_answer_106 : decode cX5_answer 106 = .ok (.iadd, 1) := by decide +kernel
theorem dX5_answer_107 : decode cX5_answer 107 = .ok (.putfield 184, 3) := by decide +kernel
theorem dX5_answer_110 : decode cX5_answer 110 = .ok (.aload_n 0, 1) := by decide +kernel
theorem dX5_answer_111 : decode cX5_answer 111 = .ok (.aload_n 3, 1) := by decide +kernel
theorem dX5_answer_112 : decode cX5_answer 112 = .ok (.iload 4, 2) := by decide +kernel
theorem dX5_answer_114 : decode cX5_answer 114 = .ok (.invokevirtual 187, 3) := by decide +kernel
theorem dX5_answer_117 : decode cX5_answer 117 = .ok (.aload_n 3, 1) := by decide +kernel
theorem dX5_answer_118 : decode cX5_answer 118 = .ok (.getfield 168, 3) := by decide +kernel
theorem dX5_answer_121 : decode cX5_answer 121 = .ok (.iload_n 2, 1) := by decide +kernel
theorem dX5_answer_122 : decode cX5_answer 122 = .ok (.invokevirtual 191, 3) := by decide +kernel
theorem dX5_answer_125 : decode cX5_answer 125 = .ok (.aload_n 0, 1) := by decide +kernel
theorem dX5_answer_126 : decode cX5_answer 126 = .ok (.aload_n 3, 1) := by decide +kernel
theorem dX5_answer_127 : decode cX5_answer 127 = .ok (.invokevirtual 151, 3) := by decide +kernel
theorem dX5_answer_130 : decode cX5_answer 130 = .ok (.aload_n 3, 1) := by decide +kernel
theorem dX5_answer_131 : decode cX5_answer 131 = .ok (.getfield 160, 3) := by decide +kernel
theorem dX5_answer_134 : decode cX5_answer 134 = .ok (.ireturn, 1) := by decide +kernel
theorem dX5_save_0 : decode cX5_save 0 = .ok (.aload_n 0, 1) := by decide +kernel
theorem dX5_save_1 : decode cX5_save 1 = .ok (.iload_n 1, 1) := by decide +kernel
theorem dX5_save_2 : decode cX5_save 2 = .ok (.invokevirtual 154, 3) := by decide +kernel
theorem dX5_save_5 : decode cX5_save 5 = .ok (.astore_n 2, 1) := by decide +kernel
theorem dX5_save_6 : decode cX5_save 6 = .ok (.aload_n 2, 1) := by decide +kernel
theorem dX5_save_7 : decode cX5_save 7 = .ok (.getfield 160, 3) := by decide +kernel
theorem dX5_save_10 : decode cX5_save 10 = .ok (.ifCond .eq 13, 3) := by decide +kernel
theorem dX5_save_13 : decode cX5_save 13 = .ok (.new 77, 3) := by decide +kernel
theorem dX5_save_16 : decode cX5_save 16 = .ok (.dup, 1) := by decide +kernel
theorem dX5_save_17 : decode cX5_save 17 = .ok (.ldc 166, 2) := by decide +kernel
theorem dX5_save_19 : decode cX5_save 19 = .ok (.invokespecial 81, 3) := by decide +kernel
theorem dX5_save_22 : decode cX5_save 22 = .ok (.athrow, 1) := by decide +kernel
theorem dX5_save_23 : decode cX5_save 23 = .ok (.aload_n 2, 1) := by decide +kernel
theorem dX5_save_24 : decode cX5_save 24 = .ok (.iconst 1, 1) := by decide +kernel
theorem dX5_save_25 : decode cX5_save 25 = .ok (.putfield 160, 3) := by decide +kernel
theorem dX5_save_28 : decode cX5_save 28 = .ok (.return_, 1) := by decide +kernel
theorem dX5_wake_0 : decode cX5_wake 0 = .ok (.aload_n 0, 1) := by decide +kernel
theorem dX5_wake_1 : decode cX5_wake 1 = .ok (.iload_n 1, 1) := by decide +kernel
theorem dX5_wake_2 : decode cX5_wake 2 = .ok (.invokevirtual 154, 3) := by decide +kernel
theorem dX5_wake_5 : decode cX5_wake 5 = .ok (.astore_n 2, 1) := by decide +kernel
theorem dX5_wake_6 : decode cX5_wake 6 = .ok (.aload_n 2, 1) := by decide +kernel
theorem dX5_wake_7 : decode cX5_wake 7 = .ok (.getfield 160, 3) := by decide +kernel
theorem dX5_wake_10 : decode cX5_wake 10 = .ok (.iconst 1, 1) := by decide +kernel
theorem dX5_wake_11 : decode cX5_wake 11 = .ok (.if_icmp .eq 13, 3) := by decide +kernel
theorem dX5_wake_14 : decode cX5_wake 14 = .ok (.new 77, 3) := by decide +kernel
theorem dX5_wake_17 : decode cX5_wake 17 = .ok (.dup, 1) := by decide +kernel
theorem dX5_wake_18 : decode cX5_wake 18 = .ok (.ldc 194, 2) := by decide +kernel
theorem dX5_wake_20 : decode cX5_wake 20 = .ok (.invokespecial 81, 3) := by decide +kernel
theorem dX5_wake_23 : decode cX5_wake 23 = .ok (.athrow, 1) := by decide +kernel
theorem dX5_wake_24 : decode cX5_wake 24 = .ok (.aload_n 0, 1) := by decide +kernel
theorem dX5_wake_25 : decode cX5_wake 25 = .ok (.aload_n 2, 1) := by decide +kernel
theorem dX5_wake_26 : decode cX5_wake 26 = .ok (.invokevirtual 196, 3) := by decide +kernel
theorem dX5_wake_29 : decode cX5_wake 29 = .ok (.ifCond .ne 10, 3) := by decide +kernel
theorem dX5_wake_32 : decode cX5_wake 32 = .ok (.aload_n 2, 1) := by decide +kernel
theorem dX5_wake_33 : decode cX5_wake 33 = .ok (.iconst 0, 1) := by decide +kernel
theorem dX5_wake_34 : decode cX5_wake 34 = .ok (.putfield 160, 3) := by decide +kernel
theorem dX5_wake_37 : decode cX5_wake 37 = .ok (.iconst 0, 1) := by decide +kernel
theorem dX5_wake_38 : decode cX5_wake 38 = .ok (.ireturn, 1) := by decide +kernel
theorem dX5_wake_39 : decode cX5_wake 39 = .ok (.aload_n 0, 1) := by decide +kernel
theorem dX5_wake_40 : decode cX5_wake 40 = .ok (.aload_n 2, 1) := by decide +kernel
theorem dX5_wake_41 : decode cX5_wake 41 = .ok (.invokevirtual 147, 3) := by decide +kernel
theorem dX5_wake_44 : decode cX5_wake 44 = .ok (.aload_n 0, 1) := by decide +kernel
theorem dX5_wake_45 : decode cX5_wake 45 = .ok (.aload_n 2, 1) := by decide +kernel
theorem dX5_wake_46 : decode cX5_wake 46 = .ok (.invokevirtual 151, 3) := by decide +kernel
theorem dX5_wake_49 : decode cX5_wake 49 = .ok (.iconst 1, 1) := by decide +kernel
theorem dX5_wake_50 : decode cX5_wake 50 = .ok (.ireturn, 1) := by decide +kernel
theorem dX5_leave_0 : decode cX5_leave 0 = .ok (.aload_n 0, 1) := by decide +kernel
theorem dX5_leave_1 : decode cX5_leave 1 = .ok (.iload_n 1, 1) := by decide +kernel
theorem dX5_leave_2 : decode cX5_leave 2 = .ok (.invokevirtual 154, 3) := by decide +kernel
theorem dX5_leave_5 : decode cX5_leave 5 = .ok (.astore_n 2, 1) := by decide +kernel
theorem dX5_leave_6 : decode cX5_leave 6 = .ok (.aload_n 2, 1) := by decide +kernel
theorem dX5_leave_7 : decode cX5_leave 7 = .ok (.getfield 160, 3) := by decide +kernel
theorem dX5_leave_10 : decode cX5_leave 10 = .ok (.ifCond .eq 21, 3) := by decide +kernel
theorem dX5_leave_13 : decode cX5_leave 13 = .ok (.aload_n 2, 1) := by decide +kernel
theorem dX5_leave_14 : decode cX5_leave 14 = .ok (.getfield 160, 3) := by decide +kernel
theorem dX5_leave_17 : decode cX5_leave 17 = .ok (.iconst 1, 1) := by decide +kernel
theorem dX5_leave_18 : decode cX5_leave 18 = .ok (.if_icmp .eq 13, 3) := by decide +kernel
theorem dX5_leave_21 : decode cX5_leave 21 = .ok (.new 77, 3) := by decide +kernel
theorem dX5_leave_24 : decode cX5_leave 24 = .ok (.dup, 1) := by decide +kernel
theorem dX5_leave_25 : decode cX5_leave 25 = .ok (.ldc 200, 2) := by decide +kernel
theorem dX5_leave_27 : decode cX5_leave 27 = .ok (.invokespecial 81, 3) := by decide +kernel
theorem dX5_leave_30 : decode cX5_leave 30 = .ok (.athrow, 1) := by decide +kernel
theorem dX5_leave_31 : decode cX5_leave 31 = .ok (.aload_n 2, 1) := by decide +kernel
theorem dX5_leave_32 : decode cX5_leave 32 = .ok (.bipush 6, 2) := by decide +kernel
theorem dX5_leave_34 : decode cX5_leave 34 = .ok (.putfield 160, 3) := by decide +kernel
theorem dX5_leave_37 : decode cX5_leave 37 = .ok (.aload_n 2, 1) := by decide +kernel
theorem dX5_leave_38 : decode cX5_leave 38 = .ok (.getfield 184, 3) := by decide +kernel
theorem dX5_leave_41 : decode cX5_leave 41 = .ok (.ireturn, 1) := by decide +kernel
theorem dX5_runs_0 : decode cX5_runs 0 = .ok (.aload_n 0, 1) := by decide +kernel
theorem dX5_runs_1 : decode cX5_runs 1 = .ok (.getfield 18, 3) := by decide +kernel
theorem dX5_runs_4 : decode cX5_runs 4 = .ok (.invokevirtual 133, 3) := by decide +kernel
theorem dX5_runs_7 : decode cX5_runs 7 = .ok (.ireturn, 1) := by decide +kernel
theorem dX5_state_0 : decode cX5_state 0 = .ok (.aload_n 0, 1) := by decide +kernel
theorem dX5_state_1 : decode cX5_state 1 = .ok (.iload_n 1, 1) := by decide +kernel
theorem dX5_state_2 : decode cX5_state 2 = .ok (.invokevirtual 154, 3) := by decide +kernel
theorem dX5_state_5 : decode cX5_state 5 = .ok (.getfield 160, 3) := by decide +kernel
theorem dX5_state_8 : decode cX5_state 8 = .ok (.ireturn, 1) := by decide +kernel
theorem dX5_question_0 : decode cX5_question 0 = .ok (.aload_n 0, 1) := by decide +kernel
theorem dX5_question_1 : decode cX5_question 1 = .ok (.iload_n 1, 1) := by decide +kernel
theorem dX5_question_2 : decode cX5_question 2 = .ok (.invokevirtual 154, 3) := by decide +kernel
theorem dX5_question_5 : decode cX5_question 5 = .ok (.astore_n 2, 1) := by decide +kernel
theorem dX5_question_6 : decode cX5_question 6 = .ok (.aload_n 2, 1) := by decide +kernel
theorem dX5_question_7 : decode cX5_question 7 = .ok (.getfield 160, 3) := by decide +kernel
theorem dX5_question_10 : decode cX5_question 10 = .ok (.ifCond .eq 20, 3) := by decide +kernel
theorem dX5_question_13 : decode cX5_question 13 = .ok (.aload_n 2, 1) := by decide +kernel
theorem dX5_question_14 : decode cX5_question 14 = .ok (.getfield 160, 3) := by decide +kernel
theorem dX5_question_17 : decode cX5_question 17 = .ok (.iconst 1, 1) := by decide +kernel
theorem dX5_question_18 : decode cX5_question 18 = .ok (.if_icmp .eq 12, 3) := by decide +kernel
theorem dX5_question_21 : decode cX5_question 21 = .ok (.aload_n 2, 1) := by decide +kernel
theorem dX5_question_22 : decode cX5_question 22 = .ok (.getfield 160, 3) := by decide +kernel
theorem dX5_question_25 : decode cX5_question 25 = .ok (.bipush 6, 2) := by decide +kernel
theorem dX5_question_27 : decode cX5_question 27 = .ok (.if_icmp .ne 7, 3) := by decide +kernel
theorem dX5_question_30 : decode cX5_question 30 = .ok (.iconst 1, 1) := by decide +kernel
theorem dX5_question_31 : decode cX5_question 31 = .ok (.goto 4, 3) := by decide +kernel
theorem dX5_question_34 : decode cX5_question 34 = .ok (.iconst 0, 1) := by decide +kernel
theorem dX5_question_35 : decode cX5_question 35 = .ok (.istore_n 3, 1) := by decide +kernel
theorem dX5_question_36 : decode cX5_question 36 = .ok (.iload_n 3, 1) := by decide +kernel
theorem dX5_question_37 : decode cX5_question 37 = .ok (.ifCond .eq 13, 3) := by decide +kernel
theorem dX5_question_40 : decode cX5_question 40 = .ok (.aload_n 2, 1) := by decide +kernel
theorem dX5_question_41 : decode cX5_question 41 = .ok (.getfield 168, 3) := by decide +kernel
theorem dX5_question_44 : decode cX5_question 44 = .ok (.getfield 171, 3) := by decide +kernel
theorem dX5_question_47 : decode cX5_question 47 = .ok (.goto 4, 3) := by decide +kernel
theorem dX5_question_50 : decode cX5_question 50 = .ok (.iconst (-1), 1) := by decide +kernel
theorem dX5_question_51 : decode cX5_question 51 = .ok (.ireturn, 1) := by decide +kernel
theorem dX5_version_0 : decode cX5_version 0 = .ok (.aload_n 0, 1) := by decide +kernel
theorem dX5_version_1 : decode cX5_version 1 = .ok (.iload_n 1, 1) := by decide +kernel
theorem dX5_version_2 : decode cX5_version 2 = .ok (.invokevirtual 154, 3) := by decide +kernel
theorem dX5_version_5 : decode cX5_version 5 = .ok (.getfield 202, 3) := by decide +kernel
theorem dX5_version_8 : decode cX5_version 8 = .ok (.ireturn, 1) := by decide +kernel
theorem dX5_fuel_0 : decode cX5_fuel 0 = .ok (.aload_n 0, 1) := by decide +kernel
theorem dX5_fuel_1 : decode cX5_fuel 1 = .ok (.iload_n 1, 1) := by decide +kernel
theorem dX5_fuel_2 : decode cX5_fuel 2 = .ok (.invokevirtual 154, 3) := by decide +kernel
theorem dX5_fuel_5 : decode cX5_fuel 5 = .ok (.getfield 168, 3) := by decide +kernel
theorem dX5_fuel_8 : decode cX5_fuel 8 = .ok (.getfield 205, 3) := by decide +kernel
theorem dX5_fuel_11 : decode cX5_fuel 11 = .ok (.ireturn, 1) := by decide +kernel
theorem dX5_fuelAgain_0 : decode cX5_fuelAgain 0 = .ok (.aload_n 0, 1) := by decide +kernel
theorem dX5_fuelAgain_1 : decode cX5_fuelAgain 1 = .ok (.aload_n 0, 1) := by decide +kernel
theorem dX5_fuelAgain_2 : decode cX5_fuelAgain 2 = .ok (.iload_n 1, 1) := by decide +kernel
theorem dX5_fuelAgain_3 : decode cX5_fuelAgain 3 = .ok (.invokevirtual 154, 3) := by decide +kernel
theorem dX5_fuelAgain_6 : decode cX5_fuelAgain 6 = .ok (.invokevirtual 206, 3) := by decide +kernel
theorem dX5_fuelAgain_9 : decode cX5_fuelAgain 9 = .ok (.aload_n 0, 1) := by decide +kernel
theorem dX5_fuelAgain_10 : decode cX5_fuelAgain 10 = .ok (.getfield 35, 3) := by decide +kernel
theorem dX5_fuelAgain_13 : decode cX5_fuelAgain 13 = .ok (.getfield 205, 3) := by decide +kernel
theorem dX5_fuelAgain_16 : decode cX5_fuelAgain 16 = .ok (.ireturn, 1) := by decide +kernel
theorem dX5_slot_0 : decode cX5_slot 0 = .ok (.aload_n 0, 1) := by decide +kernel
theorem dX5_slot_1 : decode cX5_slot 1 = .ok (.iload_n 1, 1) := by decide +kernel
theorem dX5_slot_2 : decode cX5_slot 2 = .ok (.invokevirtual 154, 3) := by decide +kernel
theorem dX5_slot_5 : decode cX5_slot 5 = .ok (.astore_n 3, 1) := by decide +kernel
theorem dX5_slot_6 : decode cX5_slot 6 = .ok (.iload_n 2, 1) := by decide +kernel
theorem dX5_slot_7 : decode cX5_slot 7 = .ok (.iconst 0, 1) := by decide +kernel
theorem dX5_slot_8 : decode cX5_slot 8 = .ok (.bipush 7, 2) := by decide +kernel
theorem dX5_slot_10 : decode cX5_slot 10 = .ok (.invokestatic 44, 3) := by decide +kernel
theorem dX5_slot_13 : decode cX5_slot 13 = .ok (.ifCond .ne 13, 3) := by decide +kernel
theorem dX5_slot_16 : decode cX5_slot 16 = .ok (.new 113, 3) := by decide +kernel
theorem dX5_slot_19 : decode cX5_slot 19 = .ok (.dup, 1) := by decide +kernel
theorem dX5_slot_20 : decode cX5_slot 20 = .ok (.ldc 209, 2) := by decide +kernel
theorem dX5_slot_22 : decode cX5_slot 22 = .ok (.invokespecial 117, 3) := by decide +kernel
theorem dX5_slot_25 : decode cX5_slot 25 = .ok (.athrow, 1) := by decide +kernel
theorem dX5_slot_26 : decode cX5_slot 26 = .ok (.aload_n 3, 1) := by decide +kernel
theorem dX5_slot_27 : decode cX5_slot 27 = .ok (.getfield 168, 3) := by decide +kernel
theorem dX5_slot_30 : decode cX5_slot 30 = .ok (.getfield 211, 3) := by decide +kernel
theorem dX5_slot_33 : decode cX5_slot 33 = .ok (.iload_n 2, 1) := by decide +kernel
theorem dX5_slot_34 : decode cX5_slot 34 = .ok (.iaload, 1) := by decide +kernel
theorem dX5_slot_35 : decode cX5_slot 35 = .ok (.ireturn, 1) := by decide +kernel
theorem dX5_slotAgain_0 : decode cX5_slotAgain 0 = .ok (.aload_n 0, 1) := by decide +kernel
theorem dX5_slotAgain_1 : decode cX5_slotAgain 1 = .ok (.iload_n 1, 1) := by decide +kernel
theorem dX5_slotAgain_2 : decode cX5_slotAgain 2 = .ok (.invokevirtual 154, 3) := by decide +kernel
theorem dX5_slotAgain_5 : decode cX5_slotAgain 5 = .ok (.astore_n 3, 1) := by decide +kernel
theorem dX5_slotAgain_6 : decode cX5_slotAgain 6 = .ok (.iload_n 2, 1) := by decide +kernel
theorem dX5_slotAgain_7 : decode cX5_slotAgain 7 = .ok (.iconst 0, 1) := by decide +kernel
theorem dX5_slotAgain_8 : decode cX5_slotAgain 8 = .ok (.bipush 7, 2) := by decide +kernel
theorem dX5_slotAgain_10 : decode cX5_slotAgain 10 = .ok (.invokestatic 44, 3) := by decide +kernel
theorem dX5_slotAgain_13 : decode cX5_slotAgain 13 = .ok (.ifCond .ne 13, 3) := by decide +kernel
theorem dX5_slotAgain_16 : decode cX5_slotAgain 16 = .ok (.new 113, 3) := by decide +kernel
theorem dX5_slotAgain_19 : decode cX5_slotAgain 19 = .ok (.dup, 1) := by decide +kernel
theorem dX5_slotAgain_20 : decode cX5_slotAgain 20 = .ok (.ldc 209, 2) := by decide +kernel
theorem dX5_slotAgain_22 : decode cX5_slotAgain 22 = .ok (.invokespecial 117, 3) := by decide +kernel
theorem dX5_slotAgain_25 : decode cX5_slotAgain 25 = .ok (.athrow, 1) := by decide +kernel
theorem dX5_slotAgain_26 : decode cX5_slotAgain 26 = .ok (.aload_n 0, 1) := by decide +kernel
theorem dX5_slotAgain_27 : decode cX5_slotAgain 27 = .ok (.aload_n 3, 1) := by decide +kernel
theorem dX5_slotAgain_28 : decode cX5_slotAgain 28 = .ok (.invokevirtual 206, 3) := by decide +kernel
theorem dX5_slotAgain_31 : decode cX5_slotAgain 31 = .ok (.aload_n 0, 1) := by decide +kernel
theorem dX5_slotAgain_32 : decode cX5_slotAgain 32 = .ok (.getfield 35, 3) := by decide +kernel
theorem dX5_slotAgain_35 : decode cX5_slotAgain 35 = .ok (.getfield 211, 3) := by decide +kernel
theorem dX5_slotAgain_38 : decode cX5_slotAgain 38 = .ok (.iload_n 2, 1) := by decide +kernel
theorem dX5_slotAgain_39 : decode cX5_slotAgain 39 = .ok (.iaload, 1) := by decide +kernel
theorem dX5_slotAgain_40 : decode cX5_slotAgain 40 = .ok (.ireturn, 1) := by decide +kernel
theorem dX5_depth_0 : decode cX5_depth 0 = .ok (.aload_n 0, 1) := by decide +kernel
theorem dX5_depth_1 : decode cX5_depth 1 = .ok (.iload_n 1, 1) := by decide +kernel
theorem dX5_depth_2 : decode cX5_depth 2 = .ok (.invokevirtual 154, 3) := by decide +kernel
theorem dX5_depth_5 : decode cX5_depth 5 = .ok (.getfield 168, 3) := by decide +kernel
theorem dX5_depth_8 : decode cX5_depth 8 = .ok (.getfield 214, 3) := by decide +kernel
theorem dX5_depth_11 : decode cX5_depth 11 = .ok (.ireturn, 1) := by decide +kernel
theorem dX5_answers_0 : decode cX5_answers 0 = .ok (.aload_n 0, 1) := by decide +kernel
theorem dX5_answers_1 : decode cX5_answers 1 = .ok (.iload_n 1, 1) := by decide +kernel
theorem dX5_answers_2 : decode cX5_answers 2 = .ok (.invokevirtual 154, 3) := by decide +kernel
theorem dX5_answers_5 : decode cX5_answers 5 = .ok (.getfield 163, 3) := by decide +kernel
theorem dX5_answers_8 : decode cX5_answers 8 = .ok (.invokevirtual 133, 3) := by decide +kernel
theorem dX5_answers_11 : decode cX5_answers 11 = .ok (.ireturn, 1) := by decide +kernel
theorem dX5_answerAt_0 : decode cX5_answerAt 0 = .ok (.aload_n 0, 1) := by decide +kernel
theorem dX5_answerAt_1 : decode cX5_answerAt 1 = .ok (.iload_n 1, 1) := by decide +kernel
theorem dX5_answerAt_2 : decode cX5_answerAt 2 = .ok (.invokevirtual 154, 3) := by decide +kernel
theorem dX5_answerAt_5 : decode cX5_answerAt 5 = .ok (.astore_n 3, 1) := by decide +kernel
theorem dX5_answerAt_6 : decode cX5_answerAt 6 = .ok (.iload_n 2, 1) := by decide +kernel
theorem dX5_answerAt_7 : decode cX5_answerAt 7 = .ok (.iconst 0, 1) := by decide +kernel
theorem dX5_answerAt_8 : decode cX5_answerAt 8 = .ok (.aload_n 3, 1) := by decide +kernel
theorem dX5_answerAt_9 : decode cX5_answerAt 9 = .ok (.getfield 163, 3) := by decide +kernel
theorem dX5_answerAt_12 : decode cX5_answerAt 12 = .ok (.invokevirtual 133, 3) := by decide +kernel
theorem dX5_answerAt_15 : decode cX5_answerAt 15 = .ok (.iconst 1, 1) := by decide +kernel
theorem dX5_answerAt_16 : decode cX5_answerAt 16 = .ok (.isub, 1) := by decide +kernel
theorem dX5_answerAt_17 : decode cX5_answerAt 17 = .ok (.invokestatic 44, 3) := by decide +kernel
theorem dX5_answerAt_20 : decode cX5_answerAt 20 = .ok (.ifCond .ne 13, 3) := by decide +kernel
theorem dX5_answerAt_23 : decode cX5_answerAt 23 = .ok (.new 113, 3) := by decide +kernel
theorem dX5_answerAt_26 : decode cX5_answerAt 26 = .ok (.dup, 1) := by decide +kernel
theorem dX5_answerAt_27 : decode cX5_answerAt 27 = .ok (.ldc 217, 2) := by decide +kernel
theorem dX5_answerAt_29 : decode cX5_answerAt 29 = .ok (.invokespecial 117, 3) := by decide +kernel
theorem dX5_answerAt_32 : decode cX5_answerAt 32 = .ok (.athrow, 1) := by decide +kernel
theorem dX5_answerAt_33 : decode cX5_answerAt 33 = .ok (.aload_n 3, 1) := by decide +kernel
theorem dX5_answerAt_34 : decode cX5_answerAt 34 = .ok (.getfield 163, 3) := by decide +kernel
theorem dX5_answerAt_37 : decode cX5_answerAt 37 = .ok (.iload_n 2, 1) := by decide +kernel
theorem dX5_answerAt_38 : decode cX5_answerAt 38 = .ok (.invokevirtual 219, 3) := by decide +kernel
theorem dX5_answerAt_41 : decode cX5_answerAt 41 = .ok (.checkcast 223, 3) := by decide +kernel
theorem dX5_answerAt_44 : decode cX5_answerAt 44 = .ok (.astore 4, 2) := by decide +kernel
theorem dX5_answerAt_46 : decode cX5_answerAt 46 = .ok (.sipush 1000, 3) := by decide +kernel
theorem dX5_answerAt_49 : decode cX5_answerAt 49 = .ok (.aload 4, 2) := by decide +kernel
theorem dX5_answerAt_51 : decode cX5_answerAt 51 = .ok (.getfield 225, 3) := by decide +kernel
theorem dX5_answerAt_54 : decode cX5_answerAt 54 = .ok (.imul, 1) := by decide +kernel
theorem dX5_answerAt_55 : decode cX5_answerAt 55 = .ok (.bipush 10, 2) := by decide +kernel
theorem dX5_answerAt_57 : decode cX5_answerAt 57 = .ok (.aload 4, 2) := by decide +kernel
theorem dX5_answerAt_59 : decode cX5_answerAt 59 = .ok (.getfield 228, 3) := by decide +kernel
theorem dX5_answerAt_62 : decode cX5_answerAt 62 = .ok (.imul, 1) := by decide +kernel
theorem dX5_answerAt_63 : decode cX5_answerAt 63 = .ok (.iadd, 1) := by decide +kernel
theorem dX5_answerAt_64 : decode cX5_answerAt 64 = .ok (.aload 4, 2) := by decide +kernel
theorem dX5_answerAt_66 : decode cX5_answerAt 66 = .ok (.getfield 229, 3) := by decide +kernel
theorem dX5_answerAt_69 : decode cX5_answerAt 69 = .ok (.iadd, 1) := by decide +kernel
theorem dX5_answerAt_70 : decode cX5_answerAt 70 = .ok (.ireturn, 1) := by decide +kernel
theorem dX5_reward_0 : decode cX5_reward 0 = .ok (.iload_n 1, 1) := by decide +kernel
theorem dX5_reward_1 : decode cX5_reward 1 = .ok (.iconst 0, 1) := by decide +kernel
theorem dX5_reward_2 : decode cX5_reward 2 = .ok (.bipush 15, 2) := by decide +kernel
theorem dX5_reward_4 : decode cX5_reward 4 = .ok (.invokestatic 44, 3) := by decide +kernel
theorem dX5_reward_7 : decode cX5_reward 7 = .ok (.ifCond .ne 13, 3) := by decide +kernel
theorem dX5_reward_10 : decode cX5_reward 10 = .ok (.new 113, 3) := by decide +kernel
theorem dX5_reward_13 : decode cX5_reward 13 = .ok (.dup, 1) := by decide +kernel
theorem dX5_reward_14 : decode cX5_reward 14 = .ok (.ldc 127, 2) := by decide +kernel
theorem dX5_reward_16 : decode cX5_reward 16 = .ok (.invokespecial 117, 3) := by decide +kernel
theorem dX5_reward_19 : decode cX5_reward 19 = .ok (.athrow, 1) := by decide +kernel
theorem dX5_reward_20 : decode cX5_reward 20 = .ok (.aload_n 0, 1) := by decide +kernel
theorem dX5_reward_21 : decode cX5_reward 21 = .ok (.getfield 29, 3) := by decide +kernel
theorem dX5_reward_24 : decode cX5_reward 24 = .ok (.iload_n 1, 1) := by decide +kernel
theorem dX5_reward_25 : decode cX5_reward 25 = .ok (.iaload, 1) := by decide +kernel
theorem dX5_reward_26 : decode cX5_reward 26 = .ok (.ireturn, 1) := by decide +kernel
theorem dX5_budget_0 : decode cX5_budget 0 = .ok (.aload_n 0, 1) := by decide +kernel
theorem dX5_budget_1 : decode cX5_budget 1 = .ok (.iload_n 1, 1) := by decide +kernel
theorem dX5_budget_2 : decode cX5_budget 2 = .ok (.invokevirtual 40, 3) := by decide +kernel
theorem dX5_budget_5 : decode cX5_budget 5 = .ok (.getfield 110, 3) := by decide +kernel
theorem dX5_budget_8 : decode cX5_budget 8 = .ok (.ireturn, 1) := by decide +kernel
theorem dX5_repaid_0 : decode cX5_repaid 0 = .ok (.aload_n 0, 1) := by decide +kernel
theorem dX5_repaid_1 : decode cX5_repaid 1 = .ok (.getfield 232, 3) := by decide +kernel
theorem dX5_repaid_4 : decode cX5_repaid 4 = .ok (.ireturn, 1) := by decide +kernel
theorem dX5_done_0 : decode cX5_done 0 = .ok (.aload_n 0, 1) := by decide +kernel
theorem dX5_done_1 : decode cX5_done 1 = .ok (.iload_n 1, 1) := by decide +kernel
theorem dX5_done_2 : decode cX5_done 2 = .ok (.invokevirtual 40, 3) := by decide +kernel
theorem dX5_done_5 : decode cX5_done 5 = .ok (.astore_n 3, 1) := by decide +kernel
theorem dX5_done_6 : decode cX5_done 6 = .ok (.iload_n 2, 1) := by decide +kernel
theorem dX5_done_7 : decode cX5_done 7 = .ok (.iconst 0, 1) := by decide +kernel
theorem dX5_done_8 : decode cX5_done 8 = .ok (.iconst 3, 1) := by decide +kernel
theorem dX5_done_9 : decode cX5_done 9 = .ok (.invokestatic 44, 3) := by decide +kernel
theorem dX5_done_12 : decode cX5_done 12 = .ok (.ifCond .ne 13, 3) := by decide +kernel
theorem dX5_done_15 : decode cX5_done 15 = .ok (.new 113, 3) := by decide +kernel
theorem dX5_done_18 : decode cX5_done 18 = .ok (.dup, 1) := by decide +kernel
theorem dX5_done_19 : decode cX5_done 19 = .ok (.ldc 115, 2) := by decide +kernel
theorem dX5_done_21 : decode cX5_done 21 = .ok (.invokespecial 117, 3) := by decide +kernel
theorem dX5_done_24 : decode cX5_done 24 = .ok (.athrow, 1) := by decide +kernel
theorem dX5_done_25 : decode cX5_done 25 = .ok (.aload_n 3, 1) := by decide +kernel
theorem dX5_done_26 : decode cX5_done 26 = .ok (.getfield 235, 3) := by decide +kernel
theorem dX5_done_29 : decode cX5_done 29 = .ok (.iload_n 2, 1) := by decide +kernel
theorem dX5_done_30 : decode cX5_done 30 = .ok (.iaload, 1) := by decide +kernel
theorem dX5_done_31 : decode cX5_done 31 = .ok (.ireturn, 1) := by decide +kernel
theorem dX5_formAt_0 : decode cX5_formAt 0 = .ok (.iload_n 1, 1) := by decide +kernel
theorem dX5_formAt_1 : decode cX5_formAt 1 = .ok (.iconst 0, 1) := by decide +kernel
theorem dX5_formAt_2 : decode cX5_formAt 2 = .ok (.iconst 3, 1) := by decide +kernel
theorem dX5_formAt_3 : decode cX5_formAt 3 = .ok (.invokestatic 44, 3) := by decide +kernel
theorem dX5_formAt_6 : decode cX5_formAt 6 = .ok (.ifCond .ne 13, 3) := by decide +kernel
theorem dX5_formAt_9 : decode cX5_formAt 9 = .ok (.new 113, 3) := by decide +kernel
theorem dX5_formAt_12 : decode cX5_formAt 12 = .ok (.dup, 1) := by decide +kernel
theorem dX5_formAt_13 : decode cX5_formAt 13 = .ok (.ldc 238, 2) := by decide +kernel
theorem dX5_formAt_15 : decode cX5_formAt 15 = .ok (.invokespecial 117, 3) := by decide +kernel
theorem dX5_formAt_18 : decode cX5_formAt 18 = .ok (.athrow, 1) := by decide +kernel
theorem dX5_formAt_19 : decode cX5_formAt 19 = .ok (.aload_n 0, 1) := by decide +kernel
theorem dX5_formAt_20 : decode cX5_formAt 20 = .ok (.getfield 11, 3) := by decide +kernel
theorem dX5_formAt_23 : decode cX5_formAt 23 = .ok (.iload_n 1, 1) := by decide +kernel
theorem dX5_formAt_24 : decode cX5_formAt 24 = .ok (.aaload, 1) := by decide +kernel
theorem dX5_formAt_25 : decode cX5_formAt 25 = .ok (.areturn, 1) := by decide +kernel
theorem dX5_runAt_0 : decode cX5_runAt 0 = .ok (.iload_n 1, 1) := by decide +kernel
theorem dX5_runAt_1 : decode cX5_runAt 1 = .ok (.iconst 0, 1) := by decide +kernel
theorem dX5_runAt_2 : decode cX5_runAt 2 = .ok (.aload_n 0, 1) := by decide +kernel
theorem dX5_runAt_3 : decode cX5_runAt 3 = .ok (.getfield 18, 3) := by decide +kernel
theorem dX5_runAt_6 : decode cX5_runAt 6 = .ok (.invokevirtual 133, 3) := by decide +kernel
theorem dX5_runAt_9 : decode cX5_runAt 9 = .ok (.iconst 1, 1) := by decide +kernel
theorem dX5_runAt_10 : decode cX5_runAt 10 = .ok (.isub, 1) := by decide +kernel
theorem dX5_runAt_11 : decode cX5_runAt 11 = .ok (.invokestatic 44, 3) := by decide +kernel
theorem dX5_runAt_14 : decode cX5_runAt 14 = .ok (.ifCond .ne 13, 3) := by decide +kernel
theorem dX5_runAt_17 : decode cX5_runAt 17 = .ok (.new 113, 3) := by decide +kernel
theorem dX5_runAt_20 : decode cX5_runAt 20 = .ok (.dup, 1) := by decide +kernel
theorem dX5_runAt_21 : decode cX5_runAt 21 = .ok (.ldc 240, 2) := by decide +kernel
theorem dX5_runAt_23 : decode cX5_runAt 23 = .ok (.invokespecial 117, 3) := by decide +kernel
theorem dX5_runAt_26 : decode cX5_runAt 26 = .ok (.athrow, 1) := by decide +kernel
theorem dX5_runAt_27 : decode cX5_runAt 27 = .ok (.aload_n 0, 1) := by decide +kernel
theorem dX5_runAt_28 : decode cX5_runAt 28 = .ok (.getfield 18, 3) := by decide +kernel
theorem dX5_runAt_31 : decode cX5_runAt 31 = .ok (.iload_n 1, 1) := by decide +kernel
theorem dX5_runAt_32 : decode cX5_runAt 32 = .ok (.invokevirtual 219, 3) := by decide +kernel
theorem dX5_runAt_35 : decode cX5_runAt 35 = .ok (.checkcast 138, 3) := by decide +kernel
theorem dX5_runAt_38 : decode cX5_runAt 38 = .ok (.areturn, 1) := by decide +kernel
theorem dX5_hasBegun_0 : decode cX5_hasBegun 0 = .ok (.iconst 0, 1) := by decide +kernel
theorem dX5_hasBegun_1 : decode cX5_hasBegun 1 = .ok (.istore_n 3, 1) := by decide +kernel
theorem dX5_hasBegun_2 : decode cX5_hasBegun 2 = .ok (.iload_n 3, 1) := by decide +kernel
theorem dX5_hasBegun_3 : decode cX5_hasBegun 3 = .ok (.aload_n 0, 1) := by decide +kernel
theorem dX5_hasBegun_4 : decode cX5_hasBegun 4 = .ok (.getfield 18, 3) := by decide +kernel
theorem dX5_hasBegun_7 : decode cX5_hasBegun 7 = .ok (.invokevirtual 133, 3) := by decide +kernel
theorem dX5_hasBegun_10 : decode cX5_hasBegun 10 = .ok (.if_icmp .ge 42, 3) := by decide +kernel
theorem dX5_hasBegun_13 : decode cX5_hasBegun 13 = .ok (.aload_n 0, 1) := by decide +kernel
theorem dX5_hasBegun_14 : decode cX5_hasBegun 14 = .ok (.getfield 18, 3) := by decide +kernel
theorem dX5_hasBegun_17 : decode cX5_hasBegun 17 = .ok (.iload_n 3, 1) := by decide +kernel
theorem dX5_hasBegun_18 : decode cX5_hasBegun 18 = .ok (.invokevirtual 219, 3) := by decide +kernel
theorem dX5_hasBegun_21 : decode cX5_hasBegun 21 = .ok (.checkcast 138, 3) := by decide +kernel
theorem dX5_hasBegun_24 : decode cX5_hasBegun 24 = .ok (.astore 4, 2) := by decide +kernel
theorem dX5_hasBegun_26 : decode cX5_hasBegun 26 = .ok (.aload 4, 2) := by decide +kernel
theorem dX5_hasBegun_28 : decode cX5_hasBegun 28 = .ok (.getfield 242, 3) := by decide +kernel
theorem dX5_hasBegun_31 : decode cX5_hasBegun 31 = .ok (.iload_n 1, 1) := by decide +kernel
theorem dX5_hasBegun_32 : decode cX5_hasBegun 32 = .ok (.if_icmp .ne 14, 3) := by decide +kernel
theorem dX5_hasBegun_35 : decode cX5_hasBegun 35 = .ok (.aload 4, 2) := by decide +kernel
theorem dX5_hasBegun_37 : decode cX5_hasBegun 37 = .ok (.getfield 174, 3) := by decide +kernel
theorem dX5_hasBegun_40 : decode cX5_hasBegun 40 = .ok (.aload_n 2, 1) := by decide +kernel
theorem dX5_hasBegun_41 : decode cX5_hasBegun 41 = .ok (.if_acmp .ne 5, 3) := by decide +kernel
theorem dX5_hasBegun_44 : decode cX5_hasBegun 44 = .ok (.iconst 1, 1) := by decide +kernel
theorem dX5_hasBegun_45 : decode cX5_hasBegun 45 = .ok (.ireturn, 1) := by decide +kernel
theorem dX5_hasBegun_46 : decode cX5_hasBegun 46 = .ok (.iinc 3 1, 3) := by decide +kernel
theorem dX5_hasBegun_49 : decode cX5_hasBegun 49 = .ok (.goto (-47), 3) := by decide +kernel
theorem dX5_hasBegun_52 : decode cX5_hasBegun 52 = .ok (.iconst 0, 1) := by decide +kernel
theorem dX5_hasBegun_53 : decode cX5_hasBegun 53 = .ok (.ireturn, 1) := by decide +kernel
theorem dX5_isOutdated_0 : decode cX5_isOutdated 0 = .ok (.aload_n 1, 1) := by decide +kernel
theorem dX5_isOutdated_1 : decode cX5_isOutdated 1 = .ok (.getfield 202, 3) := by decide +kernel
theorem dX5_isOutdated_4 : decode cX5_isOutdated 4 = .ok (.aload_n 1, 1) := by decide +kernel
theorem dX5_isOutdated_5 : decode cX5_isOutdated 5 = .ok (.getfield 174, 3) := by decide +kernel
theorem dX5_isOutdated_8 : decode cX5_isOutdated 8 = .ok (.invokevirtual 98, 3) := by decide +kernel
theorem dX5_isOutdated_11 : decode cX5_isOutdated 11 = .ok (.if_icmp .ge 5, 3) := by decide +kernel
theorem dX5_isOutdated_14 : decode cX5_isOutdated 14 = .ok (.iconst 1, 1) := by decide +kernel
theorem dX5_isOutdated_15 : decode cX5_isOutdated 15 = .ok (.ireturn, 1) := by decide +kernel
theorem dX5_isOutdated_16 : decode cX5_isOutdated 16 = .ok (.iconst 0, 1) := by decide +kernel
theorem dX5_isOutdated_17 : decode cX5_isOutdated 17 = .ok (.istore_n 2, 1) := by decide +kernel
theorem dX5_isOutdated_18 : decode cX5_isOutdated 18 = .ok (.iload_n 2, 1) := by decide +kernel
theorem dX5_isOutdated_19 : decode cX5_isOutdated 19 = .ok (.aload_n 1, 1) := by decide +kernel
theorem dX5_isOutdated_20 : decode cX5_isOutdated 20 = .ok (.getfield 163, 3) := by decide +kernel
theorem dX5_isOutdated_23 : decode cX5_isOutdated 23 = .ok (.invokevirtual 133, 3) := by decide +kernel
theorem dX5_isOutdated_26 : decode cX5_isOutdated 26 = .ok (.if_icmp .ge 71, 3) := by decide +kernel
theorem dX5_isOutdated_29 : decode cX5_isOutdated 29 = .ok (.aload_n 1, 1) := by decide +kernel
theorem dX5_isOutdated_30 : decode cX5_isOutdated 30 = .ok (.getfield 163, 3) := by decide +kernel
theorem dX5_isOutdated_33 : decode cX5_isOutdated 33 = .ok (.iload_n 2, 1) := by decide +kernel
theorem dX5_isOutdated_34 : decode cX5_isOutdated 34 = .ok (.invokevirtual 219, 3) := by decide +kernel
theorem dX5_isOutdated_37 : decode cX5_isOutdated 37 = .ok (.checkcast 223, 3) := by decide +kernel
theorem dX5_isOutdated_40 : decode cX5_isOutdated 40 = .ok (.astore_n 3, 1) := by decide +kernel
theorem dX5_isOutdated_41 : decode cX5_isOutdated 41 = .ok (.aload_n 3, 1) := by decide +kernel
theorem dX5_isOutdated_42 : decode cX5_isOutdated 42 = .ok (.getfield 225, 3) := by decide +kernel
theorem dX5_isOutdated_45 : decode cX5_isOutdated 45 = .ok (.aload_n 1, 1) := by decide +kernel
theorem dX5_isOutdated_46 : decode cX5_isOutdated 46 = .ok (.getfield 245, 3) := by decide +kernel
theorem dX5_isOutdated_49 : decode cX5_isOutdated 49 = .ok (.aload_n 3, 1) := by decide +kernel
theorem dX5_isOutdated_50 : decode cX5_isOutdated 50 = .ok (.getfield 228, 3) := by decide +kernel
theorem dX5_isOutdated_53 : decode cX5_isOutdated 53 = .ok (.invokestatic 58, 3) := by decide +kernel
theorem dX5_isOutdated_56 : decode cX5_isOutdated 56 = .ok (.if_icmp .ne 7, 3) := by decide +kernel
theorem dX5_isOutdated_59 : decode cX5_isOutdated 59 = .ok (.iconst 1, 1) := by decide +kernel
theorem dX5_isOutdated_60 : decode cX5_isOutdated 60 = .ok (.goto 4, 3) := by decide +kernel
theorem dX5_isOutdated_63 : decode cX5_isOutdated 63 = .ok (.iconst 0, 1) := by decide +kernel
theorem dX5_isOutdated_64 : decode cX5_isOutdated 64 = .ok (.istore 4, 2) := by decide +kernel
theorem dX5_isOutdated_66 : decode cX5_isOutdated 66 = .ok (.iload 4, 2) := by decide +kernel
theorem dX5_isOutdated_68 : decode cX5_isOutdated 68 = .ok (.ifCond .eq 23, 3) := by decide +kernel
theorem dX5_isOutdated_71 : decode cX5_isOutdated 71 = .ok (.aload_n 3, 1) := by decide +kernel
theorem dX5_isOutdated_72 : decode cX5_isOutdated 72 = .ok (.getfield 225, 3) := by decide +kernel
theorem dX5_isOutdated_75 : decode cX5_isOutdated 75 = .ok (.aload_n 0, 1) := by decide +kernel
theorem dX5_isOutdated_76 : decode cX5_isOutdated 76 = .ok (.getfield 26, 3) := by decide +kernel
theorem dX5_isOutdated_79 : decode cX5_isOutdated 79 = .ok (.aload_n 3, 1) := by decide +kernel
theorem dX5_isOutdated_80 : decode cX5_isOutdated 80 = .ok (.getfield 228, 3) := by decide +kernel
theorem dX5_isOutdated_83 : decode cX5_isOutdated 83 = .ok (.invokestatic 58, 3) := by decide +kernel
theorem dX5_isOutdated_86 : decode cX5_isOutdated 86 = .ok (.if_icmp .eq 5, 3) := by decide +kernel
theorem dX5_isOutdated_89 : decode cX5_isOutdated 89 = .ok (.iconst 1, 1) := by decide +kernel
theorem dX5_isOutdated_90 : decode cX5_isOutdated 90 = .ok (.ireturn, 1) := by decide +kernel
theorem dX5_isOutdated_91 : decode cX5_isOutdated 91 = .ok (.iinc 2 1, 3) := by decide +kernel
theorem dX5_isOutdated_94 : decode cX5_isOutdated 94 = .ok (.goto (-76), 3) := by decide +kernel
theorem dX5_isOutdated_97 : decode cX5_isOutdated 97 = .ok (.iconst 0, 1) := by decide +kernel
theorem dX5_isOutdated_98 : decode cX5_isOutdated 98 = .ok (.ireturn, 1) := by decide +kernel
theorem dX5_startOver_0 : decode cX5_startOver 0 = .ok (.aload_n 1, 1) := by decide +kernel
theorem dX5_startOver_1 : decode cX5_startOver 1 = .ok (.aload_n 0, 1) := by decide +kernel
theorem dX5_startOver_2 : decode cX5_startOver 2 = .ok (.getfield 26, 3) := by decide +kernel
theorem dX5_startOver_5 : decode cX5_startOver 5 = .ok (.invokevirtual 246, 3) := by decide +kernel
theorem dX5_startOver_8 : decode cX5_startOver 8 = .ok (.aload_n 1, 1) := by decide +kernel
theorem dX5_startOver_9 : decode cX5_startOver 9 = .ok (.getfield 168, 3) := by decide +kernel
theorem dX5_startOver_12 : decode cX5_startOver 12 = .ok (.aload_n 1, 1) := by decide +kernel
theorem dX5_startOver_13 : decode cX5_startOver 13 = .ok (.getfield 250, 3) := by decide +kernel
theorem dX5_startOver_16 : decode cX5_startOver 16 = .ok (.invokevirtual 253, 3) := by decide +kernel
theorem dX5_startOver_19 : decode cX5_startOver 19 = .ok (.return_, 1) := by decide +kernel
theorem dX5_goOn_0 : decode cX5_goOn 0 = .ok (.aload_n 1, 1) := by decide +kernel
theorem dX5_goOn_1 : decode cX5_goOn 1 = .ok (.getfield 168, 3) := by decide +kernel
theorem dX5_goOn_4 : decode cX5_goOn 4 = .ok (.aload_n 1, 1) := by decide +kernel
theorem dX5_goOn_5 : decode cX5_goOn 5 = .ok (.aload_n 1, 1) := by decide +kernel
theorem dX5_goOn_6 : decode cX5_goOn 6 = .ok (.getfield 174, 3) := by decide +kernel
theorem dX5_goOn_9 : decode cX5_goOn 9 = .ok (.aload_n 1, 1) := by decide +kernel
theorem dX5_goOn_10 : decode cX5_goOn 10 = .ok (.getfield 256, 3) := by decide +kernel
theorem dX5_goOn_13 : decode cX5_goOn 13 = .ok (.invokevirtual 259, 3) := by decide +kernel
theorem dX5_goOn_16 : decode cX5_goOn 16 = .ok (.ifCond .eq 7, 3) := by decide +kernel
theorem dX5_goOn_19 : decode cX5_goOn 19 = .ok (.iconst 0, 1) := by decide +kernel
theorem dX5_goOn_20 : decode cX5_goOn 20 = .ok (.goto 6, 3) := by decide +kernel
theorem dX5_goOn_23 : decode cX5_goOn 23 = .ok (.sipush 1000, 3) := by decide +kernel
theorem dX5_goOn_26 : decode cX5_goOn 26 = .ok (.invokevirtual 263, 3) := by decide +kernel
theorem dX5_goOn_29 : decode cX5_goOn 29 = .ok (.aload_n 1, 1) := by decide +kernel
theorem dX5_goOn_30 : decode cX5_goOn 30 = .ok (.aload_n 1, 1) := by decide +kernel
theorem dX5_goOn_31 : decode cX5_goOn 31 = .ok (.getfield 168, 3) := by decide +kernel
theorem dX5_goOn_34 : decode cX5_goOn 34 = .ok (.getfield 265, 3) := by decide +kernel
theorem dX5_goOn_37 : decode cX5_goOn 37 = .ok (.putfield 160, 3) := by decide +kernel
theorem dX5_goOn_40 : decode cX5_goOn 40 = .ok (.aload_n 1, 1) := by decide +kernel
theorem dX5_goOn_41 : decode cX5_goOn 41 = .ok (.getfield 160, 3) := by decide +kernel
theorem dX5_goOn_44 : decode cX5_goOn 44 = .ok (.iconst 2, 1) := by decide +kernel
theorem dX5_goOn_45 : decode cX5_goOn 45 = .ok (.if_icmp .ne 43, 3) := by decide +kernel
theorem dX5_goOn_48 : decode cX5_goOn 48 = .ok (.aload_n 1, 1) := by decide +kernel
theorem dX5_goOn_49 : decode cX5_goOn 49 = .ok (.getfield 174, 3) := by decide +kernel
theorem dX5_goOn_52 : decode cX5_goOn 52 = .ok (.getfield 235, 3) := by decide +kernel
theorem dX5_goOn_55 : decode cX5_goOn 55 = .ok (.aload_n 1, 1) := by decide +kernel
theorem dX5_goOn_56 : decode cX5_goOn 56 = .ok (.getfield 256, 3) := by decide +kernel
theorem dX5_goOn_59 : decode cX5_goOn 59 = .ok (.iconst 1, 1) := by decide +kernel
theorem dX5_goOn_60 : decode cX5_goOn 60 = .ok (.invokestatic 266, 3) := by decide +kernel
theorem dX5_goOn_63 : decode cX5_goOn 63 = .ok (.aload_n 0, 1) := by decide +kernel
theorem dX5_goOn_64 : decode cX5_goOn 64 = .ok (.aload_n 1, 1) := by decide +kernel
theorem dX5_goOn_65 : decode cX5_goOn 65 = .ok (.aload_n 1, 1) := by decide +kernel
theorem dX5_goOn_66 : decode cX5_goOn 66 = .ok (.getfield 168, 3) := by decide +kernel
theorem dX5_goOn_69 : decode cX5_goOn 69 = .ok (.getfield 270, 3) := by decide +kernel
theorem dX5_goOn_72 : decode cX5_goOn 72 = .ok (.aload_n 1, 1) := by decide +kernel
theorem dX5_goOn_73 : decode cX5_goOn 73 = .ok (.getfield 174, 3) := by decide +kernel
theorem dX5_goOn_76 : decode cX5_goOn 76 = .ok (.getfield 110, 3) := by decide +kernel
theorem dX5_goOn_79 : decode cX5_goOn 79 = .ok (.invokestatic 273, 3) := by decide +kernel
theorem dX5_goOn_82 : decode cX5_goOn 82 = .ok (.invokevirtual 187, 3) := by decide +kernel
theorem dX5_goOn_85 : decode cX5_goOn 85 = .ok (.goto 48, 3) := by decide +kernel
theorem dX5_goOn_88 : decode cX5_goOn 88 = .ok (.aload_n 1, 1) := by decide +kernel
theorem dX5_goOn_89 : decode cX5_goOn 89 = .ok (.getfield 160, 3) := by decide +kernel
theorem dX5_goOn_92 : decode cX5_goOn 92 = .ok (.iconst 5, 1) := by decide +kernel
theorem dX5_goOn_93 : decode cX5_goOn 93 = .ok (.if_icmp .eq 11, 3) := by decide +kernel
theorem dX5_goOn_96 : decode cX5_goOn 96 = .ok (.aload_n 1, 1) := by decide +kernel
theorem dX5_goOn_97 : decode cX5_goOn 97 = .ok (.getfield 160, 3) := by decide +kernel
theorem dX5_goOn_100 : decode cX5_goOn 100 = .ok (.iconst 4, 1) := by decide +kernel
theorem dX5_goOn_101 : decode cX5_goOn 101 = .ok (.if_icmp .ne 32, 3) := by decide +kernel
theorem dX5_goOn_104 : decode cX5_goOn 104 = .ok (.aload_n 1, 1) := by decide +kernel
theorem dX5_goOn_105 : decode cX5_goOn 105 = .ok (.getfield 174, 3) := by decide +kernel
theorem dX5_goOn_108 : decode cX5_goOn 108 = .ok (.dup, 1) := by decide +kernel
theorem dX5_goOn_109 : decode cX5_goOn 109 = .ok (.getfield 110, 3) := by decide +kernel
theorem dX5_goOn_112 : decode cX5_goOn 112 = .ok (.aload_n 1, 1) := by decide +kernel
theorem dX5_goOn_113 : decode cX5_goOn 113 = .ok (.getfield 184, 3) := by decide +kernel
theorem dX5_goOn_116 : decode cX5_goOn 116 = .ok (.iadd, 1) := by decide +kernel
theorem dX5_goOn_117 : decode cX5_goOn 117 = .ok (.putfield 110, 3) := by decide +kernel
theorem dX5_goOn_120 : decode cX5_goOn 120 = .ok (.aload_n 0, 1) := by decide +kernel
theorem dX5_goOn_121 : decode cX5_goOn 121 = .ok (.dup, 1) := by decide +kernel
theorem dX5_goOn_122 : decode cX5_goOn 122 = .ok (.getfield 232, 3) := by decide +kernel
theorem dX5_goOn_125 : decode cX5_goOn 125 = .ok (.aload_n 1, 1) := by decide +kernel
theorem dX5_goOn_126 : decode cX5_goOn 126 = .ok (.getfield 184, 3) := by decide +kernel
theorem dX5_goOn_129 : decode cX5_goOn 129 = .ok (.iadd, 1) := by decide +kernel
theorem dX5_goOn_130 : decode cX5_goOn 130 = .ok (.putfield 232, 3) := by decide +kernel
theorem dX5_goOn_133 : decode cX5_goOn 133 = .ok (.return_, 1) := by decide +kernel
theorem dX5_doAgain_0 : decode cX5_doAgain 0 = .ok (.aload_n 0, 1) := by decide +kernel
theorem dX5_doAgain_1 : decode cX5_doAgain 1 = .ok (.getfield 35, 3) := by decide +kernel
theorem dX5_doAgain_4 : decode cX5_doAgain 4 = .ok (.aload_n 1, 1) := by decide +kernel
theorem dX5_doAgain_5 : decode cX5_doAgain 5 = .ok (.getfield 250, 3) := by decide +kernel
theorem dX5_doAgain_8 : decode cX5_doAgain 8 = .ok (.invokevirtual 253, 3) := by decide +kernel
theorem dX5_doAgain_11 : decode cX5_doAgain 11 = .ok (.aload_n 0, 1) := by decide +kernel
theorem dX5_doAgain_12 : decode cX5_doAgain 12 = .ok (.getfield 35, 3) := by decide +kernel
theorem dX5_doAgain_15 : decode cX5_doAgain 15 = .ok (.aload_n 1, 1) := by decide +kernel
theorem dX5_doAgain_16 : decode cX5_doAgain 16 = .ok (.aload_n 1, 1) := by decide +kernel
theorem dX5_doAgain_17 : decode cX5_doAgain 17 = .ok (.getfield 168, 3) := by decide +kernel
theorem dX5_doAgain_20 : decode cX5_doAgain 20 = .ok (.getfield 279, 3) := by decide +kernel
theorem dX5_doAgain_23 : decode cX5_doAgain 23 = .ok (.invokevirtual 263, 3) := by decide +kernel
theorem dX5_doAgain_26 : decode cX5_doAgain 26 = .ok (.return_, 1) := by decide +kernel
theorem dX5_payRespondent_0 : decode cX5_payRespondent 0 = .ok (.aload_n 1, 1) := by decide +kernel
theorem dX5_payRespondent_1 : decode cX5_payRespondent 1 = .ok (.getfield 174, 3) := by decide +kernel
theorem dX5_payRespondent_4 : decode cX5_payRespondent 4 = .ok (.dup, 1) := by decide +kernel
theorem dX5_payRespondent_5 : decode cX5_payRespondent 5 = .ok (.getfield 110, 3) := by decide +kernel
theorem dX5_payRespondent_8 : decode cX5_payRespondent 8 = .ok (.iload_n 2, 1) := by decide +kernel
theorem dX5_payRespondent_9 : decode cX5_payRespondent 9 = .ok (.isub, 1) := by decide +kernel
theorem dX5_payRespondent_10 : decode cX5_payRespondent 10 = .ok (.putfield 110, 3) := by decide +kernel
theorem dX5_payRespondent_13 : decode cX5_payRespondent 13 = .ok (.aload_n 0, 1) := by decide +kernel
theorem dX5_payRespondent_14 : decode cX5_payRespondent 14 = .ok (.getfield 29, 3) := by decide +kernel
theorem dX5_payRespondent_17 : decode cX5_payRespondent 17 = .ok (.aload_n 1, 1) := by decide +kernel
theorem dX5_payRespondent_18 : decode cX5_payRespondent 18 = .ok (.getfield 242, 3) := by decide +kernel
theorem dX5_payRespondent_21 : decode cX5_payRespondent 21 = .ok (.iload_n 2, 1) := by decide +kernel
theorem dX5_payRespondent_22 : decode cX5_payRespondent 22 = .ok (.invokestatic 266, 3) := by decide +kernel
theorem dX5_payRespondent_25 : decode cX5_payRespondent 25 = .ok (.return_, 1) := by decide +kernel
theorem dX5_isWithin_0 : decode cX5_isWithin 0 = .ok (.iload_n 0, 1) := by decide +kernel
theorem dX5_isWithin_1 : decode cX5_isWithin 1 = .ok (.iload_n 1, 1) := by decide +kernel
theorem dX5_isWithin_2 : decode cX5_isWithin 2 = .ok (.if_icmp .lt 12, 3) := by decide +kernel
theorem dX5_isWithin_5 : decode cX5_isWithin 5 = .ok (.iload_n 0, 1) := by decide +kernel
theorem dX5_isWithin_6 : decode cX5_isWithin 6 = .ok (.iload_n 2, 1) := by decide +kernel
theorem dX5_isWithin_7 : decode cX5_isWithin 7 = .ok (.if_icmp .gt 7, 3) := by decide +kernel
theorem dX5_isWithin_10 : decode cX5_isWithin 10 = .ok (.iconst 1, 1) := by decide +kernel
theorem dX5_isWithin_11 : decode cX5_isWithin 11 = .ok (.goto 4, 3) := by decide +kernel
theorem dX5_isWithin_14 : decode cX5_isWithin 14 = .ok (.iconst 0, 1) := by decide +kernel
theorem dX5_isWithin_15 : decode cX5_isWithin 15 = .ok (.ireturn, 1) := by decide +kernel
theorem dX5_at_0 : decode cX5_at 0 = .ok (.iload_n 1, 1) := by decide +kernel
theorem dX5_at_1 : decode cX5_at 1 = .ok (.ifCond .lt 15, 3) := by decide +kernel
theorem dX5_at_4 : decode cX5_at 4 = .ok (.iload_n 1, 1) := by decide +kernel
theorem dX5_at_5 : decode cX5_at 5 = .ok (.aload_n 0, 1) := by decide +kernel
theorem dX5_at_6 : decode cX5_at 6 = .ok (.arraylength, 1) := by decide +kernel
theorem dX5_at_7 : decode cX5_at 7 = .ok (.if_icmp .ge 9, 3) := by decide +kernel
theorem dX5_at_10 : decode cX5_at 10 = .ok (.aload_n 0, 1) := by decide +kernel
theorem dX5_at_11 : decode cX5_at 11 = .ok (.iload_n 1, 1) := by decide +kernel
theorem dX5_at_12 : decode cX5_at 12 = .ok (.iaload, 1) := by decide +kernel
theorem dX5_at_13 : decode cX5_at 13 = .ok (.goto 4, 3) := by decide +kernel
theorem dX5_at_16 : decode cX5_at 16 = .ok (.iconst 0, 1) := by decide +kernel
theorem dX5_at_17 : decode cX5_at 17 = .ok (.ireturn, 1) := by decide +kernel
theorem dX5_addTo_0 : decode cX5_addTo 0 = .ok (.iload_n 1, 1) := by decide +kernel
theorem dX5_addTo_1 : decode cX5_addTo 1 = .ok (.ifCond .lt 16, 3) := by decide +kernel
theorem dX5_addTo_4 : decode cX5_addTo 4 = .ok (.iload_n 1, 1) := by decide +kernel
theorem dX5_addTo_5 : decode cX5_addTo 5 = .ok (.aload_n 0, 1) := by decide +kernel
theorem dX5_addTo_6 : decode cX5_addTo 6 = .ok (.arraylength, 1) := by decide +kernel
theorem dX5_addTo_7 : decode cX5_addTo 7 = .ok (.if_icmp .ge 10, 3) := by decide +kernel
theorem dX5_addTo_10 : decode cX5_addTo 10 = .ok (.aload_n 0, 1) := by decide +kernel
theorem dX5_addTo_11 : decode cX5_addTo 11 = .ok (.iload_n 1, 1) := by decide +kernel
theorem dX5_addTo_12 : decode cX5_addTo 12 = .ok (.dup2, 1) := by decide +kernel
theorem dX5_addTo_13 : decode cX5_addTo 13 = .ok (.iaload, 1) := by decide +kernel
theorem dX5_addTo_14 : decode cX5_addTo 14 = .ok (.iload_n 2, 1) := by decide +kernel
theorem dX5_addTo_15 : decode cX5_addTo 15 = .ok (.iadd, 1) := by decide +kernel
theorem dX5_addTo_16 : decode cX5_addTo 16 = .ok (.iastore, 1) := by decide +kernel
theorem dX5_addTo_17 : decode cX5_addTo 17 = .ok (.return_, 1) := by decide +kernel
theorem dX6_init_0 : decode cX6_init 0 = .ok (.aload_n 0, 1) := by decide +kernel
theorem dX6_init_1 : decode cX6_init 1 = .ok (.invokespecial 1, 3) := by decide +kernel
theorem dX6_init_4 : decode cX6_init 4 = .ok (.aload_n 0, 1) := by decide +kernel
theorem dX6_init_5 : decode cX6_init 5 = .ok (.bipush 96, 2) := by decide +kernel
theorem dX6_init_7 : decode cX6_init 7 = .ok (.newarray .int, 2) := by decide +kernel
theorem dX6_init_9 : decode cX6_init 9 = .ok (.putfield 7, 3) := by decide +kernel
theorem dX6_init_12 : decode cX6_init 12 = .ok (.aload_n 0, 1) := by decide +kernel
theorem dX6_init_13 : decode cX6_init 13 = .ok (.bipush 96, 2) := by decide +kernel
theorem dX6_init_15 : decode cX6_init 15 = .ok (.newarray .int, 2) := by decide +kernel
theorem dX6_init_17 : decode cX6_init 17 = .ok (.putfield 13, 3) := by decide +kernel
theorem dX6_init_20 : decode cX6_init 20 = .ok (.aload_n 0, 1) := by decide +kernel
theorem dX6_init_21 : decode cX6_init 21 = .ok (.iconst 4, 1) := by decide +kernel
theorem dX6_init_22 : decode cX6_init 22 = .ok (.newarray .int, 2) := by decide +kernel
theorem dX6_init_24 : decode cX6_init 24 = .ok (.putfield 16, 3) := by decide +kernel
theorem dX6_init_27 : decode cX6_init 27 = .ok (.aload_n 0, 1) := by decide +kernel
theorem dX6_init_28 : decode cX6_init 28 = .ok (.sipush 576, 3) := by decide +kernel
theorem dX6_init_31 : decode cX6_init 31 = .ok (.newarray .int, 2) := by decide +kernel
theorem dX6_init_33 : decode cX6_init 33 = .ok (.putfield 19, 3) := by decide +kernel
theorem dX6_init_36 : decode cX6_init 36 = .ok (.aload_n 0, 1) := by decide +kernel
theorem dX6_init_37 : decode cX6_init 37 = .ok (.sipush 576, 3) := by decide +kernel
theorem dX6_init_40 : decode cX6_init 40 = .ok (.newarray .int, 2) := by decide +kernel
theorem dX6_init_42 : decode cX6_init 42 = .ok (.putfield 22, 3) := by decide +kernel
theorem dX6_init_45 : decode cX6_init 45 = .ok (.aload_n 0, 1) := by decide +kernel
theorem dX6_init_46 : decode cX6_init 46 = .ok (.bipush 24, 2) := by decide +kernel
theorem dX6_init_48 : decode cX6_init 48 = .ok (.newarray .int, 2) := by decide +kernel
theorem dX6_init_50 : decode cX6_init 50 = .ok (.putfield 25, 3) := by decide +kernel
theorem dX6_init_53 : decode cX6_init 53 = .ok (.aload_n 0, 1) := by decide +kernel
theorem dX6_init_54 : decode cX6_init 54 = .ok (.iconst 4, 1) := by decide +kernel
theorem dX6_init_55 : decode cX6_init 55 = .ok (.newarray .int, 2) := by decide +kernel
theorem dX6_init_57 : decode cX6_init 57 = .ok (.putfield 28, 3) := by decide +kernel
theorem dX6_init_60 : decode cX6_init 60 = .ok (.aload_n 0, 1) := by decide +kernel
theorem dX6_init_61 : decode cX6_init 61 = .ok (.iconst 4, 1) := by decide +kernel
theorem dX6_init_62 : decode cX6_init 62 = .ok (.newarray .int, 2) := by decide +kernel
theorem dX6_init_64 : decode cX6_init 64 = .ok (.putfield 31, 3) := by decide +kernel
theorem dX6_init_67 : decode cX6_init 67 = .ok (.aload_n 0, 1) := by decide +kernel
theorem dX6_init_68 : decode cX6_init 68 = .ok (.iconst 4, 1) := by decide +kernel
theorem dX6_init_69 : decode cX6_init 69 = .ok (.newarray .int, 2) := by decide +kernel
theorem dX6_init_71 : decode cX6_init 71 = .ok (.putfield 34, 3) := by decide +kernel
theorem dX6_init_74 : decode cX6_init 74 = .ok (.aload_n 0, 1) := by decide +kernel
theorem dX6_init_75 : decode cX6_init 75 = .ok (.bipush 16, 2) := by decide +kernel
theorem dX6_init_77 : decode cX6_init 77 = .ok (.newarray .int, 2) := by decide +kernel
theorem dX6_init_79 : decode cX6_init 79 = .ok (.putfield 37, 3) := by decide +kernel
theorem dX6_init_82 : decode cX6_init 82 = .ok (.aload_n 0, 1) := by decide +kernel
theorem dX6_init_83 : decode cX6_init 83 = .ok (.bipush 16, 2) := by decide +kernel
theorem dX6_init_85 : decode cX6_init 85 = .ok (.newarray .int, 2) := by decide +kernel
theorem dX6_init_87 : decode cX6_init 87 = .ok (.putfield 40, 3) := by decide +kernel
theorem dX6_init_90 : decode cX6_init 90 = .ok (.aload_n 0, 1) := by decide +kernel
theorem dX6_init_91 : decode cX6_init 91 = .ok (.bipush 16, 2) := by decide +kernel
theorem dX6_init_93 : decode cX6_init 93 = .ok (.newarray .int, 2) := by decide +kernel
theorem dX6_init_95 : decode cX6_init 95 = .ok (.putfield 43, 3) := by decide +kernel
theorem dX6_init_98 : decode cX6_init 98 = .ok (.aload_n 0, 1) := by decide +kernel
theorem dX6_init_99 : decode cX6_init 99 = .ok (.bipush 16, 2) := by decide +kernel
theorem dX6_init_101 : decode cX6_init 101 = .ok (.newarray .int, 2) := by decide +kernel
theorem dX6_init_103 : decode cX6_init 103 = .ok (.putfield 46, 3) := by decide +kernel
theorem dX6_init_106 : decode cX6_init 106 = .ok (.aload_n 0, 1) := by decide +kernel
theorem dX6_init_107 : decode cX6_init 107 = .ok (.bipush 16, 2) := by decide +kernel
theorem dX6_init_109 : decode cX6_init 109 = .ok (.newarray .int, 2) := by decide +kernel
theorem dX6_init_111 : decode cX6_init 111 = .ok (.putfield 49, 3) := by decide +kernel
theorem dX6_init_114 : decode cX6_init 114 = .ok (.aload_n 0, 1) := by decide +kernel
theorem dX6_init_115 : decode cX6_init 115 = .ok (.bipush 24, 2) := by decide +kernel
theorem dX6_init_117 : decode cX6_init 117 = .ok (.newarray .int, 2) := by decide +kernel
theorem dX6_init_119 : decode cX6_init 119 = .ok (.putfield 52, 3) := by decide +kernel
theorem dX6_init_122 : decode cX6_init 122 = .ok (.aload_n 0, 1) := by decide +kernel
theorem dX6_init_123 : decode cX6_init 123 = .ok (.bipush 24, 2) := by decide +kernel
theorem dX6_init_125 : decode cX6_init 125 = .ok (.newarray .int, 2) := by decide +kernel
theorem dX6_init_127 : decode cX6_init 127 = .ok (.putfield 55, 3) := by decide +kernel
theorem dX6_init_130 : decode cX6_init 130 = .ok (.aload_n 0, 1) := by decide +kernel
theorem dX6_init_131 : decode cX6_init 131 = .ok (.bipush 24, 2) := by decide +kernel
theorem dX6_init_133 : decode cX6_init 133 = .ok (.newarray .int, 2) := by decide +kernel
theorem dX6_init_135 : decode cX6_init 135 = .ok (.putfield 58, 3) := by decide +kernel
theorem dX6_init_138 : decode cX6_init 138 = .ok (.aload_n 0, 1) := by decide +kernel
theorem dX6_init_139 : decode cX6_init 139 = .ok (.bipush 24, 2) := by decide +kernel
theorem dX6_init_141 : decode cX6_init 141 = .ok (.newarray .int, 2) := by decide +kernel
theorem dX6_init_143 : decode cX6_init 143 = .ok (.putfield 61, 3) := by decide +kernel
theorem dX6_init_146 : decode cX6_init 146 = .ok (.aload_n 0, 1) := by decide +kernel
theorem dX6_init_147 : decode cX6_init 147 = .ok (.sipush 192, 3) := by decide +kernel
theorem dX6_init_150 : decode cX6_init 150 = .ok (.newarray .int, 2) := by decide +kernel
theorem dX6_init_152 : decode cX6_init 152 = .ok (.putfield 64, 3) := by decide +kernel
theorem dX6_init_155 : decode cX6_init 155 = .ok (.aload_n 0, 1) := by decide +kernel
theorem dX6_init_156 : decode cX6_init 156 = .ok (.bipush 24, 2) := by decide +kernel
theorem dX6_init_158 : decode cX6_init 158 = .ok (.newarray .int, 2) := by decide +kernel
theorem dX6_init_160 : decode cX6_init 160 = .ok (.putfield 67, 3) := by decide +kernel
theorem dX6_init_163 : decode cX6_init 163 = .ok (.aload_n 0, 1) := by decide +kernel
theorem dX6_init_164 : decode cX6_init 164 = .ok (.sipush 192, 3) := by decide +kernel
theorem dX6_init_167 : decode cX6_init 167 = .ok (.newarray .int, 2) := by decide +kernel
theorem dX6_init_169 : decode cX6_init 169 = .ok (.putfield 70, 3) := by decide +kernel
theorem dX6_init_172 : decode cX6_init 172 = .ok (.aload_n 0, 1) := by decide +kernel
theorem dX6_init_173 : decode cX6_init 173 = .ok (.bipush 24, 2) := by decide +kernel
theorem dX6_init_175 : decode cX6_init 175 = .ok (.newarray .int, 2) := by decide +kernel
theorem dX6_init_177 : decode cX6_init 177 = .ok (.putfield 73, 3) := by decide +kernel
theorem dX6_init_180 : decode cX6_init 180 = .ok (.aload_n 0, 1) := by decide +kernel
theorem dX6_init_181 : decode cX6_init 181 = .ok (.bipush 24, 2) := by decide +kernel
theorem dX6_init_183 : decode cX6_init 183 = .ok (.newarray .int, 2) := by decide +kernel
theorem dX6_init_185 : decode cX6_init 185 = .ok (.putfield 76, 3) := by decide +kernel
theorem dX6_init_188 : decode cX6_init 188 = .ok (.aload_n 0, 1) := by decide +kernel
theorem dX6_init_189 : decode cX6_init 189 = .ok (.bipush 24, 2) := by decide +kernel
theorem dX6_init_191 : decode cX6_init 191 = .ok (.newarray .int, 2) := by decide +kernel
theorem dX6_init_193 : decode cX6_init 193 = .ok (.putfield 79, 3) := by decide +kernel
theorem dX6_init_196 : decode cX6_init 196 = .ok (.aload_n 0, 1) := by decide +kernel
theorem dX6_init_197 : decode cX6_init 197 = .ok (.bipush 24, 2) := by decide +kernel
theorem dX6_init_199 : decode cX6_init 199 = .ok (.newarray .int, 2) := by decide +kernel
theorem dX6_init_201 : decode cX6_init 201 = .ok (.putfield 82, 3) := by decide +kernel
theorem dX6_init_204 : decode cX6_init 204 = .ok (.aload_n 0, 1) := by decide +kernel
theorem dX6_init_205 : decode cX6_init 205 = .ok (.bipush 24, 2) := by decide +kernel
theorem dX6_init_207 : decode cX6_init 207 = .ok (.newarray .int, 2) := by decide +kernel
theorem dX6_init_209 : decode cX6_init 209 = .ok (.putfield 85, 3) := by decide +kernel
theorem dX6_init_212 : decode cX6_init 212 = .ok (.aload_n 0, 1) := by decide +kernel
theorem dX6_init_213 : decode cX6_init 213 = .ok (.sipush 384, 3) := by decide +kernel
theorem dX6_init_216 : decode cX6_init 216 = .ok (.newarray .int, 2) := by decide +kernel
theorem dX6_init_218 : decode cX6_init 218 = .ok (.putfield 88, 3) := by decide +kernel
theorem dX6_init_221 : decode cX6_init 221 = .ok (.aload_n 0, 1) := by decide +kernel
theorem dX6_init_222 : decode cX6_init 222 = .ok (.sipush 384, 3) := by decide +kernel
theorem dX6_init_225 : decode cX6_init 225 = .ok (.newarray .int, 2) := by decide +kernel
theorem dX6_init_227 : decode cX6_init 227 = .ok (.putfield 91, 3) := by decide +kernel
theorem dX6_init_230 : decode cX6_init 230 = .ok (.aload_n 0, 1) := by decide +kernel
theorem dX6_init_231 : decode cX6_init 231 = .ok (.sipush 1024, 3) := by decide +kernel
theorem dX6_init_234 : decode cX6_init 234 = .ok (.newarray .int, 2) := by decide +kernel
theorem dX6_init_236 : decode cX6_init 236 = .ok (.putfield 94, 3) := by decide +kernel
theorem dX6_init_239 : decode cX6_init 239 = .ok (.aload_n 0, 1) := by decide +kernel
theorem dX6_init_240 : decode cX6_init 240 = .ok (.sipush 1024, 3) := by decide +kernel
theorem dX6_init_243 : decode cX6_init 243 = .ok (.newarray .int, 2) := by decide +kernel
theorem dX6_init_245 : decode cX6_init 245 = .ok (.putfield 97, 3) := by decide +kernel
theorem dX6_init_248 : decode cX6_init 248 = .ok (.aload_n 0, 1) := by decide +kernel
theorem dX6_init_249 : decode cX6_init 249 = .ok (.sipush 1024, 3) := by decide +kernel
theorem dX6_init_252 : decode cX6_init 252 = .ok (.newarray .int, 2) := by decide +kernel
theorem dX6_init_254 : decode cX6_init 254 = .ok (.putfield 100, 3) := by decide +kernel
theorem dX6_init_257 : decode cX6_init 257 = .ok (.aload_n 0, 1) := by decide +kernel
theorem dX6_init_258 : decode cX6_init 258 = .ok (.sipush 1024, 3) := by decide +kernel
theorem dX6_init_261 : decode cX6_init 261 = .ok (.newarray .int, 2) := by decide +kernel
theorem dX6_init_263 : decode cX6_init 263 = .ok (.putfield 103, 3) := by decide +kernel
theorem dX6_init_266 : decode cX6_init 266 = .ok (.iconst 0, 1) := by decide +kernel
theorem dX6_init_267 : decode cX6_init 267 = .ok (.istore_n 1, 1) := by decide +kernel
theorem dX6_init_268 : decode cX6_init 268 = .ok (.iload_n 1, 1) := by decide +kernel
theorem dX6_init_269 : decode cX6_init 269 = .ok (.iconst 4, 1) := by decide +kernel
theorem dX6_init_270 : decode cX6_init 270 = .ok (.if_icmp .ge 17, 3) := by decide +kernel
theorem dX6_init_273 : decode cX6_init 273 = .ok (.aload_n 0, 1) := by decide +kernel
theorem dX6_init_274 : decode cX6_init 274 = .ok (.getfield 31, 3) := by decide +kernel
theorem dX6_init_277 : decode cX6_init 277 = .ok (.iload_n 1, 1) := by decide +kernel
theorem dX6_init_278 : decode cX6_init 278 = .ok (.bipush 60, 2) := by decide +kernel
theorem dX6_init_280 : decode cX6_init 280 = .ok (.iastore, 1) := by decide +kernel
theorem dX6_init_281 : decode cX6_init 281 = .ok (.iinc 1 1, 3) := by decide +kernel
theorem dX6_init_284 : decode cX6_init 284 = .ok (.goto (-16), 3) := by decide +kernel
theorem dX6_init_287 : decode cX6_init 287 = .ok (.iconst 0, 1) := by decide +kernel
theorem dX6_init_288 : decode cX6_init 288 = .ok (.istore_n 1, 1) := by decide +kernel
theorem dX6_init_289 : decode cX6_init 289 = .ok (.iload_n 1, 1) := by decide +kernel
theorem dX6_init_290 : decode cX6_init 290 = .ok (.bipush 16, 2) := by decide +kernel
theorem dX6_init_292 : decode cX6_init 292 = .ok (.if_icmp .ge 17, 3) := by decide +kernel
theorem dX6_init_295 : decode cX6_init 295 = .ok (.aload_n 0, 1) := by decide +kernel
theorem dX6_init_296 : decode cX6_init 296 = .ok (.getfield 37, 3) := by decide +kernel
theorem dX6_init_299 : decode cX6_init 299 = .ok (.iload_n 1, 1) := by decide +kernel
theorem dX6_init_300 : decode cX6_init 300 = .ok (.bipush 20, 2) := by decide +kernel
theorem dX6_init_302 : decode cX6_init 302 = .ok (.iastore, 1) := by decide +kernel
theorem dX6_init_303 : decode cX6_init 303 = .ok (.iinc 1 1, 3) := by decide +kernel
theorem dX6_init_306 : decode cX6_init 306 = .ok (.goto (-17), 3) := by decide +kernel
theorem dX6_init_309 : decode cX6_init 309 = .ok (.return_, 1) := by decide +kernel
theorem dX6_thrown_0 : decode cX6_thrown 0 = .ok (.aload_n 0, 1) := by decide +kernel
theorem dX6_thrown_1 : decode cX6_thrown 1 = .ok (.getfield 106, 3) := by decide +kernel
theorem dX6_thrown_4 : decode cX6_thrown 4 = .ok (.ireturn, 1) := by decide +kernel
theorem dX6_goes_0 : decode cX6_goes 0 = .ok (.aload_n 0, 1) := by decide +kernel
theorem dX6_goes_1 : decode cX6_goes 1 = .ok (.iload_n 1, 1) := by decide +kernel
theorem dX6_goes_2 : decode cX6_goes 2 = .ok (.ifCond .ne 7, 3) := by decide +kernel
theorem dX6_goes_5 : decode cX6_goes 5 = .ok (.iconst 1, 1) := by decide +kernel
theorem dX6_goes_6 : decode cX6_goes 6 = .ok (.goto 20, 3) := by decide +kernel
theorem dX6_goes_9 : decode cX6_goes 9 = .ok (.iload_n 2, 1) := by decide +kernel
theorem dX6_goes_10 : decode cX6_goes 10 = .ok (.ifCond .ne 7, 3) := by decide +kernel
theorem dX6_goes_13 : decode cX6_goes 13 = .ok (.iconst 2, 1) := by decide +kernel
theorem dX6_goes_14 : decode cX6_goes 14 = .ok (.goto 12, 3) := by decide +kernel
theorem dX6_goes_17 : decode cX6_goes 17 = .ok (.iload_n 3, 1) := by decide +kernel
theorem dX6_goes_18 : decode cX6_goes 18 = .ok (.ifCond .ne 7, 3) := by decide +kernel
theorem dX6_goes_21 : decode cX6_goes 21 = .ok (.iconst 3, 1) := by decide +kernel
theorem dX6_goes_22 : decode cX6_goes 22 = .ok (.goto 4, 3) := by decide +kernel
theorem dX6_goes_25 : decode cX6_goes 25 = .ok (.iconst 0, 1) := by decide +kernel
theorem dX6_goes_26 : decode cX6_goes 26 = .ok (.putfield 106, 3) := by decide +kernel
theorem dX6_goes_29 : decode cX6_goes 29 = .ok (.aload_n 0, 1) := by decide +kernel
theorem dX6_goes_30 : decode cX6_goes 30 = .ok (.getfield 106, 3) := by decide +kernel
theorem dX6_goes_33 : decode cX6_goes 33 = .ok (.ifCond .ne 7, 3) := by decide +kernel
theorem dX6_goes_36 : decode cX6_goes 36 = .ok (.iconst 1, 1) := by decide +kernel
theorem dX6_goes_37 : decode cX6_goes 37 = .ok (.goto 4, 3) := by decide +kernel
theorem dX6_goes_40 : decode cX6_goes 40 = .ok (.iconst 0, 1) := by decide +kernel
theorem dX6_goes_41 : decode cX6_goes 41 = .ok (.ireturn, 1) := by decide +kernel
theorem dX6_isBelow_0 : decode cX6_isBelow 0 = .ok (.iload_n 0, 1) := by decide +kernel
theorem dX6_isBelow_1 : decode cX6_isBelow 1 = .ok (.ifCond .lt 12, 3) := by decide +kernel
theorem dX6_isBelow_4 : decode cX6_isBelow 4 = .ok (.iload_n 0, 1) := by decide +kernel
theorem dX6_isBelow_5 : decode cX6_isBelow 5 = .ok (.iload_n 1, 1) := by decide +kernel
theorem dX6_isBelow_6 : decode cX6_isBelow 6 = .ok (.if_icmp .ge 7, 3) := by decide +kernel
theorem dX6_isBelow_9 : decode cX6_isBelow 9 = .ok (.iconst 1, 1) := by decide +kernel
theorem dX6_isBelow_10 : decode cX6_isBelow 10 = .ok (.goto 4, 3) := by decide +kernel
theorem dX6_isBelow_13 : decode cX6_isBelow 13 = .ok (.iconst 0, 1) := by decide +kernel
theorem dX6_isBelow_14 : decode cX6_isBelow 14 = .ok (.ireturn, 1) := by decide +kernel
theorem dX6_isWithin_0 : decode cX6_isWithin 0 = .ok (.iload_n 0, 1) := by decide +kernel
theorem dX6_isWithin_1 : decode cX6_isWithin 1 = .ok (.iload_n 1, 1) := by decide +kernel
theorem dX6_isWithin_2 : decode cX6_isWithin 2 = .ok (.if_icmp .lt 12, 3) := by decide +kernel
theorem dX6_isWithin_5 : decode cX6_isWithin 5 = .ok (.iload_n 0, 1) := by decide +kernel
theorem dX6_isWithin_6 : decode cX6_isWithin 6 = .ok (.iload_n 2, 1) := by decide +kernel
theorem dX6_isWithin_7 : decode cX6_isWithin 7 = .ok (.if_icmp .gt 7, 3) := by decide +kernel
theorem dX6_isWithin_10 : decode cX6_isWithin 10 = .ok (.iconst 1, 1) := by decide +kernel
theorem dX6_isWithin_11 : decode cX6_isWithin 11 = .ok (.goto 4, 3) := by decide +kernel
theorem dX6_isWithin_14 : decode cX6_isWithin 14 = .ok (.iconst 0, 1) := by decide +kernel
theorem dX6_isWithin_15 : decode cX6_isWithin 15 = .ok (.ireturn, 1) := by decide +kernel
theorem dX6_isFit_0 : decode cX6_isFit 0 = .ok (.iload_n 0, 1) := by decide +kernel
theorem dX6_isFit_1 : decode cX6_isFit 1 = .ok (.iconst 1, 1) := by decide +kernel
theorem dX6_isFit_2 : decode cX6_isFit 2 = .ok (.if_icmp .ne 8, 3) := by decide +kernel
theorem dX6_isFit_5 : decode cX6_isFit 5 = .ok (.bipush (-99), 2) := by decide +kernel
theorem dX6_isFit_7 : decode cX6_isFit 7 = .ok (.goto 4, 3) := by decide +kernel
theorem dX6_isFit_10 : decode cX6_isFit 10 = .ok (.iconst 0, 1) := by decide +kernel
theorem dX6_isFit_11 : decode cX6_isFit 11 = .ok (.istore_n 2, 1) := by decide +kernel
theorem dX6_isFit_12 : decode cX6_isFit 12 = .ok (.iload_n 0, 1) := by decide +kernel
theorem dX6_isFit_13 : decode cX6_isFit 13 = .ok (.ifCond .ne 8, 3) := by decide +kernel
theorem dX6_isFit_16 : decode cX6_isFit 16 = .ok (.bipush 15, 2) := by decide +kernel
theorem dX6_isFit_18 : decode cX6_isFit 18 = .ok (.goto 58, 3) := by decide +kernel
theorem dX6_isFit_21 : decode cX6_isFit 21 = .ok (.iload_n 0, 1) := by decide +kernel
theorem dX6_isFit_22 : decode cX6_isFit 22 = .ok (.iconst 1, 1) := by decide +kernel
theorem dX6_isFit_23 : decode cX6_isFit 23 = .ok (.if_icmp .ne 8, 3) := by decide +kernel
theorem dX6_isFit_26 : decode cX6_isFit 26 = .ok (.bipush 99, 2) := by decide +kernel
theorem dX6_isFit_28 : decode cX6_isFit 28 = .ok (.goto 48, 3) := by decide +kernel
theorem dX6_isFit_31 : decode cX6_isFit 31 = .ok (.iload_n 0, 1) := by decide +kernel
theorem dX6_isFit_32 : decode cX6_isFit 32 = .ok (.iconst 2, 1) := by decide +kernel
theorem dX6_isFit_33 : decode cX6_isFit 33 = .ok (.if_icmp .eq 8, 3) := by decide +kernel
theorem dX6_isFit_36 : decode cX6_isFit 36 = .ok (.iload_n 0, 1) := by decide +kernel
theorem dX6_isFit_37 : decode cX6_isFit 37 = .ok (.iconst 3, 1) := by decide +kernel
theorem dX6_isFit_38 : decode cX6_isFit 38 = .ok (.if_icmp .ne 8, 3) := by decide +kernel
theorem dX6_isFit_41 : decode cX6_isFit 41 = .ok (.bipush 7, 2) := by decide +kernel
theorem dX6_isFit_43 : decode cX6_isFit 43 = .ok (.goto 33, 3) := by decide +kernel
theorem dX6_isFit_46 : decode cX6_isFit 46 = .ok (.iload_n 0, 1) := by decide +kernel
theorem dX6_isFit_47 : decode cX6_isFit 47 = .ok (.bipush 8, 2) := by decide +kernel
theorem dX6_isFit_49 : decode cX6_isFit 49 = .ok (.if_icmp .eq 9, 3) := by decide +kernel
theorem dX6_isFit_52 : decode cX6_isFit 52 = .ok (.iload_n 0, 1) := by decide +kernel
theorem dX6_isFit_53 : decode cX6_isFit 53 = .ok (.bipush 9, 2) := by decide +kernel
theorem dX6_isFit_55 : decode cX6_isFit 55 = .ok (.if_icmp .ne 8, 3) := by decide +kernel
theorem dX6_isFit_58 : decode cX6_isFit 58 = .ok (.bipush 24, 2) := by decide +kernel
theorem dX6_isFit_60 : decode cX6_isFit 60 = .ok (.goto 16, 3) := by decide +kernel
theorem dX6_isFit_63 : decode cX6_isFit 63 = .ok (.iload_n 0, 1) := by decide +kernel
theorem dX6_isFit_64 : decode cX6_isFit 64 = .ok (.bipush 10, 2) := by decide +kernel
theorem dX6_isFit_66 : decode cX6_isFit 66 = .ok (.if_icmp .ne 9, 3) := by decide +kernel
theorem dX6_isFit_69 : decode cX6_isFit 69 = .ok (.sipush 500, 3) := by decide +kernel
theorem dX6_isFit_72 : decode cX6_isFit 72 = .ok (.goto 4, 3) := by decide +kernel
theorem dX6_isFit_75 : decode cX6_isFit 75 = .ok (.iconst 0, 1) := by decide +kernel
theorem dX6_isFit_76 : decode cX6_isFit 76 = .ok (.istore_n 3, 1) := by decide +kernel
theorem dX6_isFit_77 : decode cX6_isFit 77 = .ok (.iload_n 0, 1) := by decide +kernel
theorem dX6_isFit_78 : decode cX6_isFit 78 = .ok (.iconst 0, 1) := by decide +kernel
theorem dX6_isFit_79 : decode cX6_isFit 79 = .ok (.bipush 12, 2) := by decide +kernel
theorem dX6_isFit_81 : decode cX6_isFit 81 = .ok (.invokestatic 110, 3) := by decide +kernel
theorem dX6_isFit_84 : decode cX6_isFit 84 = .ok (.ifCond .eq 16, 3) := by decide +kernel
theorem dX6_isFit_87 : decode cX6_isFit 87 = .ok (.iload_n 1, 1) := by decide +kernel
theorem dX6_isFit_88 : decode cX6_isFit 88 = .ok (.iload_n 2, 1) := by decide +kernel
theorem dX6_isFit_89 : decode cX6_isFit 89 = .ok (.iload_n 3, 1) := by decide +kernel
theorem dX6_isFit_90 : decode cX6_isFit 90 = .ok (.invokestatic 110, 3) := by decide +kernel
theorem dX6_isFit_93 : decode cX6_isFit 93 = .ok (.ifCond .eq 7, 3) := by decide +kernel
theorem dX6_isFit_96 : decode cX6_isFit 96 = .ok (.iconst 1, 1) := by decide +kernel
theorem dX6_isFit_97 : decode cX6_isFit 97 = .ok (.goto 4, 3) := by decide +kernel
theorem dX6_isFit_100 : decode cX6_isFit 100 = .ok (.iconst 0, 1) := by decide +kernel
theorem dX6_isFit_101 : decode cX6_isFit 101 = .ok (.ireturn, 1) := by decide +kernel
theorem dX6_write_0 : decode cX6_write 0 = .ok (.iload_n 1, 1) := by decide +kernel
theorem dX6_write_1 : decode cX6_write 1 = .ok (.iconst 4, 1) := by decide +kernel
theorem dX6_write_2 : decode cX6_write 2 = .ok (.invokestatic 114, 3) := by decide +kernel
theorem dX6_write_5 : decode cX6_write 5 = .ok (.istore 4, 2) := by decide +kernel
theorem dX6_write_7 : decode cX6_write 7 = .ok (.aload_n 0, 1) := by decide +kernel
theorem dX6_write_8 : decode cX6_write 8 = .ok (.iload 4, 2) := by decide +kernel
theorem dX6_write_10 : decode cX6_write 10 = .ok (.iload_n 2, 1) := by decide +kernel
theorem dX6_write_11 : decode cX6_write 11 = .ok (.iload_n 3, 1) := by decide +kernel
theorem dX6_write_12 : decode cX6_write 12 = .ok (.invokestatic 118, 3) := by decide +kernel
theorem dX6_write_15 : decode cX6_write 15 = .ok (.iload 4, 2) := by decide +kernel
theorem dX6_write_17 : decode cX6_write 17 = .ok (.ifCond .eq 18, 3) := by decide +kernel
theorem dX6_write_20 : decode cX6_write 20 = .ok (.aload_n 0, 1) := by decide +kernel
theorem dX6_write_21 : decode cX6_write 21 = .ok (.getfield 16, 3) := by decide +kernel
theorem dX6_write_24 : decode cX6_write 24 = .ok (.iload_n 1, 1) := by decide +kernel
theorem dX6_write_25 : decode cX6_write 25 = .ok (.iaload, 1) := by decide +kernel
theorem dX6_write_26 : decode cX6_write 26 = .ok (.bipush 24, 2) := by decide +kernel
theorem dX6_write_28 : decode cX6_write 28 = .ok (.if_icmp .ge 7, 3) := by decide +kernel
theorem dX6_write_31 : decode cX6_write 31 = .ok (.iconst 1, 1) := by decide +kernel
theorem dX6_write_32 : decode cX6_write 32 = .ok (.goto 4, 3) := by decide +kernel
theorem dX6_write_35 : decode cX6_write 35 = .ok (.iconst 0, 1) := by decide +kernel
theorem dX6_write_36 : decode cX6_write 36 = .ok (.invokevirtual 121, 3) := by decide +kernel
theorem dX6_write_39 : decode cX6_write 39 = .ok (.ifCond .ne 5, 3) := by decide +kernel
theorem dX6_write_42 : decode cX6_write 42 = .ok (.iconst 0, 1) := by decide +kernel
theorem dX6_write_43 : decode cX6_write 43 = .ok (.ireturn, 1) := by decide +kernel
theorem dX6_write_44 : decode cX6_write 44 = .ok (.bipush 24, 2) := by decide +kernel
theorem dX6_write_46 : decode cX6_write 46 = .ok (.iload_n 1, 1) := by decide +kernel
theorem dX6_write_47 : decode cX6_write 47 = .ok (.imul, 1) := by decide +kernel
theorem dX6_write_48 : decode cX6_write 48 = .ok (.aload_n 0, 1) := by decide +kernel
theorem dX6_write_49 : decode cX6_write 49 = .ok (.getfield 16, 3) := by decide +kernel
theorem dX6_write_52 : decode cX6_write 52 = .ok (.iload_n 1, 1) := by decide +kernel
theorem dX6_write_53 : decode cX6_write 53 = .ok (.iaload, 1) := by decide +kernel
theorem dX6_write_54 : decode cX6_write 54 = .ok (.iadd, 1) := by decide +kernel
theorem dX6_write_55 : decode cX6_write 55 = .ok (.istore 5, 2) := by decide +kernel
theorem dX6_write_57 : decode cX6_write 57 = .ok (.aload_n 0, 1) := by decide +kernel
theorem dX6_write_58 : decode cX6_write 58 = .ok (.getfield 7, 3) := by decide +kernel
theorem dX6_write_61 : decode cX6_write 61 = .ok (.iload 5, 2) := by decide +kernel
theorem dX6_write_63 : decode cX6_write 63 = .ok (.iload_n 2, 1) := by decide +kernel
theorem dX6_write_64 : decode cX6_write 64 = .ok (.iastore, 1) := by decide +kernel
theorem dX6_write_65 : decode cX6_write 65 = .ok (.aload_n 0, 1) := by decide +kernel
theorem dX6_write_66 : decode cX6_write 66 = .ok (.getfield 13, 3) := by decide +kernel
theorem dX6_write_69 : decode cX6_write 69 = .ok (.iload 5, 2) := by decide +kernel
theorem dX6_write_71 : decode cX6_write 71 = .ok (.iload_n 3, 1) := by decide +kernel
theorem dX6_write_72 : decode cX6_write 72 = .ok (.iastore, 1) := by decide +kernel
theorem dX6_write_73 : decode cX6_write 73 = .ok (.aload_n 0, 1) := by decide +kernel
theorem dX6_write_74 : decode cX6_write 74 = .ok (.getfield 16, 3) := by decide +kernel
theorem dX6_write_77 : decode cX6_write 77 = .ok (.iload_n 1, 1) := by decide +kernel
theorem dX6_write_78 : decode cX6_write 78 = .ok (.dup2, 1) := by decide +kernel
theorem dX6_write_79 : decode cX6_write 79 = .ok (.iaload, 1) := by decide +kernel
theorem dX6_write_80 : decode cX6_write 80 = .ok (.iconst 1, 1) := by decide +kernel
theorem dX6_write_81 : decode cX6_write 81 = .ok (.iadd, 1) := by decide +kernel
theorem dX6_write_82 : decode cX6_write 82 = .ok (.iastore, 1) := by decide +kernel
theorem dX6_write_83 : decode cX6_write 83 = .ok (.aload_n 0, 1) := by decide +kernel
theorem dX6_write_84 : decode cX6_write 84 = .ok (.getfield 16, 3) := by decide +kernel
theorem dX6_write_87 : decode cX6_write 87 = .ok (.iload_n 1, 1) := by decide +kernel
theorem dX6_write_88 : decode cX6_write 88 = .ok (.iaload, 1) := by decide +kernel
theorem dX6_write_89 : decode cX6_write 89 = .ok (.ireturn, 1) := by decide +kernel
theorem dX6_publish_0 : decode cX6_publish 0 = .ok (.iload_n 1, 1) := by decide +kernel
theorem dX6_publish_1 : decode cX6_publish 1 = .ok (.iconst 4, 1) := by decide +kernel
theorem dX6_publish_2 : decode cX6_publish 2 = .ok (.invokestatic 114, 3) := by decide +kernel
theorem dX6_publish_5 : decode cX6_publish 5 = .ok (.istore_n 2, 1) := by decide +kernel
theorem dX6_publish_6 : decode cX6_publish 6 = .ok (.aload_n 0, 1) := by decide +kernel
theorem dX6_publish_7 : decode cX6_publish 7 = .ok (.iload_n 2, 1) := by decide +kernel
theorem dX6_publish_8 : decode cX6_publish 8 = .ok (.iload_n 2, 1) := by decide +kernel
theorem dX6_publish_9 : decode cX6_publish 9 = .ok (.ifCond .eq 27, 3) := by decide +kernel
theorem dX6_publish_12 : decode cX6_publish 12 = .ok (.aload_n 0, 1) := by decide +kernel
theorem dX6_publish_13 : decode cX6_publish 13 = .ok (.getfield 16, 3) := by decide +kernel
theorem dX6_publish_16 : decode cX6_publish 16 = .ok (.iload_n 1, 1) := by decide +kernel
theorem dX6_publish_17 : decode cX6_publish 17 = .ok (.iaload, 1) := by decide +kernel
theorem dX6_publish_18 : decode cX6_publish 18 = .ok (.ifCond .le 18, 3) := by decide +kernel
theorem dX6_publish_21 : decode cX6_publish 21 = .ok (.aload_n 0, 1) := by decide +kernel
theorem dX6_publish_22 : decode cX6_publish 22 = .ok (.getfield 28, 3) := by decide +kernel
theorem dX6_publish_25 : decode cX6_publish 25 = .ok (.iload_n 1, 1) := by decide +kernel
theorem dX6_publish_26 : decode cX6_publish 26 = .ok (.iaload, 1) := by decide +kernel
theorem dX6_publish_27 : decode cX6_publish 27 = .ok (.bipush 6, 2) := by decide +kernel
theorem dX6_publish_29 : decode cX6_publish 29 = .ok (.if_icmp .ge 7, 3) := by decide +kernel
theorem dX6_publish_32 : decode cX6_publish 32 = .ok (.iconst 1, 1) := by decide +kernel
theorem dX6_publish_33 : decode cX6_publish 33 = .ok (.goto 4, 3) := by decide +kernel
theorem dX6_publish_36 : decode cX6_publish 36 = .ok (.iconst 0, 1) := by decide +kernel
theorem dX6_publish_37 : decode cX6_publish 37 = .ok (.iconst 1, 1) := by decide +kernel
theorem dX6_publish_38 : decode cX6_publish 38 = .ok (.invokevirtual 121, 3) := by decide +kernel
theorem dX6_publish_41 : decode cX6_publish 41 = .ok (.ifCond .ne 5, 3) := by decide +kernel
theorem dX6_publish_44 : decode cX6_publish 44 = .ok (.iconst 0, 1) := by decide +kernel
theorem dX6_publish_45 : decode cX6_publish 45 = .ok (.ireturn, 1) := by decide +kernel
theorem dX6_publish_46 : decode cX6_publish 46 = .ok (.bipush 6, 2) := by decide +kernel
theorem dX6_publish_48 : decode cX6_publish 48 = .ok (.iload_n 1, 1) := by decide +kernel
theorem dX6_publish_49 : decode cX6_publish 49 = .ok (.imul, 1) := by decide +kernel
theorem dX6_publish_50 : decode cX6_publish 50 = .ok (.aload_n 0, 1) := by decide +kernel
theorem dX6_publish_51 : decode cX6_publish 51 = .ok (.getfield 28, 3) := by decide +kernel
theorem dX6_publish_54 : decode cX6_publish 54 = .ok (.iload_n 1, 1) := by decide +kernel
theorem dX6_publish_55 : decode cX6_publish 55 = .ok (.iaload, 1) := by decide +kernel
theorem dX6_publish_56 : decode cX6_publish 56 = .ok (.iadd, 1) := by decide +kernel
theorem dX6_publish_57 : decode cX6_publish 57 = .ok (.istore_n 3, 1) := by decide +kernel
theorem dX6_publish_58 : decode cX6_publish 58 = .ok (.aload_n 0, 1) := by decide +kernel
theorem dX6_publish_59 : decode cX6_publish 59 = .ok (.getfield 25, 3) := by decide +kernel
theorem dX6_publish_62 : decode cX6_publish 62 = .ok (.iload_n 3, 1) := by decide +kernel
theorem dX6_publish_63 : decode cX6_publish 63 = .ok (.aload_n 0, 1) := by decide +kernel
theorem dX6_publish_64 : decode cX6_publish 64 = .ok (.getfield 16, 3) := by decide +kernel
theorem dX6_publish_67 : decode cX6_publish 67 = .ok (.iload_n 1, 1) := by decide +kernel
theorem dX6_publish_68 : decode cX6_publish 68 = .ok (.iaload, 1) := by decide +kernel
theorem dX6_publish_69 : decode cX6_publish 69 = .ok (.iastore, 1) := by decide +kernel
theorem dX6_publish_70 : decode cX6_publish 70 = .ok (.iconst 0, 1) := by decide +kernel
theorem dX6_publish_71 : decode cX6_publish 71 = .ok (.istore 4, 2) := by decide +kernel
theorem dX6_publish_73 : decode cX6_publish 73 = .ok (.iload 4, 2) := by decide +kernel
theorem dX6_publish_75 : decode cX6_publish 75 = .ok (.aload_n 0, 1) := by decide +kernel
theorem dX6_publish_76 : decode cX6_publish 76 = .ok (.getfield 16, 3) := by decide +kernel
theorem dX6_publish_79 : decode cX6_publish 79 = .ok (.iload_n 1, 1) := by decide +kernel
theorem dX6_publish_80 : decode cX6_publish 80 = .ok (.iaload, 1) := by decide +kernel
theorem dX6_publish_81 : decode cX6_publish 81 = .ok (.if_icmp .ge 57, 3) := by decide +kernel
theorem dX6_publish_84 : decode cX6_publish 84 = .ok (.aload_n 0, 1) := by decide +kernel
theorem dX6_publish_85 : decode cX6_publish 85 = .ok (.getfield 19, 3) := by decide +kernel
theorem dX6_publish_88 : decode cX6_publish 88 = .ok (.bipush 24, 2) := by decide +kernel
theorem dX6_publish_90 : decode cX6_publish 90 = .ok (.iload_n 3, 1) := by decide +kernel
theorem dX6_publish_91 : decode cX6_publish 91 = .ok (.imul, 1) := by decide +kernel
theorem dX6_publish_92 : decode cX6_publish 92 = .ok (.iload 4, 2) := by decide +kernel
theorem dX6_publish_94 : decode cX6_publish 94 = .ok (.iadd, 1) := by decide +kernel
theorem dX6_publish_95 : decode cX6_publish 95 = .ok (.aload_n 0, 1) := by decide +kernel
theorem dX6_publish_96 : decode cX6_publish 96 = .ok (.getfield 7, 3) := by decide +kernel
theorem dX6_publish_99 : decode cX6_publish 99 = .ok (.bipush 24, 2) := by decide +kernel
theorem dX6_publish_101 : decode cX6_publish 101 = .ok (.iload_n 1, 1) := by decide +kernel
theorem dX6_publish_102 : decode cX6_publish 102 = .ok (.imul, 1) := by decide +kernel
theorem dX6_publish_103 : decode cX6_publish 103 = .ok (.iload 4, 2) := by decide +kernel
theorem dX6_publish_105 : decode cX6_publish 105 = .ok (.iadd, 1) := by decide +kernel
theorem dX6_publish_106 : decode cX6_publish 106 = .ok (.iaload, 1) := by decide +kernel
theorem dX6_publish_107 : decode cX6_publish 107 = .ok (.iastore, 1) := by decide +kernel
theorem dX6_publish_108 : decode cX6_publish 108 = .ok (.aload_n 0, 1) := by decide +kernel
theorem dX6_publish_109 : decode cX6_publish 109 = .ok (.getfield 22, 3) := by decide +kernel
theorem dX6_publish_112 : decode cX6_publish 112 = .ok (.bipush 24, 2) := by decide +kernel
theorem dX6_publish_114 : decode cX6_publish 114 = .ok (.iload_n 3, 1) := by decide +kernel
theorem dX6_publish_115 : decode cX6_publish 115 = .ok (.imul, 1) := by decide +kernel
theorem dX6_publish_116 : decode cX6_publish 116 = .ok (.iload 4, 2) := by decide +kernel
theorem dX6_publish_118 : decode cX6_publish 118 = .ok (.iadd, 1) := by decide +kernel
theorem dX6_publish_119 : decode cX6_publish 119 = .ok (.aload_n 0, 1) := by decide +kernel
theorem dX6_publish_120 : decode cX6_publish 120 = .ok (.getfield 13, 3) := by decide +kernel
theorem dX6_publish_123 : decode cX6_publish 123 = .ok (.bipush 24, 2) := by decide +kernel
theorem dX6_publish_125 : decode cX6_publish 125 = .ok (.iload_n 1, 1) := by decide +kernel
theorem dX6_publish_126 : decode cX6_publish 126 = .ok (.imul, 1) := by decide +kernel
theorem dX6_publish_127 : decode cX6_publish 127 = .ok (.iload 4, 2) := by decide +kernel
theorem dX6_publish_129 : decode cX6_publish 129 = .ok (.iadd, 1) := by decide +kernel
theorem dX6_publish_130 : decode cX6_publish 130 = .ok (.iaload, 1) := by decide +kernel
theorem dX6_publish_131 : decode cX6_publish 131 = .ok (.iastore, 1) := by decide +kernel
theorem dX6_publish_132 : decode cX6_publish 132 = .ok (.iinc 4 1, 3) := by decide +kernel
theorem dX6_publish_135 : decode cX6_publish 135 = .ok (.goto (-62), 3) := by decide +kernel
theorem dX6_publish_138 : decode cX6_publish 138 = .ok (.aload_n 0, 1) := by decide +kernel
theorem dX6_publish_139 : decode cX6_publish 139 = .ok (.getfield 16, 3) := by decide +kernel
theorem dX6_publish_142 : decode cX6_publish 142 = .ok (.iload_n 1, 1) := by decide +kernel
theorem dX6_publish_143 : decode cX6_publish 143 = .ok (.iconst 0, 1) := by decide +kernel
theorem dX6_publish_144 : decode cX6_publish 144 = .ok (.iastore, 1) := by decide +kernel
theorem dX6_publish_145 : decode cX6_publish 145 = .ok (.aload_n 0, 1) := by decide +kernel
theorem dX6_publish_146 : decode cX6_publish 146 = .ok (.getfield 28, 3) := by decide +kernel
theorem dX6_publish_149 : decode cX6_publish 149 = .ok (.iload_n 1, 1) := by decide +kernel
theorem dX6_publish_150 : decode cX6_publish 150 = .ok (.dup2, 1) := by decide +kernel
theorem dX6_publish_151 : decode cX6_publish 151 = .ok (.iaload, 1) := by decide +kernel
theorem dX6_publish_152 : decode cX6_publish 152 = .ok (.iconst 1, 1) := by decide +kernel
theorem dX6_publish_153 : decode cX6_publish 153 = .ok (.iadd, 1) := by decide +kernel
theorem dX6_publish_154 : decode cX6_publish 154 = .ok (.iastore, 1) := by decide +kernel
theorem dX6_publish_155 : decode cX6_publish 155 = .ok (.aload_n 0, 1) := by decide +kernel
theorem dX6_publish_156 : decode cX6_publish 156 = .ok (.getfield 28, 3) := by decide +kernel
theorem dX6_publish_159 : decode cX6_publish 159 = .ok (.iload_n 1, 1) := by decide +kernel
theorem dX6_publish_160 : decode cX6_publish 160 = .ok (.iaload, 1) := by decide +kernel
theorem dX6_publish_161 : decode cX6_publish 161 = .ok (.iconst 1, 1) := by decide +kernel
theorem dX6_publish_162 : decode cX6_publish 162 = .ok (.isub, 1) := by decide +kernel
theorem dX6_publish_163 : decode cX6_publish 163 = .ok (.ireturn, 1) := by decide +kernel
theorem dX6_setFuel_0 : decode cX6_setFuel 0 = .ok (.aload_n 0, 1) := by decide +kernel
theorem dX6_setFuel_1 : decode cX6_setFuel 1 = .ok (.iload_n 1, 1) := by decide +kernel
theorem dX6_setFuel_2 : decode cX6_setFuel 2 = .ok (.iconst 4, 1) := by decide +kernel
theorem dX6_setFuel_3 : decode cX6_setFuel 3 = .ok (.invokestatic 114, 3) := by decide +kernel
theorem dX6_setFuel_6 : decode cX6_setFuel 6 = .ok (.iload_n 2, 1) := by decide +kernel
theorem dX6_setFuel_7 : decode cX6_setFuel 7 = .ok (.iconst 1, 1) := by decide +kernel
theorem dX6_setFuel_8 : decode cX6_setFuel 8 = .ok (.sipush 200, 3) := by decide +kernel
theorem dX6_setFuel_11 : decode cX6_setFuel 11 = .ok (.invokestatic 110, 3) := by decide +kernel
theorem dX6_setFuel_14 : decode cX6_setFuel 14 = .ok (.iconst 1, 1) := by decide +kernel
theorem dX6_setFuel_15 : decode cX6_setFuel 15 = .ok (.invokevirtual 121, 3) := by decide +kernel
theorem dX6_setFuel_18 : decode cX6_setFuel 18 = .ok (.ifCond .ne 5, 3) := by decide +kernel
theorem dX6_setFuel_21 : decode cX6_setFuel 21 = .ok (.iconst 0, 1) := by decide +kernel
theorem dX6_setFuel_22 : decode cX6_setFuel 22 = .ok (.ireturn, 1) := by decide +kernel
theorem dX6_setFuel_23 : decode cX6_setFuel 23 = .ok (.aload_n 0, 1) := by decide +kernel
theorem dX6_setFuel_24 : decode cX6_setFuel 24 = .ok (.getfield 31, 3) := by decide +kernel
theorem dX6_setFuel_27 : decode cX6_setFuel 27 = .ok (.iload_n 1, 1) := by decide +kernel
theorem dX6_setFuel_28 : decode cX6_setFuel 28 = .ok (.iaload, 1) := by decide +kernel
theorem dX6_setFuel_29 : decode cX6_setFuel 29 = .ok (.istore_n 3, 1) := by decide +kernel
theorem dX6_setFuel_30 : decode cX6_setFuel 30 = .ok (.aload_n 0, 1) := by decide +kernel
theorem dX6_setFuel_31 : decode cX6_setFuel 31 = .ok (.getfield 31, 3) := by decide +kernel
theorem dX6_setFuel_34 : decode cX6_setFuel 34 = .ok (.iload_n 1, 1) := by decide +kernel
theorem dX6_setFuel_35 : decode cX6_setFuel 35 = .ok (.iload_n 2, 1) := by decide +kernel
theorem dX6_setFuel_36 : decode cX6_setFuel 36 = .ok (.iastore, 1) := by decide +kernel
theorem dX6_setFuel_37 : decode cX6_setFuel 37 = .ok (.iload_n 3, 1) := by decide +kernel
theorem dX6_setFuel_38 : decode cX6_setFuel 38 = .ok (.ireturn, 1) := by decide +kernel
theorem dX6_fund_0 : decode cX6_fund 0 = .ok (.aload_n 0, 1) := by decide +kernel
theorem dX6_fund_1 : decode cX6_fund 1 = .ok (.iload_n 1, 1) := by decide +kernel
theorem dX6_fund_2 : decode cX6_fund 2 = .ok (.iconst 4, 1) := by decide +kernel
theorem dX6_fund_3 : decode cX6_fund 3 = .ok (.invokestatic 114, 3) := by decide +kernel
theorem dX6_fund_6 : decode cX6_fund 6 = .ok (.iload_n 2, 1) := by decide +kernel
theorem dX6_fund_7 : decode cX6_fund 7 = .ok (.iconst 1, 1) := by decide +kernel
theorem dX6_fund_8 : decode cX6_fund 8 = .ok (.ldc 125, 2) := by decide +kernel
theorem dX6_fund_10 : decode cX6_fund 10 = .ok (.invokestatic 110, 3) := by decide +kernel
theorem dX6_fund_13 : decode cX6_fund 13 = .ok (.iconst 1, 1) := by decide +kernel
theorem dX6_fund_14 : decode cX6_fund 14 = .ok (.invokevirtual 121, 3) := by decide +kernel
theorem dX6_fund_17 : decode cX6_fund 17 = .ok (.ifCond .ne 5, 3) := by decide +kernel
theorem dX6_fund_20 : decode cX6_fund 20 = .ok (.iconst 0, 1) := by decide +kernel
theorem dX6_fund_21 : decode cX6_fund 21 = .ok (.ireturn, 1) := by decide +kernel
theorem dX6_fund_22 : decode cX6_fund 22 = .ok (.aload_n 0, 1) := by decide +kernel
theorem dX6_fund_23 : decode cX6_fund 23 = .ok (.getfield 34, 3) := by decide +kernel
theorem dX6_fund_26 : decode cX6_fund 26 = .ok (.iload_n 1, 1) := by decide +kernel
theorem dX6_fund_27 : decode cX6_fund 27 = .ok (.dup2, 1) := by decide +kernel
theorem dX6_fund_28 : decode cX6_fund 28 = .ok (.iaload, 1) := by decide +kernel
theorem dX6_fund_29 : decode cX6_fund 29 = .ok (.iload_n 2, 1) := by decide +kernel
theorem dX6_fund_30 : decode cX6_fund 30 = .ok (.iadd, 1) := by decide +kernel
theorem dX6_fund_31 : decode cX6_fund 31 = .ok (.iastore, 1) := by decide +kernel
theorem dX6_fund_32 : decode cX6_fund 32 = .ok (.aload_n 0, 1) := by decide +kernel
theorem dX6_fund_33 : decode cX6_fund 33 = .ok (.getfield 34, 3) := by decide +kernel
theorem dX6_fund_36 : decode cX6_fund 36 = .ok (.iload_n 1, 1) := by decide +kernel
theorem dX6_fund_37 : decode cX6_fund 37 = .ok (.iaload, 1) := by decide +kernel
theorem dX6_fund_38 : decode cX6_fund 38 = .ok (.ireturn, 1) := by decide +kernel
theorem dX6_setQuota_0 : decode cX6_setQuota 0 = .ok (.aload_n 0, 1) := by decide +kernel
theorem dX6_setQuota_1 : decode cX6_setQuota 1 = .ok (.iload_n 1, 1) := by decide +kernel
theorem dX6_setQuota_2 : decode cX6_setQuota 2 = .ok (.iconst 4, 1) := by decide +kernel
theorem dX6_setQuota_3 : decode cX6_setQuota 3 = .ok (.invokestatic 114, 3) := by decide +kernel
theorem dX6_setQuota_6 : decode cX6_setQuota 6 = .ok (.ifCond .eq 15, 3) := by decide +kernel
theorem dX6_setQuota_9 : decode cX6_setQuota 9 = .ok (.iload_n 2, 1) := by decide +kernel
theorem dX6_setQuota_10 : decode cX6_setQuota 10 = .ok (.iconst 4, 1) := by decide +kernel
theorem dX6_setQuota_11 : decode cX6_setQuota 11 = .ok (.invokestatic 114, 3) := by decide +kernel
theorem dX6_setQuota_14 : decode cX6_setQuota 14 = .ok (.ifCond .eq 7, 3) := by decide +kernel
theorem dX6_setQuota_17 : decode cX6_setQuota 17 = .ok (.iconst 1, 1) := by decide +kernel
theorem dX6_setQuota_18 : decode cX6_setQuota 18 = .ok (.goto 4, 3) := by decide +kernel
theorem dX6_setQuota_21 : decode cX6_setQuota 21 = .ok (.iconst 0, 1) := by decide +kernel
theorem dX6_setQuota_22 : decode cX6_setQuota 22 = .ok (.iload_n 3, 1) := by decide +kernel
theorem dX6_setQuota_23 : decode cX6_setQuota 23 = .ok (.iconst 0, 1) := by decide +kernel
theorem dX6_setQuota_24 : decode cX6_setQuota 24 = .ok (.bipush 20, 2) := by decide +kernel
theorem dX6_setQuota_26 : decode cX6_setQuota 26 = .ok (.invokestatic 110, 3) := by decide +kernel
theorem dX6_setQuota_29 : decode cX6_setQuota 29 = .ok (.iconst 1, 1) := by decide +kernel
theorem dX6_setQuota_30 : decode cX6_setQuota 30 = .ok (.invokevirtual 121, 3) := by decide +kernel
theorem dX6_setQuota_33 : decode cX6_setQuota 33 = .ok (.ifCond .ne 5, 3) := by decide +kernel
theorem dX6_setQuota_36 : decode cX6_setQuota 36 = .ok (.iconst 0, 1) := by decide +kernel
theorem dX6_setQuota_37 : decode cX6_setQuota 37 = .ok (.ireturn, 1) := by decide +kernel
theorem dX6_setQuota_38 : decode cX6_setQuota 38 = .ok (.aload_n 0, 1) := by decide +kernel
theorem dX6_setQuota_39 : decode cX6_setQuota 39 = .ok (.getfield 37, 3) := by decide +kernel
theorem dX6_setQuota_42 : decode cX6_setQuota 42 = .ok (.iconst 4, 1) := by decide +kernel
theorem dX6_setQuota_43 : decode cX6_setQuota 43 = .ok (.iload_n 1, 1) := by decide +kernel
theorem dX6_setQuota_44 : decode cX6_setQuota 44 = .ok (.imul, 1) := by decide +kernel
theorem dX6_setQuota_45 : decode cX6_setQuota 45 = .ok (.iload_n 2, 1) := by decide +kernel
theorem dX6_setQuota_46 : decode cX6_setQuota 46 = .ok (.iadd, 1) := by decide +kernel
theorem dX6_setQuota_47 : decode cX6_setQuota 47 = .ok (.iaload, 1) := by decide +kernel
theorem dX6_setQuota_48 : decode cX6_setQuota 48 = .ok (.istore 4, 2) := by decide +kernel
theorem dX6_setQuota_50 : decode cX6_setQuota 50 = .ok (.aload_n 0, 1) := by decide +kernel
theorem dX6_setQuota_51 : decode cX6_setQuota 51 = .ok (.getfield 37, 3) := by decide +kernel
theorem dX6_setQuota_54 : decode cX6_setQuota 54 = .ok (.iconst 4, 1) := by decide +kernel
theorem dX6_setQuota_55 : decode cX6_setQuota 55 = .ok (.iload_n 1, 1) := by decide +kernel
theorem dX6_setQuota_56 : decode cX6_setQuota 56 = .ok (.imul, 1) := by decide +kernel
theorem dX6_setQuota_57 : decode cX6_setQuota 57 = .ok (.iload_n 2, 1) := by decide +kernel
theorem dX6_setQuota_58 : decode cX6_setQuota 58 = .ok (.iadd, 1) := by decide +kernel
theorem dX6_setQuota_59 : decode cX6_setQuota 59 = .ok (.iload_n 3, 1) := by decide +kernel
theorem dX6_setQuota_60 : decode cX6_setQuota 60 = .ok (.iastore, 1) := by decide +kernel
theorem dX6_setQuota_61 : decode cX6_setQuota 61 = .ok (.iload 4, 2) := by decide +kernel
theorem dX6_setQuota_63 : decode cX6_setQuota 63 = .ok (.ireturn, 1) := by decide +kernel
theorem dX6_setPrice_0 : decode cX6_setPrice 0 = .ok (.aload_n 0, 1) := by decide +kernel
theorem dX6_setPrice_1 : decode cX6_setPrice 1 = .ok (.iload_n 1, 1) := by decide +kernel
theorem dX6_setPrice_2 : decode cX6_setPrice 2 = .ok (.bipush 16, 2) := by decide +kernel
theorem dX6_setPrice_4 : decode cX6_setPrice 4 = .ok (.invokestatic 114, 3) := by decide +kernel
theorem dX6_setPrice_7 : decode cX6_setPrice 7 = .ok (.iload_n 2, 1) := by decide +kernel
theorem dX6_setPrice_8 : decode cX6_setPrice 8 = .ok (.iconst 0, 1) := by decide +kernel
theorem dX6_setPrice_9 : decode cX6_setPrice 9 = .ok (.sipush 1000, 3) := by decide +kernel
theorem dX6_setPrice_12 : decode cX6_setPrice 12 = .ok (.invokestatic 110, 3) := by decide +kernel
theorem dX6_setPrice_15 : decode cX6_setPrice 15 = .ok (.iconst 1, 1) := by decide +kernel
theorem dX6_setPrice_16 : decode cX6_setPrice 16 = .ok (.invokevirtual 121, 3) := by decide +kernel
theorem dX6_setPrice_19 : decode cX6_setPrice 19 = .ok (.ifCond .ne 5, 3) := by decide +kernel
theorem dX6_setPrice_22 : decode cX6_setPrice 22 = .ok (.iconst 0, 1) := by decide +kernel
theorem dX6_setPrice_23 : decode cX6_setPrice 23 = .ok (.ireturn, 1) := by decide +kernel
theorem dX6_setPrice_24 : decode cX6_setPrice 24 = .ok (.aload_n 0, 1) := by decide +kernel
theorem dX6_setPrice_25 : decode cX6_setPrice 25 = .ok (.getfield 43, 3) := by decide +kernel
theorem dX6_setPrice_28 : decode cX6_setPrice 28 = .ok (.iload_n 1, 1) := by decide +kernel
theorem dX6_setPrice_29 : decode cX6_setPrice 29 = .ok (.iaload, 1) := by decide +kernel
theorem dX6_setPrice_30 : decode cX6_setPrice 30 = .ok (.istore_n 3, 1) := by decide +kernel
theorem dX6_setPrice_31 : decode cX6_setPrice 31 = .ok (.aload_n 0, 1) := by decide +kernel
theorem dX6_setPrice_32 : decode cX6_setPrice 32 = .ok (.getfield 43, 3) := by decide +kernel
theorem dX6_setPrice_35 : decode cX6_setPrice 35 = .ok (.iload_n 1, 1) := by decide +kernel
theorem dX6_setPrice_36 : decode cX6_setPrice 36 = .ok (.iload_n 2, 1) := by decide +kernel
theorem dX6_setPrice_37 : decode cX6_setPrice 37 = .ok (.iastore, 1) := by decide +kernel
theorem dX6_setPrice_38 : decode cX6_setPrice 38 = .ok (.iload_n 3, 1) := by decide +kernel
theorem dX6_setPrice_39 : decode cX6_setPrice 39 = .ok (.ireturn, 1) := by decide +kernel
theorem dX6_reword_0 : decode cX6_reword 0 = .ok (.aload_n 0, 1) := by decide +kernel
theorem dX6_reword_1 : decode cX6_reword 1 = .ok (.iload_n 1, 1) := by decide +kernel
theorem dX6_reword_2 : decode cX6_reword 2 = .ok (.bipush 16, 2) := by decide +kernel
theorem dX6_reword_4 : decode cX6_reword 4 = .ok (.invokestatic 114, 3) := by decide +kernel
theorem dX6_reword_7 : decode cX6_reword 7 = .ok (.iconst 1, 1) := by decide +kernel
theorem dX6_reword_8 : decode cX6_reword 8 = .ok (.iconst 1, 1) := by decide +kernel
theorem dX6_reword_9 : decode cX6_reword 9 = .ok (.invokevirtual 121, 3) := by decide +kernel
theorem dX6_reword_12 : decode cX6_reword 12 = .ok (.ifCond .ne 5, 3) := by decide +kernel
theorem dX6_reword_15 : decode cX6_reword 15 = .ok (.iconst 0, 1) := by decide +kernel
theorem dX6_reword_16 : decode cX6_reword 16 = .ok (.ireturn, 1) := by decide +kernel
theorem dX6_reword_17 : decode cX6_reword 17 = .ok (.aload_n 0, 1) := by decide +kernel
theorem dX6_reword_18 : decode cX6_reword 18 = .ok (.getfield 46, 3) := by decide +kernel
theorem dX6_reword_21 : decode cX6_reword 21 = .ok (.iload_n 1, 1) := by decide +kernel
theorem dX6_reword_22 : decode cX6_reword 22 = .ok (.dup2, 1) := by decide +kernel
theorem dX6_reword_23 : decode cX6_reword 23 = .ok (.iaload, 1) := by decide +kernel
theorem dX6_reword_24 : decode cX6_reword 24 = .ok (.iconst 1, 1) := by decide +kernel
theorem dX6_reword_25 : decode cX6_reword 25 = .ok (.iadd, 1) := by decide +kernel
theorem dX6_reword_26 : decode cX6_reword 26 = .ok (.iastore, 1) := by decide +kernel
theorem dX6_reword_27 : decode cX6_reword 27 = .ok (.aload_n 0, 1) := by decide +kernel
theorem dX6_reword_28 : decode cX6_reword 28 = .ok (.getfield 46, 3) := by decide +kernel
theorem dX6_reword_31 : decode cX6_reword 31 = .ok (.iload_n 1, 1) := by decide +kernel
theorem dX6_reword_32 : decode cX6_reword 32 = .ok (.iaload, 1) := by decide +kernel
theorem dX6_reword_33 : decode cX6_reword 33 = .ok (.ireturn, 1) := by decide +kernel
theorem dX6_held_0 : decode cX6_held 0 = .ok (.iload_n 0, 1) := by decide +kernel
theorem dX6_held_1 : decode cX6_held 1 = .ok (.sipush 9999, 3) := by decide +kernel
theorem dX6_held_4 : decode cX6_held 4 = .ok (.if_icmp .le 9, 3) := by decide +kernel
theorem dX6_held_7 : decode cX6_held 7 = .ok (.sipush 9999, 3) := by decide +kernel
theorem dX6_held_10 : decode cX6_held 10 = .ok (.goto 17, 3) := by decide +kernel
theorem dX6_held_13 : decode cX6_held 13 = .ok (.iload_n 0, 1) := by decide +kernel
theorem dX6_held_14 : decode cX6_held 14 = .ok (.sipush (-9999), 3) := by decide +kernel
theorem dX6_held_17 : decode cX6_held 17 = .ok (.if_icmp .ge 9, 3) := by decide +kernel
theorem dX6_held_20 : decode cX6_held 20 = .ok (.sipush (-9999), 3) := by decide +kernel
theorem dX6_held_23 : decode cX6_held 23 = .ok (.goto 4, 3) := by decide +kernel
theorem dX6_held_26 : decode cX6_held 26 = .ok (.iload_n 0, 1) := by decide +kernel
theorem dX6_held_27 : decode cX6_held 27 = .ok (.ireturn, 1) := by decide +kernel
theorem dX6_ends_0 : decode cX6_ends 0 = .ok (.aload_n 0, 1) := by decide +kernel
theorem dX6_ends_1 : decode cX6_ends 1 = .ok (.getfield 79, 3) := by decide +kernel
theorem dX6_ends_4 : decode cX6_ends 4 = .ok (.iload_n 1, 1) := by decide +kernel
theorem dX6_ends_5 : decode cX6_ends 5 = .ok (.iload_n 2, 1) := by decide +kernel
theorem dX6_ends_6 : decode cX6_ends 6 = .ok (.iastore, 1) := by decide +kernel
theorem dX6_ends_7 : decode cX6_ends 7 = .ok (.iload_n 2, 1) := by decide +kernel
theorem dX6_ends_8 : decode cX6_ends 8 = .ok (.iconst 5, 1) := by decide +kernel
theorem dX6_ends_9 : decode cX6_ends 9 = .ok (.if_icmp .eq 8, 3) := by decide +kernel
theorem dX6_ends_12 : decode cX6_ends 12 = .ok (.iload_n 2, 1) := by decide +kernel
theorem dX6_ends_13 : decode cX6_ends 13 = .ok (.iconst 4, 1) := by decide +kernel
theorem dX6_ends_14 : decode cX6_ends 14 = .ok (.if_icmp .ne 38, 3) := by decide +kernel
theorem dX6_ends_17 : decode cX6_ends 17 = .ok (.aload_n 0, 1) := by decide +kernel
theorem dX6_ends_18 : decode cX6_ends 18 = .ok (.dup, 1) := by decide +kernel
theorem dX6_ends_19 : decode cX6_ends 19 = .ok (.getfield 126, 3) := by decide +kernel
theorem dX6_ends_22 : decode cX6_ends 22 = .ok (.aload_n 0, 1) := by decide +kernel
theorem dX6_ends_23 : decode cX6_ends 23 = .ok (.getfield 85, 3) := by decide +kernel
theorem dX6_ends_26 : decode cX6_ends 26 = .ok (.iload_n 1, 1) := by decide +kernel
theorem dX6_ends_27 : decode cX6_ends 27 = .ok (.iaload, 1) := by decide +kernel
theorem dX6_ends_28 : decode cX6_ends 28 = .ok (.iadd, 1) := by decide +kernel
theorem dX6_ends_29 : decode cX6_ends 29 = .ok (.putfield 126, 3) := by decide +kernel
theorem dX6_ends_32 : decode cX6_ends 32 = .ok (.aload_n 0, 1) := by decide +kernel
theorem dX6_ends_33 : decode cX6_ends 33 = .ok (.getfield 34, 3) := by decide +kernel
theorem dX6_ends_36 : decode cX6_ends 36 = .ok (.aload_n 0, 1) := by decide +kernel
theorem dX6_ends_37 : decode cX6_ends 37 = .ok (.getfield 55, 3) := by decide +kernel
theorem dX6_ends_40 : decode cX6_ends 40 = .ok (.iload_n 1, 1) := by decide +kernel
theorem dX6_ends_41 : decode cX6_ends 41 = .ok (.iaload, 1) := by decide +kernel
theorem dX6_ends_42 : decode cX6_ends 42 = .ok (.dup2, 1) := by decide +kernel
theorem dX6_ends_43 : decode cX6_ends 43 = .ok (.iaload, 1) := by decide +kernel
theorem dX6_ends_44 : decode cX6_ends 44 = .ok (.aload_n 0, 1) := by decide +kernel
theorem dX6_ends_45 : decode cX6_ends 45 = .ok (.getfield 85, 3) := by decide +kernel
theorem dX6_ends_48 : decode cX6_ends 48 = .ok (.iload_n 1, 1) := by decide +kernel
theorem dX6_ends_49 : decode cX6_ends 49 = .ok (.iaload, 1) := by decide +kernel
theorem dX6_ends_50 : decode cX6_ends 50 = .ok (.iadd, 1) := by decide +kernel
theorem dX6_ends_51 : decode cX6_ends 51 = .ok (.iastore, 1) := by decide +kernel
theorem dX6_ends_52 : decode cX6_ends 52 = .ok (.return_, 1) := by decide +kernel
theorem dX6_puts_0 : decode cX6_puts 0 = .ok (.aload_n 0, 1) := by decide +kernel
theorem dX6_puts_1 : decode cX6_puts 1 = .ok (.getfield 67, 3) := by decide +kernel
theorem dX6_puts_4 : decode cX6_puts 4 = .ok (.iload_n 1, 1) := by decide +kernel
theorem dX6_puts_5 : decode cX6_puts 5 = .ok (.iaload, 1) := by decide +kernel
theorem dX6_puts_6 : decode cX6_puts 6 = .ok (.bipush 8, 2) := by decide +kernel
theorem dX6_puts_8 : decode cX6_puts 8 = .ok (.if_icmp .ne 10, 3) := by decide +kernel
theorem dX6_puts_11 : decode cX6_puts 11 = .ok (.aload_n 0, 1) := by decide +kernel
theorem dX6_puts_12 : decode cX6_puts 12 = .ok (.iload_n 1, 1) := by decide +kernel
theorem dX6_puts_13 : decode cX6_puts 13 = .ok (.iconst 5, 1) := by decide +kernel
theorem dX6_puts_14 : decode cX6_puts 14 = .ok (.invokevirtual 129, 3) := by decide +kernel
theorem dX6_puts_17 : decode cX6_puts 17 = .ok (.return_, 1) := by decide +kernel
theorem dX6_puts_18 : decode cX6_puts 18 = .ok (.aload_n 0, 1) := by decide +kernel
theorem dX6_puts_19 : decode cX6_puts 19 = .ok (.getfield 64, 3) := by decide +kernel
theorem dX6_puts_22 : decode cX6_puts 22 = .ok (.bipush 8, 2) := by decide +kernel
theorem dX6_puts_24 : decode cX6_puts 24 = .ok (.iload_n 1, 1) := by decide +kernel
theorem dX6_puts_25 : decode cX6_puts 25 = .ok (.imul, 1) := by decide +kernel
theorem dX6_puts_26 : decode cX6_puts 26 = .ok (.aload_n 0, 1) := by decide +kernel
theorem dX6_puts_27 : decode cX6_puts 27 = .ok (.getfield 67, 3) := by decide +kernel
theorem dX6_puts_30 : decode cX6_puts 30 = .ok (.iload_n 1, 1) := by decide +kernel
theorem dX6_puts_31 : decode cX6_puts 31 = .ok (.iaload, 1) := by decide +kernel
theorem dX6_puts_32 : decode cX6_puts 32 = .ok (.iadd, 1) := by decide +kernel
theorem dX6_puts_33 : decode cX6_puts 33 = .ok (.iload_n 2, 1) := by decide +kernel
theorem dX6_puts_34 : decode cX6_puts 34 = .ok (.iastore, 1) := by decide +kernel
theorem dX6_puts_35 : decode cX6_puts 35 = .ok (.aload_n 0, 1) := by decide +kernel
theorem dX6_puts_36 : decode cX6_puts 36 = .ok (.getfield 67, 3) := by decide +kernel
theorem dX6_puts_39 : decode cX6_puts 39 = .ok (.iload_n 1, 1) := by decide +kernel
theorem dX6_puts_40 : decode cX6_puts 40 = .ok (.dup2, 1) := by decide +kernel
theorem dX6_puts_41 : decode cX6_puts 41 = .ok (.iaload, 1) := by decide +kernel
theorem dX6_puts_42 : decode cX6_puts 42 = .ok (.iconst 1, 1) := by decide +kernel
theorem dX6_puts_43 : decode cX6_puts 43 = .ok (.iadd, 1) := by decide +kernel
theorem dX6_puts_44 : decode cX6_puts 44 = .ok (.iastore, 1) := by decide +kernel
theorem dX6_puts_45 : decode cX6_puts 45 = .ok (.return_, 1) := by decide +kernel
theorem dX6_takes_0 : decode cX6_takes 0 = .ok (.aload_n 0, 1) := by decide +kernel
theorem dX6_takes_1 : decode cX6_takes 1 = .ok (.getfield 67, 3) := by decide +kernel
theorem dX6_takes_4 : decode cX6_takes 4 = .ok (.iload_n 1, 1) := by decide +kernel
theorem dX6_takes_5 : decode cX6_takes 5 = .ok (.iaload, 1) := by decide +kernel
theorem dX6_takes_6 : decode cX6_takes 6 = .ok (.ifCond .ne 11, 3) := by decide +kernel
theorem dX6_takes_9 : decode cX6_takes 9 = .ok (.aload_n 0, 1) := by decide +kernel
theorem dX6_takes_10 : decode cX6_takes 10 = .ok (.iload_n 1, 1) := by decide +kernel
theorem dX6_takes_11 : decode cX6_takes 11 = .ok (.iconst 5, 1) := by decide +kernel
theorem dX6_takes_12 : decode cX6_takes 12 = .ok (.invokevirtual 129, 3) := by decide +kernel
theorem dX6_takes_15 : decode cX6_takes 15 = .ok (.iconst 0, 1) := by decide +kernel
theorem dX6_takes_16 : decode cX6_takes 16 = .ok (.ireturn, 1) := by decide +kernel
theorem dX6_takes_17 : decode cX6_takes 17 = .ok (.aload_n 0, 1) := by decide +kernel
theorem dX6_takes_18 : decode cX6_takes 18 = .ok (.getfield 67, 3) := by decide +kernel
theorem dX6_takes_21 : decode cX6_takes 21 = .ok (.iload_n 1, 1) := by decide +kernel
theorem dX6_takes_22 : decode cX6_takes 22 = .ok (.dup2, 1) := by decide +kernel
theorem dX6_takes_23 : decode cX6_takes 23 = .ok (.iaload, 1) := by decide +kernel
theorem dX6_takes_24 : decode cX6_takes 24 = .ok (.iconst 1, 1) := by decide +kernel
theorem dX6_takes_25 : decode cX6_takes 25 = .ok (.isub, 1) := by decide +kernel
theorem dX6_takes_26 : decode cX6_takes 26 = .ok (.iastore, 1) := by decide +kernel
theorem dX6_takes_27 : decode cX6_takes 27 = .ok (.aload_n 0, 1) := by decide +kernel
theorem dX6_takes_28 : decode cX6_takes 28 = .ok (.getfield 64, 3) := by decide +kernel
theorem dX6_takes_31 : decode cX6_takes 31 = .ok (.bipush 8, 2) := by decide +kernel
theorem dX6_takes_33 : decode cX6_takes 33 = .ok (.iload_n 1, 1) := by decide +kernel
theorem dX6_takes_34 : decode cX6_takes 34 = .ok (.imul, 1) := by decide +kernel
theorem dX6_takes_35 : decode cX6_takes 35 = .ok (.aload_n 0, 1) := by decide +kernel
theorem dX6_takes_36 : decode cX6_takes 36 = .ok (.getfield 67, 3) := by decide +kernel
theorem dX6_takes_39 : decode cX6_takes 39 = .ok (.iload_n 1, 1) := by decide +kernel
theorem dX6_takes_40 : decode cX6_takes 40 = .ok (.iaload, 1) := by decide +kernel
theorem dX6_takes_41 : decode cX6_takes 41 = .ok (.iadd, 1) := by decide +kernel
theorem dX6_takes_42 : decode cX6_takes 42 = .ok (.iaload, 1) := by decide +kernel
theorem dX6_takes_43 : decode cX6_takes 43 = .ok (.ireturn, 1) := by decide +kernel
theorem dX6_answerOf_0 : decode cX6_answerOf 0 = .ok (.iload_n 3, 1) := by decide +kernel
theorem dX6_answerOf_1 : decode cX6_answerOf 1 = .ok (.istore 4, 2) := by decide +kernel
theorem dX6_answerOf_3 : decode cX6_answerOf 3 = .ok (.iconst (-1), 1) := by decide +kernel
theorem dX6_answerOf_4 : decode cX6_answerOf 4 = .ok (.istore 5, 2) := by decide +kernel
theorem dX6_answerOf_6 : decode cX6_answerOf 6 = .ok (.iconst 0, 1) := by decide +kernel
theorem dX6_answerOf_7 : decode cX6_answerOf 7 = .ok (.istore 6, 2) := by decide +kernel
theorem dX6_answerOf_9 : decode cX6_answerOf 9 = .ok (.iload 6, 2) := by decide +kernel
theorem dX6_answerOf_11 : decode cX6_answerOf 11 = .ok (.aload_n 0, 1) := by decide +kernel
theorem dX6_answerOf_12 : decode cX6_answerOf 12 = .ok (.getfield 133, 3) := by decide +kernel
theorem dX6_answerOf_15 : decode cX6_answerOf 15 = .ok (.if_icmp .ge 93, 3) := by decide +kernel
theorem dX6_answerOf_18 : decode cX6_answerOf 18 = .ok (.aload_n 0, 1) := by decide +kernel
theorem dX6_answerOf_19 : decode cX6_answerOf 19 = .ok (.getfield 94, 3) := by decide +kernel
theorem dX6_answerOf_22 : decode cX6_answerOf 22 = .ok (.iload 6, 2) := by decide +kernel
theorem dX6_answerOf_24 : decode cX6_answerOf 24 = .ok (.iaload, 1) := by decide +kernel
theorem dX6_answerOf_25 : decode cX6_answerOf 25 = .ok (.iload_n 1, 1) := by decide +kernel
theorem dX6_answerOf_26 : decode cX6_answerOf 26 = .ok (.if_icmp .ne 39, 3) := by decide +kernel
theorem dX6_answerOf_29 : decode cX6_answerOf 29 = .ok (.aload_n 0, 1) := by decide +kernel
theorem dX6_answerOf_30 : decode cX6_answerOf 30 = .ok (.getfield 97, 3) := by decide +kernel
theorem dX6_answerOf_33 : decode cX6_answerOf 33 = .ok (.iload 6, 2) := by decide +kernel
theorem dX6_answerOf_35 : decode cX6_answerOf 35 = .ok (.iaload, 1) := by decide +kernel
theorem dX6_answerOf_36 : decode cX6_answerOf 36 = .ok (.iload_n 2, 1) := by decide +kernel
theorem dX6_answerOf_37 : decode cX6_answerOf 37 = .ok (.if_icmp .ne 28, 3) := by decide +kernel
theorem dX6_answerOf_40 : decode cX6_answerOf 40 = .ok (.aload_n 0, 1) := by decide +kernel
theorem dX6_answerOf_41 : decode cX6_answerOf 41 = .ok (.getfield 100, 3) := by decide +kernel
theorem dX6_answerOf_44 : decode cX6_answerOf 44 = .ok (.iload 6, 2) := by decide +kernel
theorem dX6_answerOf_46 : decode cX6_answerOf 46 = .ok (.iaload, 1) := by decide +kernel
theorem dX6_answerOf_47 : decode cX6_answerOf 47 = .ok (.aload_n 0, 1) := by decide +kernel
theorem dX6_answerOf_48 : decode cX6_answerOf 48 = .ok (.getfield 88, 3) := by decide +kernel
theorem dX6_answerOf_51 : decode cX6_answerOf 51 = .ok (.bipush 16, 2) := by decide +kernel
theorem dX6_answerOf_53 : decode cX6_answerOf 53 = .ok (.iload_n 1, 1) := by decide +kernel
theorem dX6_answerOf_54 : decode cX6_answerOf 54 = .ok (.imul, 1) := by decide +kernel
theorem dX6_answerOf_55 : decode cX6_answerOf 55 = .ok (.iload_n 2, 1) := by decide +kernel
theorem dX6_answerOf_56 : decode cX6_answerOf 56 = .ok (.iadd, 1) := by decide +kernel
theorem dX6_answerOf_57 : decode cX6_answerOf 57 = .ok (.iaload, 1) := by decide +kernel
theorem dX6_answerOf_58 : decode cX6_answerOf 58 = .ok (.if_icmp .ne 7, 3) := by decide +kernel
theorem dX6_answerOf_61 : decode cX6_answerOf 61 = .ok (.iconst 1, 1) := by decide +kernel
theorem dX6_answerOf_62 : decode cX6_answerOf 62 = .ok (.goto 4, 3) := by decide +kernel
theorem dX6_answerOf_65 : decode cX6_answerOf 65 = .ok (.iconst 0, 1) := by decide +kernel
theorem dX6_answerOf_66 : decode cX6_answerOf 66 = .ok (.istore 7, 2) := by decide +kernel
theorem dX6_answerOf_68 : decode cX6_answerOf 68 = .ok (.iload 4, 2) := by decide +kernel
theorem dX6_answerOf_70 : decode cX6_answerOf 70 = .ok (.iload 7, 2) := by decide +kernel
theorem dX6_answerOf_72 : decode cX6_answerOf 72 = .ok (.ifCond .eq 7, 3) := by decide +kernel
theorem dX6_answerOf_75 : decode cX6_answerOf 75 = .ok (.iconst 1, 1) := by decide +kernel
theorem dX6_answerOf_76 : decode cX6_answerOf 76 = .ok (.goto 4, 3) := by decide +kernel
theorem dX6_answerOf_79 : decode cX6_answerOf 79 = .ok (.iconst 0, 1) := by decide +kernel
theorem dX6_answerOf_80 : decode cX6_answerOf 80 = .ok (.isub, 1) := by decide +kernel
theorem dX6_answerOf_81 : decode cX6_answerOf 81 = .ok (.istore 4, 2) := by decide +kernel
theorem dX6_answerOf_83 : decode cX6_answerOf 83 = .ok (.iload 7, 2) := by decide +kernel
theorem dX6_answerOf_85 : decode cX6_answerOf 85 = .ok (.ifCond .eq 13, 3) := by decide +kernel
theorem dX6_answerOf_88 : decode cX6_answerOf 88 = .ok (.iload 4, 2) := by decide +kernel
theorem dX6_answerOf_90 : decode cX6_answerOf 90 = .ok (.ifCond .ne 8, 3) := by decide +kernel
theorem dX6_answerOf_93 : decode cX6_answerOf 93 = .ok (.iload 6, 2) := by decide +kernel
theorem dX6_answerOf_95 : decode cX6_answerOf 95 = .ok (.goto 5, 3) := by decide +kernel
theorem dX6_answerOf_98 : decode cX6_answerOf 98 = .ok (.iload 5, 2) := by decide +kernel
theorem dX6_answerOf_100 : decode cX6_answerOf 100 = .ok (.istore 5, 2) := by decide +kernel
theorem dX6_answerOf_102 : decode cX6_answerOf 102 = .ok (.iinc 6 1, 3) := by decide +kernel
theorem dX6_answerOf_105 : decode cX6_answerOf 105 = .ok (.goto (-96), 3) := by decide +kernel
theorem dX6_answerOf_108 : decode cX6_answerOf 108 = .ok (.iload 5, 2) := by decide +kernel
theorem dX6_answerOf_110 : decode cX6_answerOf 110 = .ok (.ireturn, 1) := by decide +kernel
theorem dX6_asks_0 : decode cX6_asks 0 = .ok (.aload_n 0, 1) := by decide +kernel
theorem dX6_asks_1 : decode cX6_asks 1 = .ok (.getfield 91, 3) := by decide +kernel
theorem dX6_asks_4 : decode cX6_asks 4 = .ok (.bipush 16, 2) := by decide +kernel
theorem dX6_asks_6 : decode cX6_asks 6 = .ok (.iload_n 1, 1) := by decide +kernel
theorem dX6_asks_7 : decode cX6_asks 7 = .ok (.imul, 1) := by decide +kernel
theorem dX6_asks_8 : decode cX6_asks 8 = .ok (.iload_n 2, 1) := by decide +kernel
theorem dX6_asks_9 : decode cX6_asks 9 = .ok (.iadd, 1) := by decide +kernel
theorem dX6_asks_10 : decode cX6_asks 10 = .ok (.dup2, 1) := by decide +kernel
theorem dX6_asks_11 : decode cX6_asks 11 = .ok (.iaload, 1) := by decide +kernel
theorem dX6_asks_12 : decode cX6_asks 12 = .ok (.iconst 1, 1) := by decide +kernel
theorem dX6_asks_13 : decode cX6_asks 13 = .ok (.iadd, 1) := by decide +kernel
theorem dX6_asks_14 : decode cX6_asks 14 = .ok (.iastore, 1) := by decide +kernel
theorem dX6_asks_15 : decode cX6_asks 15 = .ok (.aload_n 0, 1) := by decide +kernel
theorem dX6_asks_16 : decode cX6_asks 16 = .ok (.iload_n 1, 1) := by decide +kernel
theorem dX6_asks_17 : decode cX6_asks 17 = .ok (.iload_n 2, 1) := by decide +kernel
theorem dX6_asks_18 : decode cX6_asks 18 = .ok (.aload_n 0, 1) := by decide +kernel
theorem dX6_asks_19 : decode cX6_asks 19 = .ok (.getfield 91, 3) := by decide +kernel
theorem dX6_asks_22 : decode cX6_asks 22 = .ok (.bipush 16, 2) := by decide +kernel
theorem dX6_asks_24 : decode cX6_asks 24 = .ok (.iload_n 1, 1) := by decide +kernel
theorem dX6_asks_25 : decode cX6_asks 25 = .ok (.imul, 1) := by decide +kernel
theorem dX6_asks_26 : decode cX6_asks 26 = .ok (.iload_n 2, 1) := by decide +kernel
theorem dX6_asks_27 : decode cX6_asks 27 = .ok (.iadd, 1) := by decide +kernel
theorem dX6_asks_28 : decode cX6_asks 28 = .ok (.iaload, 1) := by decide +kernel
theorem dX6_asks_29 : decode cX6_asks 29 = .ok (.invokevirtual 136, 3) := by decide +kernel
theorem dX6_asks_32 : decode cX6_asks 32 = .ok (.istore_n 3, 1) := by decide +kernel
theorem dX6_asks_33 : decode cX6_asks 33 = .ok (.iload_n 3, 1) := by decide +kernel
theorem dX6_asks_34 : decode cX6_asks 34 = .ok (.ifCond .lt 17, 3) := by decide +kernel
theorem dX6_asks_37 : decode cX6_asks 37 = .ok (.aload_n 0, 1) := by decide +kernel
theorem dX6_asks_38 : decode cX6_asks 38 = .ok (.iload_n 1, 1) := by decide +kernel
theorem dX6_asks_39 : decode cX6_asks 39 = .ok (.aload_n 0, 1) := by decide +kernel
theorem dX6_asks_40 : decode cX6_asks 40 = .ok (.getfield 103, 3) := by decide +kernel
theorem dX6_asks_43 : decode cX6_asks 43 = .ok (.iload_n 3, 1) := by decide +kernel
theorem dX6_asks_44 : decode cX6_asks 44 = .ok (.iaload, 1) := by decide +kernel
theorem dX6_asks_45 : decode cX6_asks 45 = .ok (.invokevirtual 140, 3) := by decide +kernel
theorem dX6_asks_48 : decode cX6_asks 48 = .ok (.goto 17, 3) := by decide +kernel
theorem dX6_asks_51 : decode cX6_asks 51 = .ok (.aload_n 0, 1) := by decide +kernel
theorem dX6_asks_52 : decode cX6_asks 52 = .ok (.getfield 79, 3) := by decide +kernel
theorem dX6_asks_55 : decode cX6_asks 55 = .ok (.iload_n 1, 1) := by decide +kernel
theorem dX6_asks_56 : decode cX6_asks 56 = .ok (.iconst 0, 1) := by decide +kernel
theorem dX6_asks_57 : decode cX6_asks 57 = .ok (.iastore, 1) := by decide +kernel
theorem dX6_asks_58 : decode cX6_asks 58 = .ok (.aload_n 0, 1) := by decide +kernel
theorem dX6_asks_59 : decode cX6_asks 59 = .ok (.getfield 82, 3) := by decide +kernel
theorem dX6_asks_62 : decode cX6_asks 62 = .ok (.iload_n 1, 1) := by decide +kernel
theorem dX6_asks_63 : decode cX6_asks 63 = .ok (.iload_n 2, 1) := by decide +kernel
theorem dX6_asks_64 : decode cX6_asks 64 = .ok (.iastore, 1) := by decide +kernel
theorem dX6_asks_65 : decode cX6_asks 65 = .ok (.return_, 1) := by decide +kernel
theorem dX6_reckons_0 : decode cX6_reckons 0 = .ok (.aload_n 0, 1) := by decide +kernel
theorem dX6_reckons_1 : decode cX6_reckons 1 = .ok (.iload_n 1, 1) := by decide +kernel
theorem dX6_reckons_2 : decode cX6_reckons 2 = .ok (.invokevirtual 143, 3) := by decide +kernel
theorem dX6_reckons_5 : decode cX6_reckons 5 = .ok (.istore_n 3, 1) := by decide +kernel
theorem dX6_reckons_6 : decode cX6_reckons 6 = .ok (.aload_n 0, 1) := by decide +kernel
theorem dX6_reckons_7 : decode cX6_reckons 7 = .ok (.getfield 79, 3) := by decide +kernel
theorem dX6_reckons_10 : decode cX6_reckons 10 = .ok (.iload_n 1, 1) := by decide +kernel
theorem dX6_reckons_11 : decode cX6_reckons 11 = .ok (.iaload, 1) := by decide +kernel
theorem dX6_reckons_12 : decode cX6_reckons 12 = .ok (.bipush 7, 2) := by decide +kernel
theorem dX6_reckons_14 : decode cX6_reckons 14 = .ok (.if_icmp .ne 11, 3) := by decide +kernel
theorem dX6_reckons_17 : decode cX6_reckons 17 = .ok (.aload_n 0, 1) := by decide +kernel
theorem dX6_reckons_18 : decode cX6_reckons 18 = .ok (.iload_n 1, 1) := by decide +kernel
theorem dX6_reckons_19 : decode cX6_reckons 19 = .ok (.invokevirtual 143, 3) := by decide +kernel
theorem dX6_reckons_22 : decode cX6_reckons 22 = .ok (.goto 4, 3) := by decide +kernel
theorem dX6_reckons_25 : decode cX6_reckons 25 = .ok (.iconst 0, 1) := by decide +kernel
theorem dX6_reckons_26 : decode cX6_reckons 26 = .ok (.istore 4, 2) := by decide +kernel
theorem dX6_reckons_28 : decode cX6_reckons 28 = .ok (.aload_n 0, 1) := by decide +kernel
theorem dX6_reckons_29 : decode cX6_reckons 29 = .ok (.getfield 79, 3) := by decide +kernel
theorem dX6_reckons_32 : decode cX6_reckons 32 = .ok (.iload_n 1, 1) := by decide +kernel
theorem dX6_reckons_33 : decode cX6_reckons 33 = .ok (.iaload, 1) := by decide +kernel
theorem dX6_reckons_34 : decode cX6_reckons 34 = .ok (.bipush 7, 2) := by decide +kernel
theorem dX6_reckons_36 : decode cX6_reckons 36 = .ok (.if_icmp .ne 69, 3) := by decide +kernel
theorem dX6_reckons_39 : decode cX6_reckons 39 = .ok (.aload_n 0, 1) := by decide +kernel
theorem dX6_reckons_40 : decode cX6_reckons 40 = .ok (.iload_n 1, 1) := by decide +kernel
theorem dX6_reckons_41 : decode cX6_reckons 41 = .ok (.iload_n 2, 1) := by decide +kernel
theorem dX6_reckons_42 : decode cX6_reckons 42 = .ok (.iconst 4, 1) := by decide +kernel
theorem dX6_reckons_43 : decode cX6_reckons 43 = .ok (.if_icmp .ne 13, 3) := by decide +kernel
theorem dX6_reckons_46 : decode cX6_reckons 46 = .ok (.iload 4, 2) := by decide +kernel
theorem dX6_reckons_48 : decode cX6_reckons 48 = .ok (.iload_n 3, 1) := by decide +kernel
theorem dX6_reckons_49 : decode cX6_reckons 49 = .ok (.iadd, 1) := by decide +kernel
theorem dX6_reckons_50 : decode cX6_reckons 50 = .ok (.invokestatic 147, 3) := by decide +kernel
theorem dX6_reckons_53 : decode cX6_reckons 53 = .ok (.goto 49, 3) := by decide +kernel
theorem dX6_reckons_56 : decode cX6_reckons 56 = .ok (.iload_n 2, 1) := by decide +kernel
theorem dX6_reckons_57 : decode cX6_reckons 57 = .ok (.iconst 5, 1) := by decide +kernel
theorem dX6_reckons_58 : decode cX6_reckons 58 = .ok (.if_icmp .ne 13, 3) := by decide +kernel
theorem dX6_reckons_61 : decode cX6_reckons 61 = .ok (.iload 4, 2) := by decide +kernel
theorem dX6_reckons_63 : decode cX6_reckons 63 = .ok (.iload_n 3, 1) := by decide +kernel
theorem dX6_reckons_64 : decode cX6_reckons 64 = .ok (.isub, 1) := by decide +kernel
theorem dX6_reckons_65 : decode cX6_reckons 65 = .ok (.invokestatic 147, 3) := by decide +kernel
theorem dX6_reckons_68 : decode cX6_reckons 68 = .ok (.goto 34, 3) := by decide +kernel
theorem dX6_reckons_71 : decode cX6_reckons 71 = .ok (.iload_n 2, 1) := by decide +kernel
theorem dX6_reckons_72 : decode cX6_reckons 72 = .ok (.bipush 6, 2) := by decide +kernel
theorem dX6_reckons_74 : decode cX6_reckons 74 = .ok (.if_icmp .ne 17, 3) := by decide +kernel
theorem dX6_reckons_77 : decode cX6_reckons 77 = .ok (.iload 4, 2) := by decide +kernel
theorem dX6_reckons_79 : decode cX6_reckons 79 = .ok (.iload_n 3, 1) := by decide +kernel
theorem dX6_reckons_80 : decode cX6_reckons 80 = .ok (.if_icmp .ge 7, 3) := by decide +kernel
theorem dX6_reckons_83 : decode cX6_reckons 83 = .ok (.iconst 1, 1) := by decide +kernel
theorem dX6_reckons_84 : decode cX6_reckons 84 = .ok (.goto 18, 3) := by decide +kernel
theorem dX6_reckons_87 : decode cX6_reckons 87 = .ok (.iconst 0, 1) := by decide +kernel
theorem dX6_reckons_88 : decode cX6_reckons 88 = .ok (.goto 14, 3) := by decide +kernel
theorem dX6_reckons_91 : decode cX6_reckons 91 = .ok (.iload 4, 2) := by decide +kernel
theorem dX6_reckons_93 : decode cX6_reckons 93 = .ok (.iload_n 3, 1) := by decide +kernel
theorem dX6_reckons_94 : decode cX6_reckons 94 = .ok (.if_icmp .ne 7, 3) := by decide +kernel
theorem dX6_reckons_97 : decode cX6_reckons 97 = .ok (.iconst 1, 1) := by decide +kernel
theorem dX6_reckons_98 : decode cX6_reckons 98 = .ok (.goto 4, 3) := by decide +kernel
theorem dX6_reckons_101 : decode cX6_reckons 101 = .ok (.iconst 0, 1) := by decide +kernel
theorem dX6_reckons_102 : decode cX6_reckons 102 = .ok (.invokevirtual 140, 3) := by decide +kernel
theorem dX6_reckons_105 : decode cX6_reckons 105 = .ok (.return_, 1) := by decide +kernel
theorem dX6_panelOf_0 : decode cX6_panelOf 0 = .ok (.iconst 4, 1) := by decide +kernel
theorem dX6_panelOf_1 : decode cX6_panelOf 1 = .ok (.aload_n 0, 1) := by decide +kernel
theorem dX6_panelOf_2 : decode cX6_panelOf 2 = .ok (.getfield 55, 3) := by decide +kernel
theorem dX6_panelOf_5 : decode cX6_panelOf 5 = .ok (.iload_n 1, 1) := by decide +kernel
theorem dX6_panelOf_6 : decode cX6_panelOf 6 = .ok (.iaload, 1) := by decide +kernel
theorem dX6_panelOf_7 : decode cX6_panelOf 7 = .ok (.imul, 1) := by decide +kernel
theorem dX6_panelOf_8 : decode cX6_panelOf 8 = .ok (.aload_n 0, 1) := by decide +kernel
theorem dX6_panelOf_9 : decode cX6_panelOf 9 = .ok (.getfield 52, 3) := by decide +kernel
theorem dX6_panelOf_12 : decode cX6_panelOf 12 = .ok (.iload_n 1, 1) := by decide +kernel
theorem dX6_panelOf_13 : decode cX6_panelOf 13 = .ok (.iaload, 1) := by decide +kernel
theorem dX6_panelOf_14 : decode cX6_panelOf 14 = .ok (.iconst 4, 1) := by decide +kernel
theorem dX6_panelOf_15 : decode cX6_panelOf 15 = .ok (.irem, 1) := by decide +kernel
theorem dX6_panelOf_16 : decode cX6_panelOf 16 = .ok (.iadd, 1) := by decide +kernel
theorem dX6_panelOf_17 : decode cX6_panelOf 17 = .ok (.ireturn, 1) := by decide +kernel
theorem dX6_finishes_0 : decode cX6_finishes 0 = .ok (.aload_n 0, 1) := by decide +kernel
theorem dX6_finishes_1 : decode cX6_finishes 1 = .ok (.iload_n 1, 1) := by decide +kernel
theorem dX6_finishes_2 : decode cX6_finishes 2 = .ok (.invokevirtual 150, 3) := by decide +kernel
theorem dX6_finishes_5 : decode cX6_finishes 5 = .ok (.istore_n 3, 1) := by decide +kernel
theorem dX6_finishes_6 : decode cX6_finishes 6 = .ok (.aload_n 0, 1) := by decide +kernel
theorem dX6_finishes_7 : decode cX6_finishes 7 = .ok (.getfield 40, 3) := by decide +kernel
theorem dX6_finishes_10 : decode cX6_finishes 10 = .ok (.iload_n 3, 1) := by decide +kernel
theorem dX6_finishes_11 : decode cX6_finishes 11 = .ok (.iaload, 1) := by decide +kernel
theorem dX6_finishes_12 : decode cX6_finishes 12 = .ok (.aload_n 0, 1) := by decide +kernel
theorem dX6_finishes_13 : decode cX6_finishes 13 = .ok (.getfield 37, 3) := by decide +kernel
theorem dX6_finishes_16 : decode cX6_finishes 16 = .ok (.iload_n 3, 1) := by decide +kernel
theorem dX6_finishes_17 : decode cX6_finishes 17 = .ok (.iaload, 1) := by decide +kernel
theorem dX6_finishes_18 : decode cX6_finishes 18 = .ok (.if_icmp .lt 12, 3) := by decide +kernel
theorem dX6_finishes_21 : decode cX6_finishes 21 = .ok (.aload_n 0, 1) := by decide +kernel
theorem dX6_finishes_22 : decode cX6_finishes 22 = .ok (.iload_n 1, 1) := by decide +kernel
theorem dX6_finishes_23 : decode cX6_finishes 23 = .ok (.iconst 3, 1) := by decide +kernel
theorem dX6_finishes_24 : decode cX6_finishes 24 = .ok (.invokevirtual 129, 3) := by decide +kernel
theorem dX6_finishes_27 : decode cX6_finishes 27 = .ok (.goto 97, 3) := by decide +kernel
theorem dX6_finishes_30 : decode cX6_finishes 30 = .ok (.iload_n 2, 1) := by decide +kernel
theorem dX6_finishes_31 : decode cX6_finishes 31 = .ok (.ifCond .eq 93, 3) := by decide +kernel
theorem dX6_finishes_34 : decode cX6_finishes 34 = .ok (.aload_n 0, 1) := by decide +kernel
theorem dX6_finishes_35 : decode cX6_finishes 35 = .ok (.getfield 40, 3) := by decide +kernel
theorem dX6_finishes_38 : decode cX6_finishes 38 = .ok (.iload_n 3, 1) := by decide +kernel
theorem dX6_finishes_39 : decode cX6_finishes 39 = .ok (.dup2, 1) := by decide +kernel
theorem dX6_finishes_40 : decode cX6_finishes 40 = .ok (.iaload, 1) := by decide +kernel
theorem dX6_finishes_41 : decode cX6_finishes 41 = .ok (.iconst 1, 1) := by decide +kernel
theorem dX6_finishes_42 : decode cX6_finishes 42 = .ok (.iadd, 1) := by decide +kernel
theorem dX6_finishes_43 : decode cX6_finishes 43 = .ok (.iastore, 1) := by decide +kernel
theorem dX6_finishes_44 : decode cX6_finishes 44 = .ok (.aload_n 0, 1) := by decide +kernel
theorem dX6_finishes_45 : decode cX6_finishes 45 = .ok (.getfield 73, 3) := by decide +kernel
theorem dX6_finishes_48 : decode cX6_finishes 48 = .ok (.iload_n 1, 1) := by decide +kernel
theorem dX6_finishes_49 : decode cX6_finishes 49 = .ok (.iaload, 1) := by decide +kernel
theorem dX6_finishes_50 : decode cX6_finishes 50 = .ok (.aload_n 0, 1) := by decide +kernel
theorem dX6_finishes_51 : decode cX6_finishes 51 = .ok (.getfield 34, 3) := by decide +kernel
theorem dX6_finishes_54 : decode cX6_finishes 54 = .ok (.aload_n 0, 1) := by decide +kernel
theorem dX6_finishes_55 : decode cX6_finishes 55 = .ok (.getfield 55, 3) := by decide +kernel
theorem dX6_finishes_58 : decode cX6_finishes 58 = .ok (.iload_n 1, 1) := by decide +kernel
theorem dX6_finishes_59 : decode cX6_finishes 59 = .ok (.iaload, 1) := by decide +kernel
theorem dX6_finishes_60 : decode cX6_finishes 60 = .ok (.iaload, 1) := by decide +kernel
theorem dX6_finishes_61 : decode cX6_finishes 61 = .ok (.if_icmp .ge 12, 3) := by decide +kernel
theorem dX6_finishes_64 : decode cX6_finishes 64 = .ok (.aload_n 0, 1) := by decide +kernel
theorem dX6_finishes_65 : decode cX6_finishes 65 = .ok (.getfield 73, 3) := by decide +kernel
theorem dX6_finishes_68 : decode cX6_finishes 68 = .ok (.iload_n 1, 1) := by decide +kernel
theorem dX6_finishes_69 : decode cX6_finishes 69 = .ok (.iaload, 1) := by decide +kernel
theorem dX6_finishes_70 : decode cX6_finishes 70 = .ok (.goto 14, 3) := by decide +kernel
theorem dX6_finishes_73 : decode cX6_finishes 73 = .ok (.aload_n 0, 1) := by decide +kernel
theorem dX6_finishes_74 : decode cX6_finishes 74 = .ok (.getfield 34, 3) := by decide +kernel
theorem dX6_finishes_77 : decode cX6_finishes 77 = .ok (.aload_n 0, 1) := by decide +kernel
theorem dX6_finishes_78 : decode cX6_finishes 78 = .ok (.getfield 55, 3) := by decide +kernel
theorem dX6_finishes_81 : decode cX6_finishes 81 = .ok (.iload_n 1, 1) := by decide +kernel
theorem dX6_finishes_82 : decode cX6_finishes 82 = .ok (.iaload, 1) := by decide +kernel
theorem dX6_finishes_83 : decode cX6_finishes 83 = .ok (.iaload, 1) := by decide +kernel
theorem dX6_finishes_84 : decode cX6_finishes 84 = .ok (.istore 4, 2) := by decide +kernel
theorem dX6_finishes_86 : decode cX6_finishes 86 = .ok (.aload_n 0, 1) := by decide +kernel
theorem dX6_finishes_87 : decode cX6_finishes 87 = .ok (.getfield 34, 3) := by decide +kernel
theorem dX6_finishes_90 : decode cX6_finishes 90 = .ok (.aload_n 0, 1) := by decide +kernel
theorem dX6_finishes_91 : decode cX6_finishes 91 = .ok (.getfield 55, 3) := by decide +kernel
theorem dX6_finishes_94 : decode cX6_finishes 94 = .ok (.iload_n 1, 1) := by decide +kernel
theorem dX6_finishes_95 : decode cX6_finishes 95 = .ok (.iaload, 1) := by decide +kernel
theorem dX6_finishes_96 : decode cX6_finishes 96 = .ok (.dup2, 1) := by decide +kernel
theorem dX6_finishes_97 : decode cX6_finishes 97 = .ok (.iaload, 1) := by decide +kernel
theorem dX6_finishes_98 : decode cX6_finishes 98 = .ok (.iload 4, 2) := by decide +kernel
theorem dX6_finishes_100 : decode cX6_finishes 100 = .ok (.isub, 1) := by decide +kernel
theorem dX6_finishes_101 : decode cX6_finishes 101 = .ok (.iastore, 1) := by decide +kernel
theorem dX6_finishes_102 : decode cX6_finishes 102 = .ok (.aload_n 0, 1) := by decide +kernel
theorem dX6_finishes_103 : decode cX6_finishes 103 = .ok (.getfield 49, 3) := by decide +kernel
theorem dX6_finishes_106 : decode cX6_finishes 106 = .ok (.aload_n 0, 1) := by decide +kernel
theorem dX6_finishes_107 : decode cX6_finishes 107 = .ok (.getfield 52, 3) := by decide +kernel
theorem dX6_finishes_110 : decode cX6_finishes 110 = .ok (.iload_n 1, 1) := by decide +kernel
theorem dX6_finishes_111 : decode cX6_finishes 111 = .ok (.iaload, 1) := by decide +kernel
theorem dX6_finishes_112 : decode cX6_finishes 112 = .ok (.dup2, 1) := by decide +kernel
theorem dX6_finishes_113 : decode cX6_finishes 113 = .ok (.iaload, 1) := by decide +kernel
theorem dX6_finishes_114 : decode cX6_finishes 114 = .ok (.iload 4, 2) := by decide +kernel
theorem dX6_finishes_116 : decode cX6_finishes 116 = .ok (.iadd, 1) := by decide +kernel
theorem dX6_finishes_117 : decode cX6_finishes 117 = .ok (.iastore, 1) := by decide +kernel
theorem dX6_finishes_118 : decode cX6_finishes 118 = .ok (.aload_n 0, 1) := by decide +kernel
theorem dX6_finishes_119 : decode cX6_finishes 119 = .ok (.iload_n 1, 1) := by decide +kernel
theorem dX6_finishes_120 : decode cX6_finishes 120 = .ok (.iconst 2, 1) := by decide +kernel
theorem dX6_finishes_121 : decode cX6_finishes 121 = .ok (.invokevirtual 129, 3) := by decide +kernel
theorem dX6_finishes_124 : decode cX6_finishes 124 = .ok (.return_, 1) := by decide +kernel
theorem dX6_moves_0 : decode cX6_moves 0 = .ok (.iload_n 2, 1) := by decide +kernel
theorem dX6_moves_1 : decode cX6_moves 1 = .ok (.iconst 3, 1) := by decide +kernel
theorem dX6_moves_2 : decode cX6_moves 2 = .ok (.if_icmp .ne 51, 3) := by decide +kernel
theorem dX6_moves_5 : decode cX6_moves 5 = .ok (.aload_n 0, 1) := by decide +kernel
theorem dX6_moves_6 : decode cX6_moves 6 = .ok (.iload_n 1, 1) := by decide +kernel
theorem dX6_moves_7 : decode cX6_moves 7 = .ok (.invokevirtual 143, 3) := by decide +kernel
theorem dX6_moves_10 : decode cX6_moves 10 = .ok (.istore 4, 2) := by decide +kernel
theorem dX6_moves_12 : decode cX6_moves 12 = .ok (.aload_n 0, 1) := by decide +kernel
theorem dX6_moves_13 : decode cX6_moves 13 = .ok (.getfield 70, 3) := by decide +kernel
theorem dX6_moves_16 : decode cX6_moves 16 = .ok (.bipush 8, 2) := by decide +kernel
theorem dX6_moves_18 : decode cX6_moves 18 = .ok (.iload_n 1, 1) := by decide +kernel
theorem dX6_moves_19 : decode cX6_moves 19 = .ok (.imul, 1) := by decide +kernel
theorem dX6_moves_20 : decode cX6_moves 20 = .ok (.iload_n 3, 1) := by decide +kernel
theorem dX6_moves_21 : decode cX6_moves 21 = .ok (.iadd, 1) := by decide +kernel
theorem dX6_moves_22 : decode cX6_moves 22 = .ok (.aload_n 0, 1) := by decide +kernel
theorem dX6_moves_23 : decode cX6_moves 23 = .ok (.getfield 79, 3) := by decide +kernel
theorem dX6_moves_26 : decode cX6_moves 26 = .ok (.iload_n 1, 1) := by decide +kernel
theorem dX6_moves_27 : decode cX6_moves 27 = .ok (.iaload, 1) := by decide +kernel
theorem dX6_moves_28 : decode cX6_moves 28 = .ok (.bipush 7, 2) := by decide +kernel
theorem dX6_moves_30 : decode cX6_moves 30 = .ok (.if_icmp .ne 8, 3) := by decide +kernel
theorem dX6_moves_33 : decode cX6_moves 33 = .ok (.iload 4, 2) := by decide +kernel
theorem dX6_moves_35 : decode cX6_moves 35 = .ok (.goto 14, 3) := by decide +kernel
theorem dX6_moves_38 : decode cX6_moves 38 = .ok (.aload_n 0, 1) := by decide +kernel
theorem dX6_moves_39 : decode cX6_moves 39 = .ok (.getfield 70, 3) := by decide +kernel
theorem dX6_moves_42 : decode cX6_moves 42 = .ok (.bipush 8, 2) := by decide +kernel
theorem dX6_moves_44 : decode cX6_moves 44 = .ok (.iload_n 1, 1) := by decide +kernel
theorem dX6_moves_45 : decode cX6_moves 45 = .ok (.imul, 1) := by decide +kernel
theorem dX6_moves_46 : decode cX6_moves 46 = .ok (.iload_n 3, 1) := by decide +kernel
theorem dX6_moves_47 : decode cX6_moves 47 = .ok (.iadd, 1) := by decide +kernel
theorem dX6_moves_48 : decode cX6_moves 48 = .ok (.iaload, 1) := by decide +kernel
theorem dX6_moves_49 : decode cX6_moves 49 = .ok (.iastore, 1) := by decide +kernel
theorem dX6_moves_50 : decode cX6_moves 50 = .ok (.goto 83, 3) := by decide +kernel
theorem dX6_moves_53 : decode cX6_moves 53 = .ok (.iload_n 2, 1) := by decide +kernel
theorem dX6_moves_54 : decode cX6_moves 54 = .ok (.bipush 9, 2) := by decide +kernel
theorem dX6_moves_56 : decode cX6_moves 56 = .ok (.if_icmp .ne 45, 3) := by decide +kernel
theorem dX6_moves_59 : decode cX6_moves 59 = .ok (.aload_n 0, 1) := by decide +kernel
theorem dX6_moves_60 : decode cX6_moves 60 = .ok (.iload_n 1, 1) := by decide +kernel
theorem dX6_moves_61 : decode cX6_moves 61 = .ok (.invokevirtual 143, 3) := by decide +kernel
theorem dX6_moves_64 : decode cX6_moves 64 = .ok (.istore 4, 2) := by decide +kernel
theorem dX6_moves_66 : decode cX6_moves 66 = .ok (.aload_n 0, 1) := by decide +kernel
theorem dX6_moves_67 : decode cX6_moves 67 = .ok (.getfield 61, 3) := by decide +kernel
theorem dX6_moves_70 : decode cX6_moves 70 = .ok (.iload_n 1, 1) := by decide +kernel
theorem dX6_moves_71 : decode cX6_moves 71 = .ok (.aload_n 0, 1) := by decide +kernel
theorem dX6_moves_72 : decode cX6_moves 72 = .ok (.getfield 79, 3) := by decide +kernel
theorem dX6_moves_75 : decode cX6_moves 75 = .ok (.iload_n 1, 1) := by decide +kernel
theorem dX6_moves_76 : decode cX6_moves 76 = .ok (.iaload, 1) := by decide +kernel
theorem dX6_moves_77 : decode cX6_moves 77 = .ok (.bipush 7, 2) := by decide +kernel
theorem dX6_moves_79 : decode cX6_moves 79 = .ok (.if_icmp .ne 12, 3) := by decide +kernel
theorem dX6_moves_82 : decode cX6_moves 82 = .ok (.iload 4, 2) := by decide +kernel
theorem dX6_moves_84 : decode cX6_moves 84 = .ok (.ifCond .ne 7, 3) := by decide +kernel
theorem dX6_moves_87 : decode cX6_moves 87 = .ok (.iload_n 3, 1) := by decide +kernel
theorem dX6_moves_88 : decode cX6_moves 88 = .ok (.goto 9, 3) := by decide +kernel
theorem dX6_moves_91 : decode cX6_moves 91 = .ok (.aload_n 0, 1) := by decide +kernel
theorem dX6_moves_92 : decode cX6_moves 92 = .ok (.getfield 61, 3) := by decide +kernel
theorem dX6_moves_95 : decode cX6_moves 95 = .ok (.iload_n 1, 1) := by decide +kernel
theorem dX6_moves_96 : decode cX6_moves 96 = .ok (.iaload, 1) := by decide +kernel
theorem dX6_moves_97 : decode cX6_moves 97 = .ok (.iastore, 1) := by decide +kernel
theorem dX6_moves_98 : decode cX6_moves 98 = .ok (.goto 35, 3) := by decide +kernel
theorem dX6_moves_101 : decode cX6_moves 101 = .ok (.iload_n 2, 1) := by decide +kernel
theorem dX6_moves_102 : decode cX6_moves 102 = .ok (.bipush 8, 2) := by decide +kernel
theorem dX6_moves_104 : decode cX6_moves 104 = .ok (.if_icmp .ne 13, 3) := by decide +kernel
theorem dX6_moves_107 : decode cX6_moves 107 = .ok (.aload_n 0, 1) := by decide +kernel
theorem dX6_moves_108 : decode cX6_moves 108 = .ok (.getfield 61, 3) := by decide +kernel
theorem dX6_moves_111 : decode cX6_moves 111 = .ok (.iload_n 1, 1) := by decide +kernel
theorem dX6_moves_112 : decode cX6_moves 112 = .ok (.iload_n 3, 1) := by decide +kernel
theorem dX6_moves_113 : decode cX6_moves 113 = .ok (.iastore, 1) := by decide +kernel
theorem dX6_moves_114 : decode cX6_moves 114 = .ok (.goto 19, 3) := by decide +kernel
theorem dX6_moves_117 : decode cX6_moves 117 = .ok (.iload_n 2, 1) := by decide +kernel
theorem dX6_moves_118 : decode cX6_moves 118 = .ok (.bipush 10, 2) := by decide +kernel
theorem dX6_moves_120 : decode cX6_moves 120 = .ok (.if_icmp .ne 13, 3) := by decide +kernel
theorem dX6_moves_123 : decode cX6_moves 123 = .ok (.aload_n 0, 1) := by decide +kernel
theorem dX6_moves_124 : decode cX6_moves 124 = .ok (.getfield 73, 3) := by decide +kernel
theorem dX6_moves_127 : decode cX6_moves 127 = .ok (.iload_n 1, 1) := by decide +kernel
theorem dX6_moves_128 : decode cX6_moves 128 = .ok (.dup2, 1) := by decide +kernel
theorem dX6_moves_129 : decode cX6_moves 129 = .ok (.iaload, 1) := by decide +kernel
theorem dX6_moves_130 : decode cX6_moves 130 = .ok (.iload_n 3, 1) := by decide +kernel
theorem dX6_moves_131 : decode cX6_moves 131 = .ok (.iadd, 1) := by decide +kernel
theorem dX6_moves_132 : decode cX6_moves 132 = .ok (.iastore, 1) := by decide +kernel
theorem dX6_moves_133 : decode cX6_moves 133 = .ok (.return_, 1) := by decide +kernel
theorem dX6_does_0 : decode cX6_does 0 = .ok (.iload_n 2, 1) := by decide +kernel
theorem dX6_does_1 : decode cX6_does 1 = .ok (.ifCond .ne 12, 3) := by decide +kernel
theorem dX6_does_4 : decode cX6_does 4 = .ok (.aload_n 0, 1) := by decide +kernel
theorem dX6_does_5 : decode cX6_does 5 = .ok (.iload_n 1, 1) := by decide +kernel
theorem dX6_does_6 : decode cX6_does 6 = .ok (.iload_n 3, 1) := by decide +kernel
theorem dX6_does_7 : decode cX6_does 7 = .ok (.invokevirtual 153, 3) := by decide +kernel
theorem dX6_does_10 : decode cX6_does 10 = .ok (.goto 99, 3) := by decide +kernel
theorem dX6_does_13 : decode cX6_does 13 = .ok (.iload_n 2, 1) := by decide +kernel
theorem dX6_does_14 : decode cX6_does 14 = .ok (.iconst 1, 1) := by decide +kernel
theorem dX6_does_15 : decode cX6_does 15 = .ok (.if_icmp .eq 8, 3) := by decide +kernel
theorem dX6_does_18 : decode cX6_does 18 = .ok (.iload_n 2, 1) := by decide +kernel
theorem dX6_does_19 : decode cX6_does 19 = .ok (.iconst 2, 1) := by decide +kernel
theorem dX6_does_20 : decode cX6_does 20 = .ok (.if_icmp .ne 31, 3) := by decide +kernel
theorem dX6_does_23 : decode cX6_does 23 = .ok (.aload_n 0, 1) := by decide +kernel
theorem dX6_does_24 : decode cX6_does 24 = .ok (.iload_n 1, 1) := by decide +kernel
theorem dX6_does_25 : decode cX6_does 25 = .ok (.iload_n 2, 1) := by decide +kernel
theorem dX6_does_26 : decode cX6_does 26 = .ok (.iconst 1, 1) := by decide +kernel
theorem dX6_does_27 : decode cX6_does 27 = .ok (.if_icmp .ne 7, 3) := by decide +kernel
theorem dX6_does_30 : decode cX6_does 30 = .ok (.iload_n 3, 1) := by decide +kernel
theorem dX6_does_31 : decode cX6_does 31 = .ok (.goto 14, 3) := by decide +kernel
theorem dX6_does_34 : decode cX6_does 34 = .ok (.aload_n 0, 1) := by decide +kernel
theorem dX6_does_35 : decode cX6_does 35 = .ok (.getfield 70, 3) := by decide +kernel
theorem dX6_does_38 : decode cX6_does 38 = .ok (.bipush 8, 2) := by decide +kernel
theorem dX6_does_40 : decode cX6_does 40 = .ok (.iload_n 1, 1) := by decide +kernel
theorem dX6_does_41 : decode cX6_does 41 = .ok (.imul, 1) := by decide +kernel
theorem dX6_does_42 : decode cX6_does 42 = .ok (.iload_n 3, 1) := by decide +kernel
theorem dX6_does_43 : decode cX6_does 43 = .ok (.iadd, 1) := by decide +kernel
theorem dX6_does_44 : decode cX6_does 44 = .ok (.iaload, 1) := by decide +kernel
theorem dX6_does_45 : decode cX6_does 45 = .ok (.invokevirtual 140, 3) := by decide +kernel
theorem dX6_does_48 : decode cX6_does 48 = .ok (.goto 61, 3) := by decide +kernel
theorem dX6_does_51 : decode cX6_does 51 = .ok (.iload_n 2, 1) := by decide +kernel
theorem dX6_does_52 : decode cX6_does 52 = .ok (.iconst 4, 1) := by decide +kernel
theorem dX6_does_53 : decode cX6_does 53 = .ok (.if_icmp .lt 18, 3) := by decide +kernel
theorem dX6_does_56 : decode cX6_does 56 = .ok (.iload_n 2, 1) := by decide +kernel
theorem dX6_does_57 : decode cX6_does 57 = .ok (.bipush 7, 2) := by decide +kernel
theorem dX6_does_59 : decode cX6_does 59 = .ok (.if_icmp .gt 12, 3) := by decide +kernel
theorem dX6_does_62 : decode cX6_does 62 = .ok (.aload_n 0, 1) := by decide +kernel
theorem dX6_does_63 : decode cX6_does 63 = .ok (.iload_n 1, 1) := by decide +kernel
theorem dX6_does_64 : decode cX6_does 64 = .ok (.iload_n 2, 1) := by decide +kernel
theorem dX6_does_65 : decode cX6_does 65 = .ok (.invokevirtual 156, 3) := by decide +kernel
theorem dX6_does_68 : decode cX6_does 68 = .ok (.goto 41, 3) := by decide +kernel
theorem dX6_does_71 : decode cX6_does 71 = .ok (.iload_n 2, 1) := by decide +kernel
theorem dX6_does_72 : decode cX6_does 72 = .ok (.bipush 11, 2) := by decide +kernel
theorem dX6_does_74 : decode cX6_does 74 = .ok (.if_icmp .eq 9, 3) := by decide +kernel
theorem dX6_does_77 : decode cX6_does 77 = .ok (.iload_n 2, 1) := by decide +kernel
theorem dX6_does_78 : decode cX6_does 78 = .ok (.bipush 12, 2) := by decide +kernel
theorem dX6_does_80 : decode cX6_does 80 = .ok (.if_icmp .ne 22, 3) := by decide +kernel
theorem dX6_does_83 : decode cX6_does 83 = .ok (.aload_n 0, 1) := by decide +kernel
theorem dX6_does_84 : decode cX6_does 84 = .ok (.iload_n 1, 1) := by decide +kernel
theorem dX6_does_85 : decode cX6_does 85 = .ok (.iload_n 2, 1) := by decide +kernel
theorem dX6_does_86 : decode cX6_does 86 = .ok (.bipush 12, 2) := by decide +kernel
theorem dX6_does_88 : decode cX6_does 88 = .ok (.if_icmp .ne 7, 3) := by decide +kernel
theorem dX6_does_91 : decode cX6_does 91 = .ok (.iconst 1, 1) := by decide +kernel
theorem dX6_does_92 : decode cX6_does 92 = .ok (.goto 4, 3) := by decide +kernel
theorem dX6_does_95 : decode cX6_does 95 = .ok (.iconst 0, 1) := by decide +kernel
theorem dX6_does_96 : decode cX6_does 96 = .ok (.invokevirtual 159, 3) := by decide +kernel
theorem dX6_does_99 : decode cX6_does 99 = .ok (.goto 10, 3) := by decide +kernel
theorem dX6_does_102 : decode cX6_does 102 = .ok (.aload_n 0, 1) := by decide +kernel
theorem dX6_does_103 : decode cX6_does 103 = .ok (.iload_n 1, 1) := by decide +kernel
theorem dX6_does_104 : decode cX6_does 104 = .ok (.iload_n 2, 1) := by decide +kernel
theorem dX6_does_105 : decode cX6_does 105 = .ok (.iload_n 3, 1) := by decide +kernel
theorem dX6_does_106 : decode cX6_does 106 = .ok (.invokevirtual 163, 3) := by decide +kernel
theorem dX6_does_109 : decode cX6_does 109 = .ok (.return_, 1) := by decide +kernel
theorem dX6_goesOn_0 : decode cX6_goesOn 0 = .ok (.aload_n 0, 1) := by decide +kernel
theorem dX6_goesOn_1 : decode cX6_goesOn 1 = .ok (.getfield 79, 3) := by decide +kernel
theorem dX6_goesOn_4 : decode cX6_goesOn 4 = .ok (.iload_n 1, 1) := by decide +kernel
theorem dX6_goesOn_5 : decode cX6_goesOn 5 = .ok (.bipush 7, 2) := by decide +kernel
theorem dX6_goesOn_7 : decode cX6_goesOn 7 = .ok (.iastore, 1) := by decide +kernel
theorem dX6_goesOn_8 : decode cX6_goesOn 8 = .ok (.bipush 6, 2) := by decide +kernel
theorem dX6_goesOn_10 : decode cX6_goesOn 10 = .ok (.aload_n 0, 1) := by decide +kernel
theorem dX6_goesOn_11 : decode cX6_goesOn 11 = .ok (.getfield 55, 3) := by decide +kernel
theorem dX6_goesOn_14 : decode cX6_goesOn 14 = .ok (.iload_n 1, 1) := by decide +kernel
theorem dX6_goesOn_15 : decode cX6_goesOn 15 = .ok (.iaload, 1) := by decide +kernel
theorem dX6_goesOn_16 : decode cX6_goesOn 16 = .ok (.imul, 1) := by decide +kernel
theorem dX6_goesOn_17 : decode cX6_goesOn 17 = .ok (.aload_n 0, 1) := by decide +kernel
theorem dX6_goesOn_18 : decode cX6_goesOn 18 = .ok (.getfield 58, 3) := by decide +kernel
theorem dX6_goesOn_21 : decode cX6_goesOn 21 = .ok (.iload_n 1, 1) := by decide +kernel
theorem dX6_goesOn_22 : decode cX6_goesOn 22 = .ok (.iaload, 1) := by decide +kernel
theorem dX6_goesOn_23 : decode cX6_goesOn 23 = .ok (.iadd, 1) := by decide +kernel
theorem dX6_goesOn_24 : decode cX6_goesOn 24 = .ok (.istore_n 2, 1) := by decide +kernel
theorem dX6_goesOn_25 : decode cX6_goesOn 25 = .ok (.aload_n 0, 1) := by decide +kernel
theorem dX6_goesOn_26 : decode cX6_goesOn 26 = .ok (.getfield 79, 3) := by decide +kernel
theorem dX6_goesOn_29 : decode cX6_goesOn 29 = .ok (.iload_n 1, 1) := by decide +kernel
theorem dX6_goesOn_30 : decode cX6_goesOn 30 = .ok (.iaload, 1) := by decide +kernel
theorem dX6_goesOn_31 : decode cX6_goesOn 31 = .ok (.bipush 7, 2) := by decide +kernel
theorem dX6_goesOn_33 : decode cX6_goesOn 33 = .ok (.if_icmp .ne 133, 3) := by decide +kernel
theorem dX6_goesOn_36 : decode cX6_goesOn 36 = .ok (.bipush 24, 2) := by decide +kernel
theorem dX6_goesOn_38 : decode cX6_goesOn 38 = .ok (.iload_n 2, 1) := by decide +kernel
theorem dX6_goesOn_39 : decode cX6_goesOn 39 = .ok (.imul, 1) := by decide +kernel
theorem dX6_goesOn_40 : decode cX6_goesOn 40 = .ok (.aload_n 0, 1) := by decide +kernel
theorem dX6_goesOn_41 : decode cX6_goesOn 41 = .ok (.getfield 61, 3) := by decide +kernel
theorem dX6_goesOn_44 : decode cX6_goesOn 44 = .ok (.iload_n 1, 1) := by decide +kernel
theorem dX6_goesOn_45 : decode cX6_goesOn 45 = .ok (.iaload, 1) := by decide +kernel
theorem dX6_goesOn_46 : decode cX6_goesOn 46 = .ok (.iadd, 1) := by decide +kernel
theorem dX6_goesOn_47 : decode cX6_goesOn 47 = .ok (.istore_n 3, 1) := by decide +kernel
theorem dX6_goesOn_48 : decode cX6_goesOn 48 = .ok (.aload_n 0, 1) := by decide +kernel
theorem dX6_goesOn_49 : decode cX6_goesOn 49 = .ok (.getfield 61, 3) := by decide +kernel
theorem dX6_goesOn_52 : decode cX6_goesOn 52 = .ok (.iload_n 1, 1) := by decide +kernel
theorem dX6_goesOn_53 : decode cX6_goesOn 53 = .ok (.iaload, 1) := by decide +kernel
theorem dX6_goesOn_54 : decode cX6_goesOn 54 = .ok (.aload_n 0, 1) := by decide +kernel
theorem dX6_goesOn_55 : decode cX6_goesOn 55 = .ok (.getfield 25, 3) := by decide +kernel
theorem dX6_goesOn_58 : decode cX6_goesOn 58 = .ok (.iload_n 2, 1) := by decide +kernel
theorem dX6_goesOn_59 : decode cX6_goesOn 59 = .ok (.iaload, 1) := by decide +kernel
theorem dX6_goesOn_60 : decode cX6_goesOn 60 = .ok (.if_icmp .ge 7, 3) := by decide +kernel
theorem dX6_goesOn_63 : decode cX6_goesOn 63 = .ok (.iconst 1, 1) := by decide +kernel
theorem dX6_goesOn_64 : decode cX6_goesOn 64 = .ok (.goto 4, 3) := by decide +kernel
theorem dX6_goesOn_67 : decode cX6_goesOn 67 = .ok (.iconst 0, 1) := by decide +kernel
theorem dX6_goesOn_68 : decode cX6_goesOn 68 = .ok (.istore 4, 2) := by decide +kernel
theorem dX6_goesOn_70 : decode cX6_goesOn 70 = .ok (.iload 4, 2) := by decide +kernel
theorem dX6_goesOn_72 : decode cX6_goesOn 72 = .ok (.ifCond .eq 16, 3) := by decide +kernel
theorem dX6_goesOn_75 : decode cX6_goesOn 75 = .ok (.aload_n 0, 1) := by decide +kernel
theorem dX6_goesOn_76 : decode cX6_goesOn 76 = .ok (.getfield 19, 3) := by decide +kernel
theorem dX6_goesOn_79 : decode cX6_goesOn 79 = .ok (.iload_n 3, 1) := by decide +kernel
theorem dX6_goesOn_80 : decode cX6_goesOn 80 = .ok (.iaload, 1) := by decide +kernel
theorem dX6_goesOn_81 : decode cX6_goesOn 81 = .ok (.ifCond .ne 7, 3) := by decide +kernel
theorem dX6_goesOn_84 : decode cX6_goesOn 84 = .ok (.iconst 3, 1) := by decide +kernel
theorem dX6_goesOn_85 : decode cX6_goesOn 85 = .ok (.goto 4, 3) := by decide +kernel
theorem dX6_goesOn_88 : decode cX6_goesOn 88 = .ok (.iconst 1, 1) := by decide +kernel
theorem dX6_goesOn_89 : decode cX6_goesOn 89 = .ok (.istore 5, 2) := by decide +kernel
theorem dX6_goesOn_91 : decode cX6_goesOn 91 = .ok (.iload 4, 2) := by decide +kernel
theorem dX6_goesOn_93 : decode cX6_goesOn 93 = .ok (.ifCond .eq 14, 3) := by decide +kernel
theorem dX6_goesOn_96 : decode cX6_goesOn 96 = .ok (.aload_n 0, 1) := by decide +kernel
theorem dX6_goesOn_97 : decode cX6_goesOn 97 = .ok (.getfield 76, 3) := by decide +kernel
theorem dX6_goesOn_100 : decode cX6_goesOn 100 = .ok (.iload_n 1, 1) := by decide +kernel
theorem dX6_goesOn_101 : decode cX6_goesOn 101 = .ok (.iaload, 1) := by decide +kernel
theorem dX6_goesOn_102 : decode cX6_goesOn 102 = .ok (.iload 5, 2) := by decide +kernel
theorem dX6_goesOn_104 : decode cX6_goesOn 104 = .ok (.if_icmp .ge 21, 3) := by decide +kernel
theorem dX6_goesOn_107 : decode cX6_goesOn 107 = .ok (.aload_n 0, 1) := by decide +kernel
theorem dX6_goesOn_108 : decode cX6_goesOn 108 = .ok (.iload_n 1, 1) := by decide +kernel
theorem dX6_goesOn_109 : decode cX6_goesOn 109 = .ok (.iload 4, 2) := by decide +kernel
theorem dX6_goesOn_111 : decode cX6_goesOn 111 = .ok (.ifCond .eq 7, 3) := by decide +kernel
theorem dX6_goesOn_114 : decode cX6_goesOn 114 = .ok (.iconst 4, 1) := by decide +kernel
theorem dX6_goesOn_115 : decode cX6_goesOn 115 = .ok (.goto 4, 3) := by decide +kernel
theorem dX6_goesOn_118 : decode cX6_goesOn 118 = .ok (.iconst 5, 1) := by decide +kernel
theorem dX6_goesOn_119 : decode cX6_goesOn 119 = .ok (.invokevirtual 129, 3) := by decide +kernel
theorem dX6_goesOn_122 : decode cX6_goesOn 122 = .ok (.goto 41, 3) := by decide +kernel
theorem dX6_goesOn_125 : decode cX6_goesOn 125 = .ok (.aload_n 0, 1) := by decide +kernel
theorem dX6_goesOn_126 : decode cX6_goesOn 126 = .ok (.getfield 76, 3) := by decide +kernel
theorem dX6_goesOn_129 : decode cX6_goesOn 129 = .ok (.iload_n 1, 1) := by decide +kernel
theorem dX6_goesOn_130 : decode cX6_goesOn 130 = .ok (.dup2, 1) := by decide +kernel
theorem dX6_goesOn_131 : decode cX6_goesOn 131 = .ok (.iaload, 1) := by decide +kernel
theorem dX6_goesOn_132 : decode cX6_goesOn 132 = .ok (.iload 5, 2) := by decide +kernel
theorem dX6_goesOn_134 : decode cX6_goesOn 134 = .ok (.isub, 1) := by decide +kernel
theorem dX6_goesOn_135 : decode cX6_goesOn 135 = .ok (.iastore, 1) := by decide +kernel
theorem dX6_goesOn_136 : decode cX6_goesOn 136 = .ok (.aload_n 0, 1) := by decide +kernel
theorem dX6_goesOn_137 : decode cX6_goesOn 137 = .ok (.getfield 61, 3) := by decide +kernel
theorem dX6_goesOn_140 : decode cX6_goesOn 140 = .ok (.iload_n 1, 1) := by decide +kernel
theorem dX6_goesOn_141 : decode cX6_goesOn 141 = .ok (.dup2, 1) := by decide +kernel
theorem dX6_goesOn_142 : decode cX6_goesOn 142 = .ok (.iaload, 1) := by decide +kernel
theorem dX6_goesOn_143 : decode cX6_goesOn 143 = .ok (.iconst 1, 1) := by decide +kernel
theorem dX6_goesOn_144 : decode cX6_goesOn 144 = .ok (.iadd, 1) := by decide +kernel
theorem dX6_goesOn_145 : decode cX6_goesOn 145 = .ok (.iastore, 1) := by decide +kernel
theorem dX6_goesOn_146 : decode cX6_goesOn 146 = .ok (.aload_n 0, 1) := by decide +kernel
theorem dX6_goesOn_147 : decode cX6_goesOn 147 = .ok (.iload_n 1, 1) := by decide +kernel
theorem dX6_goesOn_148 : decode cX6_goesOn 148 = .ok (.aload_n 0, 1) := by decide +kernel
theorem dX6_goesOn_149 : decode cX6_goesOn 149 = .ok (.getfield 19, 3) := by decide +kernel
theorem dX6_goesOn_152 : decode cX6_goesOn 152 = .ok (.iload_n 3, 1) := by decide +kernel
theorem dX6_goesOn_153 : decode cX6_goesOn 153 = .ok (.iaload, 1) := by decide +kernel
theorem dX6_goesOn_154 : decode cX6_goesOn 154 = .ok (.aload_n 0, 1) := by decide +kernel
theorem dX6_goesOn_155 : decode cX6_goesOn 155 = .ok (.getfield 22, 3) := by decide +kernel
theorem dX6_goesOn_158 : decode cX6_goesOn 158 = .ok (.iload_n 3, 1) := by decide +kernel
theorem dX6_goesOn_159 : decode cX6_goesOn 159 = .ok (.iaload, 1) := by decide +kernel
theorem dX6_goesOn_160 : decode cX6_goesOn 160 = .ok (.invokevirtual 167, 3) := by decide +kernel
theorem dX6_goesOn_163 : decode cX6_goesOn 163 = .ok (.goto (-138), 3) := by decide +kernel
theorem dX6_goesOn_166 : decode cX6_goesOn 166 = .ok (.return_, 1) := by decide +kernel
theorem dX6_starts_0 : decode cX6_starts 0 = .ok (.aload_n 0, 1) := by decide +kernel
theorem dX6_starts_1 : decode cX6_starts 1 = .ok (.getfield 58, 3) := by decide +kernel
theorem dX6_starts_4 : decode cX6_starts 4 = .ok (.iload_n 1, 1) := by decide +kernel
theorem dX6_starts_5 : decode cX6_starts 5 = .ok (.aload_n 0, 1) := by decide +kernel
theorem dX6_starts_6 : decode cX6_starts 6 = .ok (.getfield 28, 3) := by decide +kernel
theorem dX6_starts_9 : decode cX6_starts 9 = .ok (.aload_n 0, 1) := by decide +kernel
theorem dX6_starts_10 : decode cX6_starts 10 = .ok (.getfield 55, 3) := by decide +kernel
theorem dX6_starts_13 : decode cX6_starts 13 = .ok (.iload_n 1, 1) := by decide +kernel
theorem dX6_starts_14 : decode cX6_starts 14 = .ok (.iaload, 1) := by decide +kernel
theorem dX6_starts_15 : decode cX6_starts 15 = .ok (.iaload, 1) := by decide +kernel
theorem dX6_starts_16 : decode cX6_starts 16 = .ok (.iconst 1, 1) := by decide +kernel
theorem dX6_starts_17 : decode cX6_starts 17 = .ok (.isub, 1) := by decide +kernel
theorem dX6_starts_18 : decode cX6_starts 18 = .ok (.iastore, 1) := by decide +kernel
theorem dX6_starts_19 : decode cX6_starts 19 = .ok (.aload_n 0, 1) := by decide +kernel
theorem dX6_starts_20 : decode cX6_starts 20 = .ok (.getfield 76, 3) := by decide +kernel
theorem dX6_starts_23 : decode cX6_starts 23 = .ok (.iload_n 1, 1) := by decide +kernel
theorem dX6_starts_24 : decode cX6_starts 24 = .ok (.aload_n 0, 1) := by decide +kernel
theorem dX6_starts_25 : decode cX6_starts 25 = .ok (.getfield 31, 3) := by decide +kernel
theorem dX6_starts_28 : decode cX6_starts 28 = .ok (.aload_n 0, 1) := by decide +kernel
theorem dX6_starts_29 : decode cX6_starts 29 = .ok (.getfield 55, 3) := by decide +kernel
theorem dX6_starts_32 : decode cX6_starts 32 = .ok (.iload_n 1, 1) := by decide +kernel
theorem dX6_starts_33 : decode cX6_starts 33 = .ok (.iaload, 1) := by decide +kernel
theorem dX6_starts_34 : decode cX6_starts 34 = .ok (.iaload, 1) := by decide +kernel
theorem dX6_starts_35 : decode cX6_starts 35 = .ok (.iastore, 1) := by decide +kernel
theorem dX6_starts_36 : decode cX6_starts 36 = .ok (.aload_n 0, 1) := by decide +kernel
theorem dX6_starts_37 : decode cX6_starts 37 = .ok (.getfield 61, 3) := by decide +kernel
theorem dX6_starts_40 : decode cX6_starts 40 = .ok (.iload_n 1, 1) := by decide +kernel
theorem dX6_starts_41 : decode cX6_starts 41 = .ok (.iconst 0, 1) := by decide +kernel
theorem dX6_starts_42 : decode cX6_starts 42 = .ok (.iastore, 1) := by decide +kernel
theorem dX6_starts_43 : decode cX6_starts 43 = .ok (.aload_n 0, 1) := by decide +kernel
theorem dX6_starts_44 : decode cX6_starts 44 = .ok (.getfield 67, 3) := by decide +kernel
theorem dX6_starts_47 : decode cX6_starts 47 = .ok (.iload_n 1, 1) := by decide +kernel
theorem dX6_starts_48 : decode cX6_starts 48 = .ok (.iconst 0, 1) := by decide +kernel
theorem dX6_starts_49 : decode cX6_starts 49 = .ok (.iastore, 1) := by decide +kernel
theorem dX6_starts_50 : decode cX6_starts 50 = .ok (.aload_n 0, 1) := by decide +kernel
theorem dX6_starts_51 : decode cX6_starts 51 = .ok (.getfield 73, 3) := by decide +kernel
theorem dX6_starts_54 : decode cX6_starts 54 = .ok (.iload_n 1, 1) := by decide +kernel
theorem dX6_starts_55 : decode cX6_starts 55 = .ok (.iconst 0, 1) := by decide +kernel
theorem dX6_starts_56 : decode cX6_starts 56 = .ok (.iastore, 1) := by decide +kernel
theorem dX6_starts_57 : decode cX6_starts 57 = .ok (.iconst 0, 1) := by decide +kernel
theorem dX6_starts_58 : decode cX6_starts 58 = .ok (.istore_n 2, 1) := by decide +kernel
theorem dX6_starts_59 : decode cX6_starts 59 = .ok (.iload_n 2, 1) := by decide +kernel
theorem dX6_starts_60 : decode cX6_starts 60 = .ok (.bipush 8, 2) := by decide +kernel
theorem dX6_starts_62 : decode cX6_starts 62 = .ok (.if_icmp .ge 21, 3) := by decide +kernel
theorem dX6_starts_65 : decode cX6_starts 65 = .ok (.aload_n 0, 1) := by decide +kernel
theorem dX6_starts_66 : decode cX6_starts 66 = .ok (.getfield 70, 3) := by decide +kernel
theorem dX6_starts_69 : decode cX6_starts 69 = .ok (.bipush 8, 2) := by decide +kernel
theorem dX6_starts_71 : decode cX6_starts 71 = .ok (.iload_n 1, 1) := by decide +kernel
theorem dX6_starts_72 : decode cX6_starts 72 = .ok (.imul, 1) := by decide +kernel
theorem dX6_starts_73 : decode cX6_starts 73 = .ok (.iload_n 2, 1) := by decide +kernel
theorem dX6_starts_74 : decode cX6_starts 74 = .ok (.iadd, 1) := by decide +kernel
theorem dX6_starts_75 : decode cX6_starts 75 = .ok (.iconst 0, 1) := by decide +kernel
theorem dX6_starts_76 : decode cX6_starts 76 = .ok (.iastore, 1) := by decide +kernel
theorem dX6_starts_77 : decode cX6_starts 77 = .ok (.iinc 2 1, 3) := by decide +kernel
theorem dX6_starts_80 : decode cX6_starts 80 = .ok (.goto (-21), 3) := by decide +kernel
theorem dX6_starts_83 : decode cX6_starts 83 = .ok (.iconst 0, 1) := by decide +kernel
theorem dX6_starts_84 : decode cX6_starts 84 = .ok (.istore_n 2, 1) := by decide +kernel
theorem dX6_starts_85 : decode cX6_starts 85 = .ok (.iload_n 2, 1) := by decide +kernel
theorem dX6_starts_86 : decode cX6_starts 86 = .ok (.bipush 16, 2) := by decide +kernel
theorem dX6_starts_88 : decode cX6_starts 88 = .ok (.if_icmp .ge 38, 3) := by decide +kernel
theorem dX6_starts_91 : decode cX6_starts 91 = .ok (.aload_n 0, 1) := by decide +kernel
theorem dX6_starts_92 : decode cX6_starts 92 = .ok (.getfield 88, 3) := by decide +kernel
theorem dX6_starts_95 : decode cX6_starts 95 = .ok (.bipush 16, 2) := by decide +kernel
theorem dX6_starts_97 : decode cX6_starts 97 = .ok (.iload_n 1, 1) := by decide +kernel
theorem dX6_starts_98 : decode cX6_starts 98 = .ok (.imul, 1) := by decide +kernel
theorem dX6_starts_99 : decode cX6_starts 99 = .ok (.iload_n 2, 1) := by decide +kernel
theorem dX6_starts_100 : decode cX6_starts 100 = .ok (.iadd, 1) := by decide +kernel
theorem dX6_starts_101 : decode cX6_starts 101 = .ok (.aload_n 0, 1) := by decide +kernel
theorem dX6_starts_102 : decode cX6_starts 102 = .ok (.getfield 46, 3) := by decide +kernel
theorem dX6_starts_105 : decode cX6_starts 105 = .ok (.iload_n 2, 1) := by decide +kernel
theorem dX6_starts_106 : decode cX6_starts 106 = .ok (.iaload, 1) := by decide +kernel
theorem dX6_starts_107 : decode cX6_starts 107 = .ok (.iastore, 1) := by decide +kernel
theorem dX6_starts_108 : decode cX6_starts 108 = .ok (.aload_n 0, 1) := by decide +kernel
theorem dX6_starts_109 : decode cX6_starts 109 = .ok (.getfield 91, 3) := by decide +kernel
theorem dX6_starts_112 : decode cX6_starts 112 = .ok (.bipush 16, 2) := by decide +kernel
theorem dX6_starts_114 : decode cX6_starts 114 = .ok (.iload_n 1, 1) := by decide +kernel
theorem dX6_starts_115 : decode cX6_starts 115 = .ok (.imul, 1) := by decide +kernel
theorem dX6_starts_116 : decode cX6_starts 116 = .ok (.iload_n 2, 1) := by decide +kernel
theorem dX6_starts_117 : decode cX6_starts 117 = .ok (.iadd, 1) := by decide +kernel
theorem dX6_starts_118 : decode cX6_starts 118 = .ok (.iconst 0, 1) := by decide +kernel
theorem dX6_starts_119 : decode cX6_starts 119 = .ok (.iastore, 1) := by decide +kernel
theorem dX6_starts_120 : decode cX6_starts 120 = .ok (.iinc 2 1, 3) := by decide +kernel
theorem dX6_starts_123 : decode cX6_starts 123 = .ok (.goto (-38), 3) := by decide +kernel
theorem dX6_starts_126 : decode cX6_starts 126 = .ok (.aload_n 0, 1) := by decide +kernel
theorem dX6_starts_127 : decode cX6_starts 127 = .ok (.iload_n 1, 1) := by decide +kernel
theorem dX6_starts_128 : decode cX6_starts 128 = .ok (.invokevirtual 170, 3) := by decide +kernel
theorem dX6_starts_131 : decode cX6_starts 131 = .ok (.return_, 1) := by decide +kernel
theorem dX6_isRun_0 : decode cX6_isRun 0 = .ok (.iload_n 1, 1) := by decide +kernel
theorem dX6_isRun_1 : decode cX6_isRun 1 = .ok (.aload_n 0, 1) := by decide +kernel
theorem dX6_isRun_2 : decode cX6_isRun 2 = .ok (.getfield 174, 3) := by decide +kernel
theorem dX6_isRun_5 : decode cX6_isRun 5 = .ok (.invokestatic 114, 3) := by decide +kernel
theorem dX6_isRun_8 : decode cX6_isRun 8 = .ok (.ireturn, 1) := by decide +kernel
theorem dX6_begin_0 : decode cX6_begin 0 = .ok (.iload_n 1, 1) := by decide +kernel
theorem dX6_begin_1 : decode cX6_begin 1 = .ok (.bipush 16, 2) := by decide +kernel
theorem dX6_begin_3 : decode cX6_begin 3 = .ok (.invokestatic 114, 3) := by decide +kernel
theorem dX6_begin_6 : decode cX6_begin 6 = .ok (.ifCond .eq 15, 3) := by decide +kernel
theorem dX6_begin_9 : decode cX6_begin 9 = .ok (.iload_n 2, 1) := by decide +kernel
theorem dX6_begin_10 : decode cX6_begin 10 = .ok (.iconst 4, 1) := by decide +kernel
theorem dX6_begin_11 : decode cX6_begin 11 = .ok (.invokestatic 114, 3) := by decide +kernel
theorem dX6_begin_14 : decode cX6_begin 14 = .ok (.ifCond .eq 7, 3) := by decide +kernel
theorem dX6_begin_17 : decode cX6_begin 17 = .ok (.iconst 1, 1) := by decide +kernel
theorem dX6_begin_18 : decode cX6_begin 18 = .ok (.goto 4, 3) := by decide +kernel
theorem dX6_begin_21 : decode cX6_begin 21 = .ok (.iconst 0, 1) := by decide +kernel
theorem dX6_begin_22 : decode cX6_begin 22 = .ok (.istore_n 3, 1) := by decide +kernel
theorem dX6_begin_23 : decode cX6_begin 23 = .ok (.iconst 0, 1) := by decide +kernel
theorem dX6_begin_24 : decode cX6_begin 24 = .ok (.istore 4, 2) := by decide +kernel
theorem dX6_begin_26 : decode cX6_begin 26 = .ok (.iconst 0, 1) := by decide +kernel
theorem dX6_begin_27 : decode cX6_begin 27 = .ok (.istore 5, 2) := by decide +kernel
theorem dX6_begin_29 : decode cX6_begin 29 = .ok (.iload 5, 2) := by decide +kernel
theorem dX6_begin_31 : decode cX6_begin 31 = .ok (.aload_n 0, 1) := by decide +kernel
theorem dX6_begin_32 : decode cX6_begin 32 = .ok (.getfield 174, 3) := by decide +kernel
theorem dX6_begin_35 : decode cX6_begin 35 = .ok (.if_icmp .ge 43, 3) := by decide +kernel
theorem dX6_begin_38 : decode cX6_begin 38 = .ok (.iload 4, 2) := by decide +kernel
theorem dX6_begin_40 : decode cX6_begin 40 = .ok (.ifCond .ne 25, 3) := by decide +kernel
theorem dX6_begin_43 : decode cX6_begin 43 = .ok (.aload_n 0, 1) := by decide +kernel
theorem dX6_begin_44 : decode cX6_begin 44 = .ok (.getfield 52, 3) := by decide +kernel
theorem dX6_begin_47 : decode cX6_begin 47 = .ok (.iload 5, 2) := by decide +kernel
theorem dX6_begin_49 : decode cX6_begin 49 = .ok (.iaload, 1) := by decide +kernel
theorem dX6_begin_50 : decode cX6_begin 50 = .ok (.iload_n 1, 1) := by decide +kernel
theorem dX6_begin_51 : decode cX6_begin 51 = .ok (.if_icmp .ne 18, 3) := by decide +kernel
theorem dX6_begin_54 : decode cX6_begin 54 = .ok (.aload_n 0, 1) := by decide +kernel
theorem dX6_begin_55 : decode cX6_begin 55 = .ok (.getfield 55, 3) := by decide +kernel
theorem dX6_begin_58 : decode cX6_begin 58 = .ok (.iload 5, 2) := by decide +kernel
theorem dX6_begin_60 : decode cX6_begin 60 = .ok (.iaload, 1) := by decide +kernel
theorem dX6_begin_61 : decode cX6_begin 61 = .ok (.iload_n 2, 1) := by decide +kernel
theorem dX6_begin_62 : decode cX6_begin 62 = .ok (.if_icmp .ne 7, 3) := by decide +kernel
theorem dX6_begin_65 : decode cX6_begin 65 = .ok (.iconst 1, 1) := by decide +kernel
theorem dX6_begin_66 : decode cX6_begin 66 = .ok (.goto 4, 3) := by decide +kernel
theorem dX6_begin_69 : decode cX6_begin 69 = .ok (.iconst 0, 1) := by decide +kernel
theorem dX6_begin_70 : decode cX6_begin 70 = .ok (.istore 4, 2) := by decide +kernel
theorem dX6_begin_72 : decode cX6_begin 72 = .ok (.iinc 5 1, 3) := by decide +kernel
theorem dX6_begin_75 : decode cX6_begin 75 = .ok (.goto (-46), 3) := by decide +kernel
theorem dX6_begin_78 : decode cX6_begin 78 = .ok (.aload_n 0, 1) := by decide +kernel
theorem dX6_begin_79 : decode cX6_begin 79 = .ok (.iload_n 3, 1) := by decide +kernel
theorem dX6_begin_80 : decode cX6_begin 80 = .ok (.iload_n 3, 1) := by decide +kernel
theorem dX6_begin_81 : decode cX6_begin 81 = .ok (.ifCond .eq 30, 3) := by decide +kernel
theorem dX6_begin_84 : decode cX6_begin 84 = .ok (.aload_n 0, 1) := by decide +kernel
theorem dX6_begin_85 : decode cX6_begin 85 = .ok (.getfield 28, 3) := by decide +kernel
theorem dX6_begin_88 : decode cX6_begin 88 = .ok (.iload_n 2, 1) := by decide +kernel
theorem dX6_begin_89 : decode cX6_begin 89 = .ok (.iaload, 1) := by decide +kernel
theorem dX6_begin_90 : decode cX6_begin 90 = .ok (.ifCond .le 21, 3) := by decide +kernel
theorem dX6_begin_93 : decode cX6_begin 93 = .ok (.iload 4, 2) := by decide +kernel
theorem dX6_begin_95 : decode cX6_begin 95 = .ok (.ifCond .ne 16, 3) := by decide +kernel
theorem dX6_begin_98 : decode cX6_begin 98 = .ok (.aload_n 0, 1) := by decide +kernel
theorem dX6_begin_99 : decode cX6_begin 99 = .ok (.getfield 174, 3) := by decide +kernel
theorem dX6_begin_102 : decode cX6_begin 102 = .ok (.bipush 24, 2) := by decide +kernel
theorem dX6_begin_104 : decode cX6_begin 104 = .ok (.if_icmp .ge 7, 3) := by decide +kernel
theorem dX6_begin_107 : decode cX6_begin 107 = .ok (.iconst 1, 1) := by decide +kernel
theorem dX6_begin_108 : decode cX6_begin 108 = .ok (.goto 4, 3) := by decide +kernel
theorem dX6_begin_111 : decode cX6_begin 111 = .ok (.iconst 0, 1) := by decide +kernel
theorem dX6_begin_112 : decode cX6_begin 112 = .ok (.iconst 1, 1) := by decide +kernel
theorem dX6_begin_113 : decode cX6_begin 113 = .ok (.invokevirtual 121, 3) := by decide +kernel
theorem dX6_begin_116 : decode cX6_begin 116 = .ok (.ifCond .ne 5, 3) := by decide +kernel
theorem dX6_begin_119 : decode cX6_begin 119 = .ok (.iconst 0, 1) := by decide +kernel
theorem dX6_begin_120 : decode cX6_begin 120 = .ok (.ireturn, 1) := by decide +kernel
theorem dX6_begin_121 : decode cX6_begin 121 = .ok (.aload_n 0, 1) := by decide +kernel
theorem dX6_begin_122 : decode cX6_begin 122 = .ok (.getfield 52, 3) := by decide +kernel
theorem dX6_begin_125 : decode cX6_begin 125 = .ok (.aload_n 0, 1) := by decide +kernel
theorem dX6_begin_126 : decode cX6_begin 126 = .ok (.getfield 174, 3) := by decide +kernel
theorem dX6_begin_129 : decode cX6_begin 129 = .ok (.iload_n 1, 1) := by decide +kernel
theorem dX6_begin_130 : decode cX6_begin 130 = .ok (.iastore, 1) := by decide +kernel
theorem dX6_begin_131 : decode cX6_begin 131 = .ok (.aload_n 0, 1) := by decide +kernel
theorem dX6_begin_132 : decode cX6_begin 132 = .ok (.getfield 55, 3) := by decide +kernel
theorem dX6_begin_135 : decode cX6_begin 135 = .ok (.aload_n 0, 1) := by decide +kernel
theorem dX6_begin_136 : decode cX6_begin 136 = .ok (.getfield 174, 3) := by decide +kernel
theorem dX6_begin_139 : decode cX6_begin 139 = .ok (.iload_n 2, 1) := by decide +kernel
theorem dX6_begin_140 : decode cX6_begin 140 = .ok (.iastore, 1) := by decide +kernel
theorem dX6_begin_141 : decode cX6_begin 141 = .ok (.aload_n 0, 1) := by decide +kernel
theorem dX6_begin_142 : decode cX6_begin 142 = .ok (.getfield 82, 3) := by decide +kernel
theorem dX6_begin_145 : decode cX6_begin 145 = .ok (.aload_n 0, 1) := by decide +kernel
theorem dX6_begin_146 : decode cX6_begin 146 = .ok (.getfield 174, 3) := by decide +kernel
theorem dX6_begin_149 : decode cX6_begin 149 = .ok (.iconst (-1), 1) := by decide +kernel
theorem dX6_begin_150 : decode cX6_begin 150 = .ok (.iastore, 1) := by decide +kernel
theorem dX6_begin_151 : decode cX6_begin 151 = .ok (.aload_n 0, 1) := by decide +kernel
theorem dX6_begin_152 : decode cX6_begin 152 = .ok (.dup, 1) := by decide +kernel
theorem dX6_begin_153 : decode cX6_begin 153 = .ok (.getfield 174, 3) := by decide +kernel
theorem dX6_begin_156 : decode cX6_begin 156 = .ok (.iconst 1, 1) := by decide +kernel
theorem dX6_begin_157 : decode cX6_begin 157 = .ok (.iadd, 1) := by decide +kernel
theorem dX6_begin_158 : decode cX6_begin 158 = .ok (.putfield 174, 3) := by decide +kernel
theorem dX6_begin_161 : decode cX6_begin 161 = .ok (.aload_n 0, 1) := by decide +kernel
theorem dX6_begin_162 : decode cX6_begin 162 = .ok (.aload_n 0, 1) := by decide +kernel
theorem dX6_begin_163 : decode cX6_begin 163 = .ok (.getfield 174, 3) := by decide +kernel
theorem dX6_begin_166 : decode cX6_begin 166 = .ok (.iconst 1, 1) := by decide +kernel
theorem dX6_begin_167 : decode cX6_begin 167 = .ok (.isub, 1) := by decide +kernel
theorem dX6_begin_168 : decode cX6_begin 168 = .ok (.invokevirtual 177, 3) := by decide +kernel
theorem dX6_begin_171 : decode cX6_begin 171 = .ok (.aload_n 0, 1) := by decide +kernel
theorem dX6_begin_172 : decode cX6_begin 172 = .ok (.getfield 174, 3) := by decide +kernel
theorem dX6_begin_175 : decode cX6_begin 175 = .ok (.iconst 1, 1) := by decide +kernel
theorem dX6_begin_176 : decode cX6_begin 176 = .ok (.isub, 1) := by decide +kernel
theorem dX6_begin_177 : decode cX6_begin 177 = .ok (.ireturn, 1) := by decide +kernel
theorem dX6_answer_0 : decode cX6_answer 0 = .ok (.aload_n 0, 1) := by decide +kernel
theorem dX6_answer_1 : decode cX6_answer 1 = .ok (.iload_n 1, 1) := by decide +kernel
theorem dX6_answer_2 : decode cX6_answer 2 = .ok (.invokevirtual 180, 3) := by decide +kernel
theorem dX6_answer_5 : decode cX6_answer 5 = .ok (.istore_n 3, 1) := by decide +kernel
theorem dX6_answer_6 : decode cX6_answer 6 = .ok (.iload_n 3, 1) := by decide +kernel
theorem dX6_answer_7 : decode cX6_answer 7 = .ok (.ifCond .eq 41, 3) := by decide +kernel
theorem dX6_answer_10 : decode cX6_answer 10 = .ok (.aload_n 0, 1) := by decide +kernel
theorem dX6_answer_11 : decode cX6_answer 11 = .ok (.getfield 79, 3) := by decide +kernel
theorem dX6_answer_14 : decode cX6_answer 14 = .ok (.iload_n 1, 1) := by decide +kernel
theorem dX6_answer_15 : decode cX6_answer 15 = .ok (.iaload, 1) := by decide +kernel
theorem dX6_answer_16 : decode cX6_answer 16 = .ok (.ifCond .ne 32, 3) := by decide +kernel
theorem dX6_answer_19 : decode cX6_answer 19 = .ok (.aload_n 0, 1) := by decide +kernel
theorem dX6_answer_20 : decode cX6_answer 20 = .ok (.getfield 34, 3) := by decide +kernel
theorem dX6_answer_23 : decode cX6_answer 23 = .ok (.aload_n 0, 1) := by decide +kernel
theorem dX6_answer_24 : decode cX6_answer 24 = .ok (.getfield 55, 3) := by decide +kernel
theorem dX6_answer_27 : decode cX6_answer 27 = .ok (.iload_n 1, 1) := by decide +kernel
theorem dX6_answer_28 : decode cX6_answer 28 = .ok (.iaload, 1) := by decide +kernel
theorem dX6_answer_29 : decode cX6_answer 29 = .ok (.iaload, 1) := by decide +kernel
theorem dX6_answer_30 : decode cX6_answer 30 = .ok (.aload_n 0, 1) := by decide +kernel
theorem dX6_answer_31 : decode cX6_answer 31 = .ok (.getfield 43, 3) := by decide +kernel
theorem dX6_answer_34 : decode cX6_answer 34 = .ok (.aload_n 0, 1) := by decide +kernel
theorem dX6_answer_35 : decode cX6_answer 35 = .ok (.getfield 82, 3) := by decide +kernel
theorem dX6_answer_38 : decode cX6_answer 38 = .ok (.iload_n 1, 1) := by decide +kernel
theorem dX6_answer_39 : decode cX6_answer 39 = .ok (.iaload, 1) := by decide +kernel
theorem dX6_answer_40 : decode cX6_answer 40 = .ok (.iaload, 1) := by decide +kernel
theorem dX6_answer_41 : decode cX6_answer 41 = .ok (.if_icmp .lt 7, 3) := by decide +kernel
theorem dX6_answer_44 : decode cX6_answer 44 = .ok (.iconst 1, 1) := by decide +kernel
theorem dX6_answer_45 : decode cX6_answer 45 = .ok (.goto 4, 3) := by decide +kernel
theorem dX6_answer_48 : decode cX6_answer 48 = .ok (.iconst 0, 1) := by decide +kernel
theorem dX6_answer_49 : decode cX6_answer 49 = .ok (.istore 4, 2) := by decide +kernel
theorem dX6_answer_51 : decode cX6_answer 51 = .ok (.aload_n 0, 1) := by decide +kernel
theorem dX6_answer_52 : decode cX6_answer 52 = .ok (.iload_n 3, 1) := by decide +kernel
theorem dX6_answer_53 : decode cX6_answer 53 = .ok (.iload_n 2, 1) := by decide +kernel
theorem dX6_answer_54 : decode cX6_answer 54 = .ok (.iconst 0, 1) := by decide +kernel
theorem dX6_answer_55 : decode cX6_answer 55 = .ok (.bipush 9, 2) := by decide +kernel
theorem dX6_answer_57 : decode cX6_answer 57 = .ok (.invokestatic 110, 3) := by decide +kernel
theorem dX6_answer_60 : decode cX6_answer 60 = .ok (.iload 4, 2) := by decide +kernel
theorem dX6_answer_62 : decode cX6_answer 62 = .ok (.invokevirtual 121, 3) := by decide +kernel
theorem dX6_answer_65 : decode cX6_answer 65 = .ok (.ifCond .ne 5, 3) := by decide +kernel
theorem dX6_answer_68 : decode cX6_answer 68 = .ok (.iconst 0, 1) := by decide +kernel
theorem dX6_answer_69 : decode cX6_answer 69 = .ok (.ireturn, 1) := by decide +kernel
theorem dX6_answer_70 : decode cX6_answer 70 = .ok (.aload_n 0, 1) := by decide +kernel
theorem dX6_answer_71 : decode cX6_answer 71 = .ok (.getfield 82, 3) := by decide +kernel
theorem dX6_answer_74 : decode cX6_answer 74 = .ok (.iload_n 1, 1) := by decide +kernel
theorem dX6_answer_75 : decode cX6_answer 75 = .ok (.iaload, 1) := by decide +kernel
theorem dX6_answer_76 : decode cX6_answer 76 = .ok (.istore 5, 2) := by decide +kernel
theorem dX6_answer_78 : decode cX6_answer 78 = .ok (.aload_n 0, 1) := by decide +kernel
theorem dX6_answer_79 : decode cX6_answer 79 = .ok (.getfield 94, 3) := by decide +kernel
theorem dX6_answer_82 : decode cX6_answer 82 = .ok (.aload_n 0, 1) := by decide +kernel
theorem dX6_answer_83 : decode cX6_answer 83 = .ok (.getfield 133, 3) := by decide +kernel
theorem dX6_answer_86 : decode cX6_answer 86 = .ok (.iload_n 1, 1) := by decide +kernel
theorem dX6_answer_87 : decode cX6_answer 87 = .ok (.iastore, 1) := by decide +kernel
theorem dX6_answer_88 : decode cX6_answer 88 = .ok (.aload_n 0, 1) := by decide +kernel
theorem dX6_answer_89 : decode cX6_answer 89 = .ok (.getfield 97, 3) := by decide +kernel
theorem dX6_answer_92 : decode cX6_answer 92 = .ok (.aload_n 0, 1) := by decide +kernel
theorem dX6_answer_93 : decode cX6_answer 93 = .ok (.getfield 133, 3) := by decide +kernel
theorem dX6_answer_96 : decode cX6_answer 96 = .ok (.iload 5, 2) := by decide +kernel
theorem dX6_answer_98 : decode cX6_answer 98 = .ok (.iastore, 1) := by decide +kernel
theorem dX6_answer_99 : decode cX6_answer 99 = .ok (.aload_n 0, 1) := by decide +kernel
theorem dX6_answer_100 : decode cX6_answer 100 = .ok (.getfield 100, 3) := by decide +kernel
theorem dX6_answer_103 : decode cX6_answer 103 = .ok (.aload_n 0, 1) := by decide +kernel
theorem dX6_answer_104 : decode cX6_answer 104 = .ok (.getfield 133, 3) := by decide +kernel
theorem dX6_answer_107 : decode cX6_answer 107 = .ok (.aload_n 0, 1) := by decide +kernel
theorem dX6_answer_108 : decode cX6_answer 108 = .ok (.getfield 88, 3) := by decide +kernel
theorem dX6_answer_111 : decode cX6_answer 111 = .ok (.bipush 16, 2) := by decide +kernel
theorem dX6_answer_113 : decode cX6_answer 113 = .ok (.iload_n 1, 1) := by decide +kernel
theorem dX6_answer_114 : decode cX6_answer 114 = .ok (.imul, 1) := by decide +kernel
theorem dX6_answer_115 : decode cX6_answer 115 = .ok (.iload 5, 2) := by decide +kernel
theorem dX6_answer_117 : decode cX6_answer 117 = .ok (.iadd, 1) := by decide +kernel
theorem dX6_answer_118 : decode cX6_answer 118 = .ok (.iaload, 1) := by decide +kernel
theorem dX6_answer_119 : decode cX6_answer 119 = .ok (.iastore, 1) := by decide +kernel
theorem dX6_answer_120 : decode cX6_answer 120 = .ok (.aload_n 0, 1) := by decide +kernel
theorem dX6_answer_121 : decode cX6_answer 121 = .ok (.getfield 103, 3) := by decide +kernel
theorem dX6_answer_124 : decode cX6_answer 124 = .ok (.aload_n 0, 1) := by decide +kernel
theorem dX6_answer_125 : decode cX6_answer 125 = .ok (.getfield 133, 3) := by decide +kernel
theorem dX6_answer_128 : decode cX6_answer 128 = .ok (.iload_n 2, 1) := by decide +kernel
theorem dX6_answer_129 : decode cX6_answer 129 = .ok (.iastore, 1) := by decide +kernel
theorem dX6_answer_130 : decode cX6_answer 130 = .ok (.aload_n 0, 1) := by decide +kernel
theorem dX6_answer_131 : decode cX6_answer 131 = .ok (.dup, 1) := by decide +kernel
theorem dX6_answer_132 : decode cX6_answer 132 = .ok (.getfield 133, 3) := by decide +kernel
theorem dX6_answer_135 : decode cX6_answer 135 = .ok (.iconst 1, 1) := by decide +kernel
theorem dX6_answer_136 : decode cX6_answer 136 = .ok (.iadd, 1) := by decide +kernel
theorem dX6_answer_137 : decode cX6_answer 137 = .ok (.putfield 133, 3) := by decide +kernel
theorem dX6_answer_140 : decode cX6_answer 140 = .ok (.aload_n 0, 1) := by decide +kernel
theorem dX6_answer_141 : decode cX6_answer 141 = .ok (.getfield 34, 3) := by decide +kernel
theorem dX6_answer_144 : decode cX6_answer 144 = .ok (.aload_n 0, 1) := by decide +kernel
theorem dX6_answer_145 : decode cX6_answer 145 = .ok (.getfield 55, 3) := by decide +kernel
theorem dX6_answer_148 : decode cX6_answer 148 = .ok (.iload_n 1, 1) := by decide +kernel
theorem dX6_answer_149 : decode cX6_answer 149 = .ok (.iaload, 1) := by decide +kernel
theorem dX6_answer_150 : decode cX6_answer 150 = .ok (.dup2, 1) := by decide +kernel
theorem dX6_answer_151 : decode cX6_answer 151 = .ok (.iaload, 1) := by decide +kernel
theorem dX6_answer_152 : decode cX6_answer 152 = .ok (.aload_n 0, 1) := by decide +kernel
theorem dX6_answer_153 : decode cX6_answer 153 = .ok (.getfield 43, 3) := by decide +kernel
theorem dX6_answer_156 : decode cX6_answer 156 = .ok (.iload 5, 2) := by decide +kernel
theorem dX6_answer_158 : decode cX6_answer 158 = .ok (.iaload, 1) := by decide +kernel
theorem dX6_answer_159 : decode cX6_answer 159 = .ok (.isub, 1) := by decide +kernel
theorem dX6_answer_160 : decode cX6_answer 160 = .ok (.iastore, 1) := by decide +kernel
theorem dX6_answer_161 : decode cX6_answer 161 = .ok (.aload_n 0, 1) := by decide +kernel
theorem dX6_answer_162 : decode cX6_answer 162 = .ok (.getfield 49, 3) := by decide +kernel
theorem dX6_answer_165 : decode cX6_answer 165 = .ok (.aload_n 0, 1) := by decide +kernel
theorem dX6_answer_166 : decode cX6_answer 166 = .ok (.getfield 52, 3) := by decide +kernel
theorem dX6_answer_169 : decode cX6_answer 169 = .ok (.iload_n 1, 1) := by decide +kernel
theorem dX6_answer_170 : decode cX6_answer 170 = .ok (.iaload, 1) := by decide +kernel
theorem dX6_answer_171 : decode cX6_answer 171 = .ok (.dup2, 1) := by decide +kernel
theorem dX6_answer_172 : decode cX6_answer 172 = .ok (.iaload, 1) := by decide +kernel
theorem dX6_answer_173 : decode cX6_answer 173 = .ok (.aload_n 0, 1) := by decide +kernel
theorem dX6_answer_174 : decode cX6_answer 174 = .ok (.getfield 43, 3) := by decide +kernel
theorem dX6_answer_177 : decode cX6_answer 177 = .ok (.iload 5, 2) := by decide +kernel
theorem dX6_answer_179 : decode cX6_answer 179 = .ok (.iaload, 1) := by decide +kernel
theorem dX6_answer_180 : decode cX6_answer 180 = .ok (.iadd, 1) := by decide +kernel
theorem dX6_answer_181 : decode cX6_answer 181 = .ok (.iastore, 1) := by decide +kernel
theorem dX6_answer_182 : decode cX6_answer 182 = .ok (.aload_n 0, 1) := by decide +kernel
theorem dX6_answer_183 : decode cX6_answer 183 = .ok (.getfield 85, 3) := by decide +kernel
theorem dX6_answer_186 : decode cX6_answer 186 = .ok (.iload_n 1, 1) := by decide +kernel
theorem dX6_answer_187 : decode cX6_answer 187 = .ok (.dup2, 1) := by decide +kernel
theorem dX6_answer_188 : decode cX6_answer 188 = .ok (.iaload, 1) := by decide +kernel
theorem dX6_answer_189 : decode cX6_answer 189 = .ok (.aload_n 0, 1) := by decide +kernel
theorem dX6_answer_190 : decode cX6_answer 190 = .ok (.getfield 43, 3) := by decide +kernel
theorem dX6_answer_193 : decode cX6_answer 193 = .ok (.iload 5, 2) := by decide +kernel
theorem dX6_answer_195 : decode cX6_answer 195 = .ok (.iaload, 1) := by decide +kernel
theorem dX6_answer_196 : decode cX6_answer 196 = .ok (.iadd, 1) := by decide +kernel
theorem dX6_answer_197 : decode cX6_answer 197 = .ok (.iastore, 1) := by decide +kernel
theorem dX6_answer_198 : decode cX6_answer 198 = .ok (.aload_n 0, 1) := by decide +kernel
theorem dX6_answer_199 : decode cX6_answer 199 = .ok (.iload_n 1, 1) := by decide +kernel
theorem dX6_answer_200 : decode cX6_answer 200 = .ok (.iload_n 2, 1) := by decide +kernel
theorem dX6_answer_201 : decode cX6_answer 201 = .ok (.invokevirtual 140, 3) := by decide +kernel
theorem dX6_answer_204 : decode cX6_answer 204 = .ok (.aload_n 0, 1) := by decide +kernel
theorem dX6_answer_205 : decode cX6_answer 205 = .ok (.getfield 79, 3) := by decide +kernel
theorem dX6_answer_208 : decode cX6_answer 208 = .ok (.iload_n 1, 1) := by decide +kernel
theorem dX6_answer_209 : decode cX6_answer 209 = .ok (.iaload, 1) := by decide +kernel
theorem dX6_answer_210 : decode cX6_answer 210 = .ok (.ifCond .ne 8, 3) := by decide +kernel
theorem dX6_answer_213 : decode cX6_answer 213 = .ok (.aload_n 0, 1) := by decide +kernel
theorem dX6_answer_214 : decode cX6_answer 214 = .ok (.iload_n 1, 1) := by decide +kernel
theorem dX6_answer_215 : decode cX6_answer 215 = .ok (.invokevirtual 170, 3) := by decide +kernel
theorem dX6_answer_218 : decode cX6_answer 218 = .ok (.aload_n 0, 1) := by decide +kernel
theorem dX6_answer_219 : decode cX6_answer 219 = .ok (.getfield 79, 3) := by decide +kernel
theorem dX6_answer_222 : decode cX6_answer 222 = .ok (.iload_n 1, 1) := by decide +kernel
theorem dX6_answer_223 : decode cX6_answer 223 = .ok (.iaload, 1) := by decide +kernel
theorem dX6_answer_224 : decode cX6_answer 224 = .ok (.ireturn, 1) := by decide +kernel
theorem dX6_save_0 : decode cX6_save 0 = .ok (.aload_n 0, 1) := by decide +kernel
theorem dX6_save_1 : decode cX6_save 1 = .ok (.aload_n 0, 1) := by decide +kernel
theorem dX6_save_2 : decode cX6_save 2 = .ok (.iload_n 1, 1) := by decide +kernel
theorem dX6_save_3 : decode cX6_save 3 = .ok (.invokevirtual 180, 3) := by decide +kernel
theorem dX6_save_6 : decode cX6_save 6 = .ok (.aload_n 0, 1) := by decide +kernel
theorem dX6_save_7 : decode cX6_save 7 = .ok (.iload_n 1, 1) := by decide +kernel
theorem dX6_save_8 : decode cX6_save 8 = .ok (.invokevirtual 180, 3) := by decide +kernel
theorem dX6_save_11 : decode cX6_save 11 = .ok (.ifCond .eq 16, 3) := by decide +kernel
theorem dX6_save_14 : decode cX6_save 14 = .ok (.aload_n 0, 1) := by decide +kernel
theorem dX6_save_15 : decode cX6_save 15 = .ok (.getfield 79, 3) := by decide +kernel
theorem dX6_save_18 : decode cX6_save 18 = .ok (.iload_n 1, 1) := by decide +kernel
theorem dX6_save_19 : decode cX6_save 19 = .ok (.iaload, 1) := by decide +kernel
theorem dX6_save_20 : decode cX6_save 20 = .ok (.ifCond .ne 7, 3) := by decide +kernel
theorem dX6_save_23 : decode cX6_save 23 = .ok (.iconst 1, 1) := by decide +kernel
theorem dX6_save_24 : decode cX6_save 24 = .ok (.goto 4, 3) := by decide +kernel
theorem dX6_save_27 : decode cX6_save 27 = .ok (.iconst 0, 1) := by decide +kernel
theorem dX6_save_28 : decode cX6_save 28 = .ok (.iconst 1, 1) := by decide +kernel
theorem dX6_save_29 : decode cX6_save 29 = .ok (.invokevirtual 121, 3) := by decide +kernel
theorem dX6_save_32 : decode cX6_save 32 = .ok (.ifCond .eq 10, 3) := by decide +kernel
theorem dX6_save_35 : decode cX6_save 35 = .ok (.aload_n 0, 1) := by decide +kernel
theorem dX6_save_36 : decode cX6_save 36 = .ok (.getfield 79, 3) := by decide +kernel
theorem dX6_save_39 : decode cX6_save 39 = .ok (.iload_n 1, 1) := by decide +kernel
theorem dX6_save_40 : decode cX6_save 40 = .ok (.iconst 1, 1) := by decide +kernel
theorem dX6_save_41 : decode cX6_save 41 = .ok (.iastore, 1) := by decide +kernel
theorem dX6_save_42 : decode cX6_save 42 = .ok (.return_, 1) := by decide +kernel
theorem dX6_wake_0 : decode cX6_wake 0 = .ok (.aload_n 0, 1) := by decide +kernel
theorem dX6_wake_1 : decode cX6_wake 1 = .ok (.aload_n 0, 1) := by decide +kernel
theorem dX6_wake_2 : decode cX6_wake 2 = .ok (.iload_n 1, 1) := by decide +kernel
theorem dX6_wake_3 : decode cX6_wake 3 = .ok (.invokevirtual 180, 3) := by decide +kernel
theorem dX6_wake_6 : decode cX6_wake 6 = .ok (.aload_n 0, 1) := by decide +kernel
theorem dX6_wake_7 : decode cX6_wake 7 = .ok (.iload_n 1, 1) := by decide +kernel
theorem dX6_wake_8 : decode cX6_wake 8 = .ok (.invokevirtual 180, 3) := by decide +kernel
theorem dX6_wake_11 : decode cX6_wake 11 = .ok (.ifCond .eq 17, 3) := by decide +kernel
theorem dX6_wake_14 : decode cX6_wake 14 = .ok (.aload_n 0, 1) := by decide +kernel
theorem dX6_wake_15 : decode cX6_wake 15 = .ok (.getfield 79, 3) := by decide +kernel
theorem dX6_wake_18 : decode cX6_wake 18 = .ok (.iload_n 1, 1) := by decide +kernel
theorem dX6_wake_19 : decode cX6_wake 19 = .ok (.iaload, 1) := by decide +kernel
theorem dX6_wake_20 : decode cX6_wake 20 = .ok (.iconst 1, 1) := by decide +kernel
theorem dX6_wake_21 : decode cX6_wake 21 = .ok (.if_icmp .ne 7, 3) := by decide +kernel
theorem dX6_wake_24 : decode cX6_wake 24 = .ok (.iconst 1, 1) := by decide +kernel
theorem dX6_wake_25 : decode cX6_wake 25 = .ok (.goto 4, 3) := by decide +kernel
theorem dX6_wake_28 : decode cX6_wake 28 = .ok (.iconst 0, 1) := by decide +kernel
theorem dX6_wake_29 : decode cX6_wake 29 = .ok (.iconst 1, 1) := by decide +kernel
theorem dX6_wake_30 : decode cX6_wake 30 = .ok (.invokevirtual 121, 3) := by decide +kernel
theorem dX6_wake_33 : decode cX6_wake 33 = .ok (.ifCond .ne 5, 3) := by decide +kernel
theorem dX6_wake_36 : decode cX6_wake 36 = .ok (.iconst 0, 1) := by decide +kernel
theorem dX6_wake_37 : decode cX6_wake 37 = .ok (.ireturn, 1) := by decide +kernel
theorem dX6_wake_38 : decode cX6_wake 38 = .ok (.aload_n 0, 1) := by decide +kernel
theorem dX6_wake_39 : decode cX6_wake 39 = .ok (.getfield 58, 3) := by decide +kernel
theorem dX6_wake_42 : decode cX6_wake 42 = .ok (.iload_n 1, 1) := by decide +kernel
theorem dX6_wake_43 : decode cX6_wake 43 = .ok (.iaload, 1) := by decide +kernel
theorem dX6_wake_44 : decode cX6_wake 44 = .ok (.aload_n 0, 1) := by decide +kernel
theorem dX6_wake_45 : decode cX6_wake 45 = .ok (.getfield 28, 3) := by decide +kernel
theorem dX6_wake_48 : decode cX6_wake 48 = .ok (.aload_n 0, 1) := by decide +kernel
theorem dX6_wake_49 : decode cX6_wake 49 = .ok (.getfield 55, 3) := by decide +kernel
theorem dX6_wake_52 : decode cX6_wake 52 = .ok (.iload_n 1, 1) := by decide +kernel
theorem dX6_wake_53 : decode cX6_wake 53 = .ok (.iaload, 1) := by decide +kernel
theorem dX6_wake_54 : decode cX6_wake 54 = .ok (.iaload, 1) := by decide +kernel
theorem dX6_wake_55 : decode cX6_wake 55 = .ok (.iconst 1, 1) := by decide +kernel
theorem dX6_wake_56 : decode cX6_wake 56 = .ok (.isub, 1) := by decide +kernel
theorem dX6_wake_57 : decode cX6_wake 57 = .ok (.if_icmp .ge 7, 3) := by decide +kernel
theorem dX6_wake_60 : decode cX6_wake 60 = .ok (.iconst 1, 1) := by decide +kernel
theorem dX6_wake_61 : decode cX6_wake 61 = .ok (.goto 4, 3) := by decide +kernel
theorem dX6_wake_64 : decode cX6_wake 64 = .ok (.iconst 0, 1) := by decide +kernel
theorem dX6_wake_65 : decode cX6_wake 65 = .ok (.istore_n 2, 1) := by decide +kernel
theorem dX6_wake_66 : decode cX6_wake 66 = .ok (.iconst 0, 1) := by decide +kernel
theorem dX6_wake_67 : decode cX6_wake 67 = .ok (.istore_n 3, 1) := by decide +kernel
theorem dX6_wake_68 : decode cX6_wake 68 = .ok (.iload_n 3, 1) := by decide +kernel
theorem dX6_wake_69 : decode cX6_wake 69 = .ok (.aload_n 0, 1) := by decide +kernel
theorem dX6_wake_70 : decode cX6_wake 70 = .ok (.getfield 133, 3) := by decide +kernel
theorem dX6_wake_73 : decode cX6_wake 73 = .ok (.if_icmp .ge 74, 3) := by decide +kernel
theorem dX6_wake_76 : decode cX6_wake 76 = .ok (.aload_n 0, 1) := by decide +kernel
theorem dX6_wake_77 : decode cX6_wake 77 = .ok (.getfield 88, 3) := by decide +kernel
theorem dX6_wake_80 : decode cX6_wake 80 = .ok (.bipush 16, 2) := by decide +kernel
theorem dX6_wake_82 : decode cX6_wake 82 = .ok (.iload_n 1, 1) := by decide +kernel
theorem dX6_wake_83 : decode cX6_wake 83 = .ok (.imul, 1) := by decide +kernel
theorem dX6_wake_84 : decode cX6_wake 84 = .ok (.aload_n 0, 1) := by decide +kernel
theorem dX6_wake_85 : decode cX6_wake 85 = .ok (.getfield 97, 3) := by decide +kernel
theorem dX6_wake_88 : decode cX6_wake 88 = .ok (.iload_n 3, 1) := by decide +kernel
theorem dX6_wake_89 : decode cX6_wake 89 = .ok (.iaload, 1) := by decide +kernel
theorem dX6_wake_90 : decode cX6_wake 90 = .ok (.iadd, 1) := by decide +kernel
theorem dX6_wake_91 : decode cX6_wake 91 = .ok (.iaload, 1) := by decide +kernel
theorem dX6_wake_92 : decode cX6_wake 92 = .ok (.istore 4, 2) := by decide +kernel
theorem dX6_wake_94 : decode cX6_wake 94 = .ok (.iload_n 2, 1) := by decide +kernel
theorem dX6_wake_95 : decode cX6_wake 95 = .ok (.ifCond .ne 40, 3) := by decide +kernel
theorem dX6_wake_98 : decode cX6_wake 98 = .ok (.aload_n 0, 1) := by decide +kernel
theorem dX6_wake_99 : decode cX6_wake 99 = .ok (.getfield 94, 3) := by decide +kernel
theorem dX6_wake_102 : decode cX6_wake 102 = .ok (.iload_n 3, 1) := by decide +kernel
theorem dX6_wake_103 : decode cX6_wake 103 = .ok (.iaload, 1) := by decide +kernel
theorem dX6_wake_104 : decode cX6_wake 104 = .ok (.iload_n 1, 1) := by decide +kernel
theorem dX6_wake_105 : decode cX6_wake 105 = .ok (.if_icmp .ne 34, 3) := by decide +kernel
theorem dX6_wake_108 : decode cX6_wake 108 = .ok (.aload_n 0, 1) := by decide +kernel
theorem dX6_wake_109 : decode cX6_wake 109 = .ok (.getfield 100, 3) := by decide +kernel
theorem dX6_wake_112 : decode cX6_wake 112 = .ok (.iload_n 3, 1) := by decide +kernel
theorem dX6_wake_113 : decode cX6_wake 113 = .ok (.iaload, 1) := by decide +kernel
theorem dX6_wake_114 : decode cX6_wake 114 = .ok (.iload 4, 2) := by decide +kernel
theorem dX6_wake_116 : decode cX6_wake 116 = .ok (.if_icmp .ne 23, 3) := by decide +kernel
theorem dX6_wake_119 : decode cX6_wake 119 = .ok (.aload_n 0, 1) := by decide +kernel
theorem dX6_wake_120 : decode cX6_wake 120 = .ok (.getfield 46, 3) := by decide +kernel
theorem dX6_wake_123 : decode cX6_wake 123 = .ok (.aload_n 0, 1) := by decide +kernel
theorem dX6_wake_124 : decode cX6_wake 124 = .ok (.getfield 97, 3) := by decide +kernel
theorem dX6_wake_127 : decode cX6_wake 127 = .ok (.iload_n 3, 1) := by decide +kernel
theorem dX6_wake_128 : decode cX6_wake 128 = .ok (.iaload, 1) := by decide +kernel
theorem dX6_wake_129 : decode cX6_wake 129 = .ok (.iaload, 1) := by decide +kernel
theorem dX6_wake_130 : decode cX6_wake 130 = .ok (.iload 4, 2) := by decide +kernel
theorem dX6_wake_132 : decode cX6_wake 132 = .ok (.if_icmp .eq 7, 3) := by decide +kernel
theorem dX6_wake_135 : decode cX6_wake 135 = .ok (.iconst 1, 1) := by decide +kernel
theorem dX6_wake_136 : decode cX6_wake 136 = .ok (.goto 4, 3) := by decide +kernel
theorem dX6_wake_139 : decode cX6_wake 139 = .ok (.iconst 0, 1) := by decide +kernel
theorem dX6_wake_140 : decode cX6_wake 140 = .ok (.istore_n 2, 1) := by decide +kernel
theorem dX6_wake_141 : decode cX6_wake 141 = .ok (.iinc 3 1, 3) := by decide +kernel
theorem dX6_wake_144 : decode cX6_wake 144 = .ok (.goto (-76), 3) := by decide +kernel
theorem dX6_wake_147 : decode cX6_wake 147 = .ok (.aload_n 0, 1) := by decide +kernel
theorem dX6_wake_148 : decode cX6_wake 148 = .ok (.getfield 79, 3) := by decide +kernel
theorem dX6_wake_151 : decode cX6_wake 151 = .ok (.iload_n 1, 1) := by decide +kernel
theorem dX6_wake_152 : decode cX6_wake 152 = .ok (.iconst 0, 1) := by decide +kernel
theorem dX6_wake_153 : decode cX6_wake 153 = .ok (.iastore, 1) := by decide +kernel
theorem dX6_wake_154 : decode cX6_wake 154 = .ok (.iload_n 2, 1) := by decide +kernel
theorem dX6_wake_155 : decode cX6_wake 155 = .ok (.ifCond .eq 8, 3) := by decide +kernel
theorem dX6_wake_158 : decode cX6_wake 158 = .ok (.aload_n 0, 1) := by decide +kernel
theorem dX6_wake_159 : decode cX6_wake 159 = .ok (.iload_n 1, 1) := by decide +kernel
theorem dX6_wake_160 : decode cX6_wake 160 = .ok (.invokevirtual 177, 3) := by decide +kernel
theorem dX6_wake_163 : decode cX6_wake 163 = .ok (.iload_n 2, 1) := by decide +kernel
theorem dX6_wake_164 : decode cX6_wake 164 = .ok (.ireturn, 1) := by decide +kernel
theorem dX6_leave_0 : decode cX6_leave 0 = .ok (.aload_n 0, 1) := by decide +kernel
theorem dX6_leave_1 : decode cX6_leave 1 = .ok (.aload_n 0, 1) := by decide +kernel
theorem dX6_leave_2 : decode cX6_leave 2 = .ok (.iload_n 1, 1) := by decide +kernel
theorem dX6_leave_3 : decode cX6_leave 3 = .ok (.invokevirtual 180, 3) := by decide +kernel
theorem dX6_leave_6 : decode cX6_leave 6 = .ok (.aload_n 0, 1) := by decide +kernel
theorem dX6_leave_7 : decode cX6_leave 7 = .ok (.iload_n 1, 1) := by decide +kernel
theorem dX6_leave_8 : decode cX6_leave 8 = .ok (.invokevirtual 180, 3) := by decide +kernel
theorem dX6_leave_11 : decode cX6_leave 11 = .ok (.ifCond .eq 17, 3) := by decide +kernel
theorem dX6_leave_14 : decode cX6_leave 14 = .ok (.aload_n 0, 1) := by decide +kernel
theorem dX6_leave_15 : decode cX6_leave 15 = .ok (.getfield 79, 3) := by decide +kernel
theorem dX6_leave_18 : decode cX6_leave 18 = .ok (.iload_n 1, 1) := by decide +kernel
theorem dX6_leave_19 : decode cX6_leave 19 = .ok (.iaload, 1) := by decide +kernel
theorem dX6_leave_20 : decode cX6_leave 20 = .ok (.iconst 1, 1) := by decide +kernel
theorem dX6_leave_21 : decode cX6_leave 21 = .ok (.if_icmp .gt 7, 3) := by decide +kernel
theorem dX6_leave_24 : decode cX6_leave 24 = .ok (.iconst 1, 1) := by decide +kernel
theorem dX6_leave_25 : decode cX6_leave 25 = .ok (.goto 4, 3) := by decide +kernel
theorem dX6_leave_28 : decode cX6_leave 28 = .ok (.iconst 0, 1) := by decide +kernel
theorem dX6_leave_29 : decode cX6_leave 29 = .ok (.iconst 1, 1) := by decide +kernel
theorem dX6_leave_30 : decode cX6_leave 30 = .ok (.invokevirtual 121, 3) := by decide +kernel
theorem dX6_leave_33 : decode cX6_leave 33 = .ok (.ifCond .ne 5, 3) := by decide +kernel
theorem dX6_leave_36 : decode cX6_leave 36 = .ok (.iconst 0, 1) := by decide +kernel
theorem dX6_leave_37 : decode cX6_leave 37 = .ok (.ireturn, 1) := by decide +kernel
theorem dX6_leave_38 : decode cX6_leave 38 = .ok (.aload_n 0, 1) := by decide +kernel
theorem dX6_leave_39 : decode cX6_leave 39 = .ok (.getfield 79, 3) := by decide +kernel
theorem dX6_leave_42 : decode cX6_leave 42 = .ok (.iload_n 1, 1) := by decide +kernel
theorem dX6_leave_43 : decode cX6_leave 43 = .ok (.bipush 6, 2) := by decide +kernel
theorem dX6_leave_45 : decode cX6_leave 45 = .ok (.iastore, 1) := by decide +kernel
theorem dX6_leave_46 : decode cX6_leave 46 = .ok (.aload_n 0, 1) := by decide +kernel
theorem dX6_leave_47 : decode cX6_leave 47 = .ok (.getfield 85, 3) := by decide +kernel
theorem dX6_leave_50 : decode cX6_leave 50 = .ok (.iload_n 1, 1) := by decide +kernel
theorem dX6_leave_51 : decode cX6_leave 51 = .ok (.iaload, 1) := by decide +kernel
theorem dX6_leave_52 : decode cX6_leave 52 = .ok (.ireturn, 1) := by decide +kernel
theorem dX6_runs_0 : decode cX6_runs 0 = .ok (.aload_n 0, 1) := by decide +kernel
theorem dX6_runs_1 : decode cX6_runs 1 = .ok (.iconst 0, 1) := by decide +kernel
theorem dX6_runs_2 : decode cX6_runs 2 = .ok (.putfield 106, 3) := by decide +kernel
theorem dX6_runs_5 : decode cX6_runs 5 = .ok (.aload_n 0, 1) := by decide +kernel
theorem dX6_runs_6 : decode cX6_runs 6 = .ok (.getfield 174, 3) := by decide +kernel
theorem dX6_runs_9 : decode cX6_runs 9 = .ok (.ireturn, 1) := by decide +kernel
theorem dX6_state_0 : decode cX6_state 0 = .ok (.aload_n 0, 1) := by decide +kernel
theorem dX6_state_1 : decode cX6_state 1 = .ok (.aload_n 0, 1) := by decide +kernel
theorem dX6_state_2 : decode cX6_state 2 = .ok (.iload_n 1, 1) := by decide +kernel
theorem dX6_state_3 : decode cX6_state 3 = .ok (.invokevirtual 180, 3) := by decide +kernel
theorem dX6_state_6 : decode cX6_state 6 = .ok (.iconst 1, 1) := by decide +kernel
theorem dX6_state_7 : decode cX6_state 7 = .ok (.iconst 1, 1) := by decide +kernel
theorem dX6_state_8 : decode cX6_state 8 = .ok (.invokevirtual 121, 3) := by decide +kernel
theorem dX6_state_11 : decode cX6_state 11 = .ok (.ifCond .eq 12, 3) := by decide +kernel
theorem dX6_state_14 : decode cX6_state 14 = .ok (.aload_n 0, 1) := by decide +kernel
theorem dX6_state_15 : decode cX6_state 15 = .ok (.getfield 79, 3) := by decide +kernel
theorem dX6_state_18 : decode cX6_state 18 = .ok (.iload_n 1, 1) := by decide +kernel
theorem dX6_state_19 : decode cX6_state 19 = .ok (.iaload, 1) := by decide +kernel
theorem dX6_state_20 : decode cX6_state 20 = .ok (.goto 4, 3) := by decide +kernel
theorem dX6_state_23 : decode cX6_state 23 = .ok (.iconst 0, 1) := by decide +kernel
theorem dX6_state_24 : decode cX6_state 24 = .ok (.ireturn, 1) := by decide +kernel
theorem dX6_question_0 : decode cX6_question 0 = .ok (.aload_n 0, 1) := by decide +kernel
theorem dX6_question_1 : decode cX6_question 1 = .ok (.aload_n 0, 1) := by decide +kernel
theorem dX6_question_2 : decode cX6_question 2 = .ok (.iload_n 1, 1) := by decide +kernel
theorem dX6_question_3 : decode cX6_question 3 = .ok (.invokevirtual 180, 3) := by decide +kernel
theorem dX6_question_6 : decode cX6_question 6 = .ok (.iconst 1, 1) := by decide +kernel
theorem dX6_question_7 : decode cX6_question 7 = .ok (.iconst 1, 1) := by decide +kernel
theorem dX6_question_8 : decode cX6_question 8 = .ok (.invokevirtual 121, 3) := by decide +kernel
theorem dX6_question_11 : decode cX6_question 11 = .ok (.ifCond .ne 5, 3) := by decide +kernel
theorem dX6_question_14 : decode cX6_question 14 = .ok (.iconst 0, 1) := by decide +kernel
theorem dX6_question_15 : decode cX6_question 15 = .ok (.ireturn, 1) := by decide +kernel
theorem dX6_question_16 : decode cX6_question 16 = .ok (.aload_n 0, 1) := by decide +kernel
theorem dX6_question_17 : decode cX6_question 17 = .ok (.getfield 79, 3) := by decide +kernel
theorem dX6_question_20 : decode cX6_question 20 = .ok (.iload_n 1, 1) := by decide +kernel
theorem dX6_question_21 : decode cX6_question 21 = .ok (.iaload, 1) := by decide +kernel
theorem dX6_question_22 : decode cX6_question 22 = .ok (.iconst 1, 1) := by decide +kernel
theorem dX6_question_23 : decode cX6_question 23 = .ok (.if_icmp .le 14, 3) := by decide +kernel
theorem dX6_question_26 : decode cX6_question 26 = .ok (.aload_n 0, 1) := by decide +kernel
theorem dX6_question_27 : decode cX6_question 27 = .ok (.getfield 79, 3) := by decide +kernel
theorem dX6_question_30 : decode cX6_question 30 = .ok (.iload_n 1, 1) := by decide +kernel
theorem dX6_question_31 : decode cX6_question 31 = .ok (.iaload, 1) := by decide +kernel
theorem dX6_question_32 : decode cX6_question 32 = .ok (.bipush 6, 2) := by decide +kernel
theorem dX6_question_34 : decode cX6_question 34 = .ok (.if_icmp .ne 12, 3) := by decide +kernel
theorem dX6_question_37 : decode cX6_question 37 = .ok (.aload_n 0, 1) := by decide +kernel
theorem dX6_question_38 : decode cX6_question 38 = .ok (.getfield 82, 3) := by decide +kernel
theorem dX6_question_41 : decode cX6_question 41 = .ok (.iload_n 1, 1) := by decide +kernel
theorem dX6_question_42 : decode cX6_question 42 = .ok (.iaload, 1) := by decide +kernel
theorem dX6_question_43 : decode cX6_question 43 = .ok (.goto 4, 3) := by decide +kernel
theorem dX6_question_46 : decode cX6_question 46 = .ok (.iconst (-1), 1) := by decide +kernel
theorem dX6_question_47 : decode cX6_question 47 = .ok (.ireturn, 1) := by decide +kernel
theorem dX6_version_0 : decode cX6_version 0 = .ok (.aload_n 0, 1) := by decide +kernel
theorem dX6_version_1 : decode cX6_version 1 = .ok (.aload_n 0, 1) := by decide +kernel
theorem dX6_version_2 : decode cX6_version 2 = .ok (.iload_n 1, 1) := by decide +kernel
theorem dX6_version_3 : decode cX6_version 3 = .ok (.invokevirtual 180, 3) := by decide +kernel
theorem dX6_version_6 : decode cX6_version 6 = .ok (.iconst 1, 1) := by decide +kernel
theorem dX6_version_7 : decode cX6_version 7 = .ok (.iconst 1, 1) := by decide +kernel
theorem dX6_version_8 : decode cX6_version 8 = .ok (.invokevirtual 121, 3) := by decide +kernel
theorem dX6_version_11 : decode cX6_version 11 = .ok (.ifCond .eq 12, 3) := by decide +kernel
theorem dX6_version_14 : decode cX6_version 14 = .ok (.aload_n 0, 1) := by decide +kernel
theorem dX6_version_15 : decode cX6_version 15 = .ok (.getfield 58, 3) := by decide +kernel
theorem dX6_version_18 : decode cX6_version 18 = .ok (.iload_n 1, 1) := by decide +kernel
theorem dX6_version_19 : decode cX6_version 19 = .ok (.iaload, 1) := by decide +kernel
theorem dX6_version_20 : decode cX6_version 20 = .ok (.goto 4, 3) := by decide +kernel
theorem dX6_version_23 : decode cX6_version 23 = .ok (.iconst 0, 1) := by decide +kernel
theorem dX6_version_24 : decode cX6_version 24 = .ok (.ireturn, 1) := by decide +kernel
theorem dX6_fuel_0 : decode cX6_fuel 0 = .ok (.aload_n 0, 1) := by decide +kernel
theorem dX6_fuel_1 : decode cX6_fuel 1 = .ok (.aload_n 0, 1) := by decide +kernel
theorem dX6_fuel_2 : decode cX6_fuel 2 = .ok (.iload_n 1, 1) := by decide +kernel
theorem dX6_fuel_3 : decode cX6_fuel 3 = .ok (.invokevirtual 180, 3) := by decide +kernel
theorem dX6_fuel_6 : decode cX6_fuel 6 = .ok (.iconst 1, 1) := by decide +kernel
theorem dX6_fuel_7 : decode cX6_fuel 7 = .ok (.iconst 1, 1) := by decide +kernel
theorem dX6_fuel_8 : decode cX6_fuel 8 = .ok (.invokevirtual 121, 3) := by decide +kernel
theorem dX6_fuel_11 : decode cX6_fuel 11 = .ok (.ifCond .eq 12, 3) := by decide +kernel
theorem dX6_fuel_14 : decode cX6_fuel 14 = .ok (.aload_n 0, 1) := by decide +kernel
theorem dX6_fuel_15 : decode cX6_fuel 15 = .ok (.getfield 76, 3) := by decide +kernel
theorem dX6_fuel_18 : decode cX6_fuel 18 = .ok (.iload_n 1, 1) := by decide +kernel
theorem dX6_fuel_19 : decode cX6_fuel 19 = .ok (.iaload, 1) := by decide +kernel
theorem dX6_fuel_20 : decode cX6_fuel 20 = .ok (.goto 4, 3) := by decide +kernel
theorem dX6_fuel_23 : decode cX6_fuel 23 = .ok (.iconst 0, 1) := by decide +kernel
theorem dX6_fuel_24 : decode cX6_fuel 24 = .ok (.ireturn, 1) := by decide +kernel
theorem dX6_fuelAgain_0 : decode cX6_fuelAgain 0 = .ok (.aload_n 0, 1) := by decide +kernel
theorem dX6_fuelAgain_1 : decode cX6_fuelAgain 1 = .ok (.iload_n 1, 1) := by decide +kernel
theorem dX6_fuelAgain_2 : decode cX6_fuelAgain 2 = .ok (.invokevirtual 184, 3) := by decide +kernel
theorem dX6_fuelAgain_5 : decode cX6_fuelAgain 5 = .ok (.ireturn, 1) := by decide +kernel
theorem dX6_slot_0 : decode cX6_slot 0 = .ok (.aload_n 0, 1) := by decide +kernel
theorem dX6_slot_1 : decode cX6_slot 1 = .ok (.aload_n 0, 1) := by decide +kernel
theorem dX6_slot_2 : decode cX6_slot 2 = .ok (.iload_n 1, 1) := by decide +kernel
theorem dX6_slot_3 : decode cX6_slot 3 = .ok (.invokevirtual 180, 3) := by decide +kernel
theorem dX6_slot_6 : decode cX6_slot 6 = .ok (.ifCond .eq 16, 3) := by decide +kernel
theorem dX6_slot_9 : decode cX6_slot 9 = .ok (.iload_n 2, 1) := by decide +kernel
theorem dX6_slot_10 : decode cX6_slot 10 = .ok (.bipush 8, 2) := by decide +kernel
theorem dX6_slot_12 : decode cX6_slot 12 = .ok (.invokestatic 114, 3) := by decide +kernel
theorem dX6_slot_15 : decode cX6_slot 15 = .ok (.ifCond .eq 7, 3) := by decide +kernel
theorem dX6_slot_18 : decode cX6_slot 18 = .ok (.iconst 1, 1) := by decide +kernel
theorem dX6_slot_19 : decode cX6_slot 19 = .ok (.goto 4, 3) := by decide +kernel
theorem dX6_slot_22 : decode cX6_slot 22 = .ok (.iconst 0, 1) := by decide +kernel
theorem dX6_slot_23 : decode cX6_slot 23 = .ok (.iconst 1, 1) := by decide +kernel
theorem dX6_slot_24 : decode cX6_slot 24 = .ok (.iconst 1, 1) := by decide +kernel
theorem dX6_slot_25 : decode cX6_slot 25 = .ok (.invokevirtual 121, 3) := by decide +kernel
theorem dX6_slot_28 : decode cX6_slot 28 = .ok (.ifCond .eq 17, 3) := by decide +kernel
theorem dX6_slot_31 : decode cX6_slot 31 = .ok (.aload_n 0, 1) := by decide +kernel
theorem dX6_slot_32 : decode cX6_slot 32 = .ok (.getfield 70, 3) := by decide +kernel
theorem dX6_slot_35 : decode cX6_slot 35 = .ok (.bipush 8, 2) := by decide +kernel
theorem dX6_slot_37 : decode cX6_slot 37 = .ok (.iload_n 1, 1) := by decide +kernel
theorem dX6_slot_38 : decode cX6_slot 38 = .ok (.imul, 1) := by decide +kernel
theorem dX6_slot_39 : decode cX6_slot 39 = .ok (.iload_n 2, 1) := by decide +kernel
theorem dX6_slot_40 : decode cX6_slot 40 = .ok (.iadd, 1) := by decide +kernel
theorem dX6_slot_41 : decode cX6_slot 41 = .ok (.iaload, 1) := by decide +kernel
theorem dX6_slot_42 : decode cX6_slot 42 = .ok (.goto 4, 3) := by decide +kernel
theorem dX6_slot_45 : decode cX6_slot 45 = .ok (.iconst 0, 1) := by decide +kernel
theorem dX6_slot_46 : decode cX6_slot 46 = .ok (.ireturn, 1) := by decide +kernel
theorem dX6_slotAgain_0 : decode cX6_slotAgain 0 = .ok (.aload_n 0, 1) := by decide +kernel
theorem dX6_slotAgain_1 : decode cX6_slotAgain 1 = .ok (.iload_n 1, 1) := by decide +kernel
theorem dX6_slotAgain_2 : decode cX6_slotAgain 2 = .ok (.iload_n 2, 1) := by decide +kernel
theorem dX6_slotAgain_3 : decode cX6_slotAgain 3 = .ok (.invokevirtual 186, 3) := by decide +kernel
theorem dX6_slotAgain_6 : decode cX6_slotAgain 6 = .ok (.ireturn, 1) := by decide +kernel
theorem dX6_depth_0 : decode cX6_depth 0 = .ok (.aload_n 0, 1) := by decide +kernel
theorem dX6_depth_1 : decode cX6_depth 1 = .ok (.aload_n 0, 1) := by decide +kernel
theorem dX6_depth_2 : decode cX6_depth 2 = .ok (.iload_n 1, 1) := by decide +kernel
theorem dX6_depth_3 : decode cX6_depth 3 = .ok (.invokevirtual 180, 3) := by decide +kernel
theorem dX6_depth_6 : decode cX6_depth 6 = .ok (.iconst 1, 1) := by decide +kernel
theorem dX6_depth_7 : decode cX6_depth 7 = .ok (.iconst 1, 1) := by decide +kernel
theorem dX6_depth_8 : decode cX6_depth 8 = .ok (.invokevirtual 121, 3) := by decide +kernel
theorem dX6_depth_11 : decode cX6_depth 11 = .ok (.ifCond .eq 12, 3) := by decide +kernel
theorem dX6_depth_14 : decode cX6_depth 14 = .ok (.aload_n 0, 1) := by decide +kernel
theorem dX6_depth_15 : decode cX6_depth 15 = .ok (.getfield 67, 3) := by decide +kernel
theorem dX6_depth_18 : decode cX6_depth 18 = .ok (.iload_n 1, 1) := by decide +kernel
theorem dX6_depth_19 : decode cX6_depth 19 = .ok (.iaload, 1) := by decide +kernel
theorem dX6_depth_20 : decode cX6_depth 20 = .ok (.goto 4, 3) := by decide +kernel
theorem dX6_depth_23 : decode cX6_depth 23 = .ok (.iconst 0, 1) := by decide +kernel
theorem dX6_depth_24 : decode cX6_depth 24 = .ok (.ireturn, 1) := by decide +kernel
theorem dX6_countOf_0 : decode cX6_countOf 0 = .ok (.iconst 0, 1) := by decide +kernel
theorem dX6_countOf_1 : decode cX6_countOf 1 = .ok (.istore_n 2, 1) := by decide +kernel
theorem dX6_countOf_2 : decode cX6_countOf 2 = .ok (.iconst 0, 1) := by decide +kernel
theorem dX6_countOf_3 : decode cX6_countOf 3 = .ok (.istore_n 3, 1) := by decide +kernel
theorem dX6_countOf_4 : decode cX6_countOf 4 = .ok (.iload_n 3, 1) := by decide +kernel
theorem dX6_countOf_5 : decode cX6_countOf 5 = .ok (.aload_n 0, 1) := by decide +kernel
theorem dX6_countOf_6 : decode cX6_countOf 6 = .ok (.getfield 133, 3) := by decide +kernel
theorem dX6_countOf_9 : decode cX6_countOf 9 = .ok (.if_icmp .ge 27, 3) := by decide +kernel
theorem dX6_countOf_12 : decode cX6_countOf 12 = .ok (.iload_n 2, 1) := by decide +kernel
theorem dX6_countOf_13 : decode cX6_countOf 13 = .ok (.aload_n 0, 1) := by decide +kernel
theorem dX6_countOf_14 : decode cX6_countOf 14 = .ok (.getfield 94, 3) := by decide +kernel
theorem dX6_countOf_17 : decode cX6_countOf 17 = .ok (.iload_n 3, 1) := by decide +kernel
theorem dX6_countOf_18 : decode cX6_countOf 18 = .ok (.iaload, 1) := by decide +kernel
theorem dX6_countOf_19 : decode cX6_countOf 19 = .ok (.iload_n 1, 1) := by decide +kernel
theorem dX6_countOf_20 : decode cX6_countOf 20 = .ok (.if_icmp .ne 7, 3) := by decide +kernel
theorem dX6_countOf_23 : decode cX6_countOf 23 = .ok (.iconst 1, 1) := by decide +kernel
theorem dX6_countOf_24 : decode cX6_countOf 24 = .ok (.goto 4, 3) := by decide +kernel
theorem dX6_countOf_27 : decode cX6_countOf 27 = .ok (.iconst 0, 1) := by decide +kernel
theorem dX6_countOf_28 : decode cX6_countOf 28 = .ok (.iadd, 1) := by decide +kernel
theorem dX6_countOf_29 : decode cX6_countOf 29 = .ok (.istore_n 2, 1) := by decide +kernel
theorem dX6_countOf_30 : decode cX6_countOf 30 = .ok (.iinc 3 1, 3) := by decide +kernel
theorem dX6_countOf_33 : decode cX6_countOf 33 = .ok (.goto (-29), 3) := by decide +kernel
theorem dX6_countOf_36 : decode cX6_countOf 36 = .ok (.iload_n 2, 1) := by decide +kernel
theorem dX6_countOf_37 : decode cX6_countOf 37 = .ok (.ireturn, 1) := by decide +kernel
theorem dX6_answers_0 : decode cX6_answers 0 = .ok (.aload_n 0, 1) := by decide +kernel
theorem dX6_answers_1 : decode cX6_answers 1 = .ok (.aload_n 0, 1) := by decide +kernel
theorem dX6_answers_2 : decode cX6_answers 2 = .ok (.iload_n 1, 1) := by decide +kernel
theorem dX6_answers_3 : decode cX6_answers 3 = .ok (.invokevirtual 180, 3) := by decide +kernel
theorem dX6_answers_6 : decode cX6_answers 6 = .ok (.iconst 1, 1) := by decide +kernel
theorem dX6_answers_7 : decode cX6_answers 7 = .ok (.iconst 1, 1) := by decide +kernel
theorem dX6_answers_8 : decode cX6_answers 8 = .ok (.invokevirtual 121, 3) := by decide +kernel
theorem dX6_answers_11 : decode cX6_answers 11 = .ok (.ifCond .eq 11, 3) := by decide +kernel
theorem dX6_answers_14 : decode cX6_answers 14 = .ok (.aload_n 0, 1) := by decide +kernel
theorem dX6_answers_15 : decode cX6_answers 15 = .ok (.iload_n 1, 1) := by decide +kernel
theorem dX6_answers_16 : decode cX6_answers 16 = .ok (.invokevirtual 189, 3) := by decide +kernel
theorem dX6_answers_19 : decode cX6_answers 19 = .ok (.goto 4, 3) := by decide +kernel
theorem dX6_answers_22 : decode cX6_answers 22 = .ok (.iconst 0, 1) := by decide +kernel
theorem dX6_answers_23 : decode cX6_answers 23 = .ok (.ireturn, 1) := by decide +kernel
theorem dX6_answerAt_0 : decode cX6_answerAt 0 = .ok (.aload_n 0, 1) := by decide +kernel
theorem dX6_answerAt_1 : decode cX6_answerAt 1 = .ok (.aload_n 0, 1) := by decide +kernel
theorem dX6_answerAt_2 : decode cX6_answerAt 2 = .ok (.iload_n 1, 1) := by decide +kernel
theorem dX6_answerAt_3 : decode cX6_answerAt 3 = .ok (.invokevirtual 180, 3) := by decide +kernel
theorem dX6_answerAt_6 : decode cX6_answerAt 6 = .ok (.ifCond .eq 20, 3) := by decide +kernel
theorem dX6_answerAt_9 : decode cX6_answerAt 9 = .ok (.iload_n 2, 1) := by decide +kernel
theorem dX6_answerAt_10 : decode cX6_answerAt 10 = .ok (.ifCond .lt 16, 3) := by decide +kernel
theorem dX6_answerAt_13 : decode cX6_answerAt 13 = .ok (.iload_n 2, 1) := by decide +kernel
theorem dX6_answerAt_14 : decode cX6_answerAt 14 = .ok (.aload_n 0, 1) := by decide +kernel
theorem dX6_answerAt_15 : decode cX6_answerAt 15 = .ok (.iload_n 1, 1) := by decide +kernel
theorem dX6_answerAt_16 : decode cX6_answerAt 16 = .ok (.invokevirtual 189, 3) := by decide +kernel
theorem dX6_answerAt_19 : decode cX6_answerAt 19 = .ok (.if_icmp .ge 7, 3) := by decide +kernel
theorem dX6_answerAt_22 : decode cX6_answerAt 22 = .ok (.iconst 1, 1) := by decide +kernel
theorem dX6_answerAt_23 : decode cX6_answerAt 23 = .ok (.goto 4, 3) := by decide +kernel
theorem dX6_answerAt_26 : decode cX6_answerAt 26 = .ok (.iconst 0, 1) := by decide +kernel
theorem dX6_answerAt_27 : decode cX6_answerAt 27 = .ok (.iconst 1, 1) := by decide +kernel
theorem dX6_answerAt_28 : decode cX6_answerAt 28 = .ok (.iconst 1, 1) := by decide +kernel
theorem dX6_answerAt_29 : decode cX6_answerAt 29 = .ok (.invokevirtual 121, 3) := by decide +kernel
theorem dX6_answerAt_32 : decode cX6_answerAt 32 = .ok (.ifCond .ne 5, 3) := by decide +kernel
theorem dX6_answerAt_35 : decode cX6_answerAt 35 = .ok (.iconst 0, 1) := by decide +kernel
theorem dX6_answerAt_36 : decode cX6_answerAt 36 = .ok (.ireturn, 1) := by decide +kernel
theorem dX6_answerAt_37 : decode cX6_answerAt 37 = .ok (.iload_n 2, 1) := by decide +kernel
theorem dX6_answerAt_38 : decode cX6_answerAt 38 = .ok (.istore_n 3, 1) := by decide +kernel
theorem dX6_answerAt_39 : decode cX6_answerAt 39 = .ok (.iconst 0, 1) := by decide +kernel
theorem dX6_answerAt_40 : decode cX6_answerAt 40 = .ok (.istore 4, 2) := by decide +kernel
theorem dX6_answerAt_42 : decode cX6_answerAt 42 = .ok (.iconst 0, 1) := by decide +kernel
theorem dX6_answerAt_43 : decode cX6_answerAt 43 = .ok (.istore 5, 2) := by decide +kernel
theorem dX6_answerAt_45 : decode cX6_answerAt 45 = .ok (.iload 5, 2) := by decide +kernel
theorem dX6_answerAt_47 : decode cX6_answerAt 47 = .ok (.aload_n 0, 1) := by decide +kernel
theorem dX6_answerAt_48 : decode cX6_answerAt 48 = .ok (.getfield 133, 3) := by decide +kernel
theorem dX6_answerAt_51 : decode cX6_answerAt 51 = .ok (.if_icmp .ge 86, 3) := by decide +kernel
theorem dX6_answerAt_54 : decode cX6_answerAt 54 = .ok (.aload_n 0, 1) := by decide +kernel
theorem dX6_answerAt_55 : decode cX6_answerAt 55 = .ok (.getfield 94, 3) := by decide +kernel
theorem dX6_answerAt_58 : decode cX6_answerAt 58 = .ok (.iload 5, 2) := by decide +kernel
theorem dX6_answerAt_60 : decode cX6_answerAt 60 = .ok (.iaload, 1) := by decide +kernel
theorem dX6_answerAt_61 : decode cX6_answerAt 61 = .ok (.iload_n 1, 1) := by decide +kernel
theorem dX6_answerAt_62 : decode cX6_answerAt 62 = .ok (.if_icmp .ne 7, 3) := by decide +kernel
theorem dX6_answerAt_65 : decode cX6_answerAt 65 = .ok (.iconst 1, 1) := by decide +kernel
theorem dX6_answerAt_66 : decode cX6_answerAt 66 = .ok (.goto 4, 3) := by decide +kernel
theorem dX6_answerAt_69 : decode cX6_answerAt 69 = .ok (.iconst 0, 1) := by decide +kernel
theorem dX6_answerAt_70 : decode cX6_answerAt 70 = .ok (.istore 6, 2) := by decide +kernel
theorem dX6_answerAt_72 : decode cX6_answerAt 72 = .ok (.iload 6, 2) := by decide +kernel
theorem dX6_answerAt_74 : decode cX6_answerAt 74 = .ok (.ifCond .eq 40, 3) := by decide +kernel
theorem dX6_answerAt_77 : decode cX6_answerAt 77 = .ok (.iload_n 3, 1) := by decide +kernel
theorem dX6_answerAt_78 : decode cX6_answerAt 78 = .ok (.ifCond .ne 36, 3) := by decide +kernel
theorem dX6_answerAt_81 : decode cX6_answerAt 81 = .ok (.sipush 1000, 3) := by decide +kernel
theorem dX6_answerAt_84 : decode cX6_answerAt 84 = .ok (.aload_n 0, 1) := by decide +kernel
theorem dX6_answerAt_85 : decode cX6_answerAt 85 = .ok (.getfield 100, 3) := by decide +kernel
theorem dX6_answerAt_88 : decode cX6_answerAt 88 = .ok (.iload 5, 2) := by decide +kernel
theorem dX6_answerAt_90 : decode cX6_answerAt 90 = .ok (.iaload, 1) := by decide +kernel
theorem dX6_answerAt_91 : decode cX6_answerAt 91 = .ok (.imul, 1) := by decide +kernel
theorem dX6_answerAt_92 : decode cX6_answerAt 92 = .ok (.bipush 10, 2) := by decide +kernel
theorem dX6_answerAt_94 : decode cX6_answerAt 94 = .ok (.aload_n 0, 1) := by decide +kernel
theorem dX6_answerAt_95 : decode cX6_answerAt 95 = .ok (.getfield 97, 3) := by decide +kernel
theorem dX6_answerAt_98 : decode cX6_answerAt 98 = .ok (.iload 5, 2) := by decide +kernel
theorem dX6_answerAt_100 : decode cX6_answerAt 100 = .ok (.iaload, 1) := by decide +kernel
theorem dX6_answerAt_101 : decode cX6_answerAt 101 = .ok (.imul, 1) := by decide +kernel
theorem dX6_answerAt_102 : decode cX6_answerAt 102 = .ok (.iadd, 1) := by decide +kernel
theorem dX6_answerAt_103 : decode cX6_answerAt 103 = .ok (.aload_n 0, 1) := by decide +kernel
theorem dX6_answerAt_104 : decode cX6_answerAt 104 = .ok (.getfield 103, 3) := by decide +kernel
theorem dX6_answerAt_107 : decode cX6_answerAt 107 = .ok (.iload 5, 2) := by decide +kernel
theorem dX6_answerAt_109 : decode cX6_answerAt 109 = .ok (.iaload, 1) := by decide +kernel
theorem dX6_answerAt_110 : decode cX6_answerAt 110 = .ok (.iadd, 1) := by decide +kernel
theorem dX6_answerAt_111 : decode cX6_answerAt 111 = .ok (.goto 5, 3) := by decide +kernel
theorem dX6_answerAt_114 : decode cX6_answerAt 114 = .ok (.iload 4, 2) := by decide +kernel
theorem dX6_answerAt_116 : decode cX6_answerAt 116 = .ok (.istore 4, 2) := by decide +kernel
theorem dX6_answerAt_118 : decode cX6_answerAt 118 = .ok (.iload_n 3, 1) := by decide +kernel
theorem dX6_answerAt_119 : decode cX6_answerAt 119 = .ok (.iload 6, 2) := by decide +kernel
theorem dX6_answerAt_121 : decode cX6_answerAt 121 = .ok (.ifCond .eq 7, 3) := by decide +kernel
theorem dX6_answerAt_124 : decode cX6_answerAt 124 = .ok (.iconst 1, 1) := by decide +kernel
theorem dX6_answerAt_125 : decode cX6_answerAt 125 = .ok (.goto 4, 3) := by decide +kernel
theorem dX6_answerAt_128 : decode cX6_answerAt 128 = .ok (.iconst 0, 1) := by decide +kernel
theorem dX6_answerAt_129 : decode cX6_answerAt 129 = .ok (.isub, 1) := by decide +kernel
theorem dX6_answerAt_130 : decode cX6_answerAt 130 = .ok (.istore_n 3, 1) := by decide +kernel
theorem dX6_answerAt_131 : decode cX6_answerAt 131 = .ok (.iinc 5 1, 3) := by decide +kernel
theorem dX6_answerAt_134 : decode cX6_answerAt 134 = .ok (.goto (-89), 3) := by decide +kernel
theorem dX6_answerAt_137 : decode cX6_answerAt 137 = .ok (.iload 4, 2) := by decide +kernel
theorem dX6_answerAt_139 : decode cX6_answerAt 139 = .ok (.ireturn, 1) := by decide +kernel
theorem dX6_reward_0 : decode cX6_reward 0 = .ok (.aload_n 0, 1) := by decide +kernel
theorem dX6_reward_1 : decode cX6_reward 1 = .ok (.iload_n 1, 1) := by decide +kernel
theorem dX6_reward_2 : decode cX6_reward 2 = .ok (.bipush 16, 2) := by decide +kernel
theorem dX6_reward_4 : decode cX6_reward 4 = .ok (.invokestatic 114, 3) := by decide +kernel
theorem dX6_reward_7 : decode cX6_reward 7 = .ok (.iconst 1, 1) := by decide +kernel
theorem dX6_reward_8 : decode cX6_reward 8 = .ok (.iconst 1, 1) := by decide +kernel
theorem dX6_reward_9 : decode cX6_reward 9 = .ok (.invokevirtual 121, 3) := by decide +kernel
theorem dX6_reward_12 : decode cX6_reward 12 = .ok (.ifCond .eq 12, 3) := by decide +kernel
theorem dX6_reward_15 : decode cX6_reward 15 = .ok (.aload_n 0, 1) := by decide +kernel
theorem dX6_reward_16 : decode cX6_reward 16 = .ok (.getfield 49, 3) := by decide +kernel
theorem dX6_reward_19 : decode cX6_reward 19 = .ok (.iload_n 1, 1) := by decide +kernel
theorem dX6_reward_20 : decode cX6_reward 20 = .ok (.iaload, 1) := by decide +kernel
theorem dX6_reward_21 : decode cX6_reward 21 = .ok (.goto 4, 3) := by decide +kernel
theorem dX6_reward_24 : decode cX6_reward 24 = .ok (.iconst 0, 1) := by decide +kernel
theorem dX6_reward_25 : decode cX6_reward 25 = .ok (.ireturn, 1) := by decide +kernel
theorem dX6_budget_0 : decode cX6_budget 0 = .ok (.aload_n 0, 1) := by decide +kernel
theorem dX6_budget_1 : decode cX6_budget 1 = .ok (.iload_n 1, 1) := by decide +kernel
theorem dX6_budget_2 : decode cX6_budget 2 = .ok (.iconst 4, 1) := by decide +kernel
theorem dX6_budget_3 : decode cX6_budget 3 = .ok (.invokestatic 114, 3) := by decide +kernel
theorem dX6_budget_6 : decode cX6_budget 6 = .ok (.iconst 1, 1) := by decide +kernel
theorem dX6_budget_7 : decode cX6_budget 7 = .ok (.iconst 1, 1) := by decide +kernel
theorem dX6_budget_8 : decode cX6_budget 8 = .ok (.invokevirtual 121, 3) := by decide +kernel
theorem dX6_budget_11 : decode cX6_budget 11 = .ok (.ifCond .eq 12, 3) := by decide +kernel
theorem dX6_budget_14 : decode cX6_budget 14 = .ok (.aload_n 0, 1) := by decide +kernel
theorem dX6_budget_15 : decode cX6_budget 15 = .ok (.getfield 34, 3) := by decide +kernel
theorem dX6_budget_18 : decode cX6_budget 18 = .ok (.iload_n 1, 1) := by decide +kernel
theorem dX6_budget_19 : decode cX6_budget 19 = .ok (.iaload, 1) := by decide +kernel
theorem dX6_budget_20 : decode cX6_budget 20 = .ok (.goto 4, 3) := by decide +kernel
theorem dX6_budget_23 : decode cX6_budget 23 = .ok (.iconst 0, 1) := by decide +kernel
theorem dX6_budget_24 : decode cX6_budget 24 = .ok (.ireturn, 1) := by decide +kernel
theorem dX6_repaid_0 : decode cX6_repaid 0 = .ok (.aload_n 0, 1) := by decide +kernel
theorem dX6_repaid_1 : decode cX6_repaid 1 = .ok (.iconst 0, 1) := by decide +kernel
theorem dX6_repaid_2 : decode cX6_repaid 2 = .ok (.putfield 106, 3) := by decide +kernel
theorem dX6_repaid_5 : decode cX6_repaid 5 = .ok (.aload_n 0, 1) := by decide +kernel
theorem dX6_repaid_6 : decode cX6_repaid 6 = .ok (.getfield 126, 3) := by decide +kernel
theorem dX6_repaid_9 : decode cX6_repaid 9 = .ok (.ireturn, 1) := by decide +kernel
theorem dX6_done_0 : decode cX6_done 0 = .ok (.aload_n 0, 1) := by decide +kernel
theorem dX6_done_1 : decode cX6_done 1 = .ok (.iload_n 1, 1) := by decide +kernel
theorem dX6_done_2 : decode cX6_done 2 = .ok (.iconst 4, 1) := by decide +kernel
theorem dX6_done_3 : decode cX6_done 3 = .ok (.invokestatic 114, 3) := by decide +kernel
theorem dX6_done_6 : decode cX6_done 6 = .ok (.ifCond .eq 15, 3) := by decide +kernel
theorem dX6_done_9 : decode cX6_done 9 = .ok (.iload_n 2, 1) := by decide +kernel
theorem dX6_done_10 : decode cX6_done 10 = .ok (.iconst 4, 1) := by decide +kernel
theorem dX6_done_11 : decode cX6_done 11 = .ok (.invokestatic 114, 3) := by decide +kernel
theorem dX6_done_14 : decode cX6_done 14 = .ok (.ifCond .eq 7, 3) := by decide +kernel
theorem dX6_done_17 : decode cX6_done 17 = .ok (.iconst 1, 1) := by decide +kernel
theorem dX6_done_18 : decode cX6_done 18 = .ok (.goto 4, 3) := by decide +kernel
theorem dX6_done_21 : decode cX6_done 21 = .ok (.iconst 0, 1) := by decide +kernel
theorem dX6_done_22 : decode cX6_done 22 = .ok (.iconst 1, 1) := by decide +kernel
theorem dX6_done_23 : decode cX6_done 23 = .ok (.iconst 1, 1) := by decide +kernel
theorem dX6_done_24 : decode cX6_done 24 = .ok (.invokevirtual 121, 3) := by decide +kernel
theorem dX6_done_27 : decode cX6_done 27 = .ok (.ifCond .eq 16, 3) := by decide +kernel
theorem dX6_done_30 : decode cX6_done 30 = .ok (.aload_n 0, 1) := by decide +kernel
theorem dX6_done_31 : decode cX6_done 31 = .ok (.getfield 40, 3) := by decide +kernel
theorem dX6_done_34 : decode cX6_done 34 = .ok (.iconst 4, 1) := by decide +kernel
theorem dX6_done_35 : decode cX6_done 35 = .ok (.iload_n 1, 1) := by decide +kernel
theorem dX6_done_36 : decode cX6_done 36 = .ok (.imul, 1) := by decide +kernel
theorem dX6_done_37 : decode cX6_done 37 = .ok (.iload_n 2, 1) := by decide +kernel
theorem dX6_done_38 : decode cX6_done 38 = .ok (.iadd, 1) := by decide +kernel
theorem dX6_done_39 : decode cX6_done 39 = .ok (.iaload, 1) := by decide +kernel
theorem dX6_done_40 : decode cX6_done 40 = .ok (.goto 4, 3) := by decide +kernel
theorem dX6_done_43 : decode cX6_done 43 = .ok (.iconst 0, 1) := by decide +kernel
theorem dX6_done_44 : decode cX6_done 44 = .ok (.ireturn, 1) := by decide +kernel
theorem dJ9_max_7cf53_0 : decode cJ9_max_7cf53 0 = .ok (.iload_n 0, 1) := by decide +kernel
theorem dJ9_max_7cf53_1 : decode cJ9_max_7cf53 1 = .ok (.iload_n 1, 1) := by decide +kernel
theorem dJ9_max_7cf53_2 : decode cJ9_max_7cf53 2 = .ok (.if_icmp .lt 7, 3) := by decide +kernel
theorem dJ9_max_7cf53_5 : decode cJ9_max_7cf53 5 = .ok (.iload_n 0, 1) := by decide +kernel
theorem dJ9_max_7cf53_6 : decode cJ9_max_7cf53 6 = .ok (.goto 4, 3) := by decide +kernel
theorem dJ9_max_7cf53_9 : decode cJ9_max_7cf53 9 = .ok (.iload_n 1, 1) := by decide +kernel
theorem dJ9_max_7cf53_10 : decode cJ9_max_7cf53 10 = .ok (.ireturn, 1) := by decide +kernel
theorem dJ9_min_7cf53_0 : decode cJ9_min_7cf53 0 = .ok (.iload_n 0, 1) := by decide +kernel
theorem dJ9_min_7cf53_1 : decode cJ9_min_7cf53 1 = .ok (.iload_n 1, 1) := by decide +kernel
theorem dJ9_min_7cf53_2 : decode cJ9_min_7cf53 2 = .ok (.if_icmp .gt 7, 3) := by decide +kernel
theorem dJ9_min_7cf53_5 : decode cJ9_min_7cf53 5 = .ok (.iload_n 0, 1) := by decide +kernel
theorem dJ9_min_7cf53_6 : decode cJ9_min_7cf53 6 = .ok (.goto 4, 3) := by decide +kernel
theorem dJ9_min_7cf53_9 : decode cJ9_min_7cf53 9 = .ok (.iload_n 1, 1) := by decide +kernel
theorem dJ9_min_7cf53_10 : decode cJ9_min_7cf53 10 = .ok (.ireturn, 1) := by decide +kernel
theorem dJxa1e45_init_da8c8_0 : decode cJxa1e45_init_da8c8 0 = .ok (.aload_n 0, 1) := by decide +kernel
theorem dJxa1e45_init_da8c8_1 : decode cJxa1e45_init_da8c8 1 = .ok (.invokespecial 1, 3) := by decide +kernel
theorem dJxa1e45_init_da8c8_4 : decode cJxa1e45_init_da8c8 4 = .ok (.return_, 1) := by decide +kernel
theorem dJxc12de_init_da8c8_0 : decode cJxc12de_init_da8c8 0 = .ok (.aload_n 0, 1) := by decide +kernel
theorem dJxc12de_init_da8c8_1 : decode cJxc12de_init_da8c8 1 = .ok (.invokespecial 1, 3) := by decide +kernel
theorem dJxc12de_init_da8c8_4 : decode cJxc12de_init_da8c8 4 = .ok (.aload_n 0, 1) := by decide +kernel
theorem dJxc12de_init_da8c8_5 : decode cJxc12de_init_da8c8 5 = .ok (.iconst 0, 1) := by decide +kernel
theorem dJxc12de_init_da8c8_6 : decode cJxc12de_init_da8c8 6 = .ok (.putfield 7, 3) := by decide +kernel
theorem dJxc12de_init_da8c8_9 : decode cJxc12de_init_da8c8 9 = .ok (.return_, 1) := by decide +kernel
theorem dJx4a65c_init_da8c8_0 : decode cJx4a65c_init_da8c8 0 = .ok (.aload_n 0, 1) := by decide +kernel
theorem dJx4a65c_init_da8c8_1 : decode cJx4a65c_init_da8c8 1 = .ok (.invokespecial 1, 3) := by decide +kernel
theorem dJx4a65c_init_da8c8_4 : decode cJx4a65c_init_da8c8 4 = .ok (.aload_n 0, 1) := by decide +kernel
theorem dJx4a65c_init_da8c8_5 : decode cJx4a65c_init_da8c8 5 = .ok (.getstatic 39, 3) := by decide +kernel
theorem dJx4a65c_init_da8c8_8 : decode cJx4a65c_init_da8c8 8 = .ok (.putfield 9, 3) := by decide +kernel
theorem dJx4a65c_init_da8c8_11 : decode cJx4a65c_init_da8c8 11 = .ok (.return_, 1) := by decide +kernel
theorem dJx4a65c_grow_92f84_0 : decode cJx4a65c_grow_92f84 0 = .ok (.aload_n 0, 1) := by decide +kernel
theorem dJx4a65c_grow_92f84_1 : decode cJx4a65c_grow_92f84 1 = .ok (.getfield 9, 3) := by decide +kernel
theorem dJx4a65c_grow_92f84_4 : decode cJx4a65c_grow_92f84 4 = .ok (.arraylength, 1) := by decide +kernel
theorem dJx4a65c_grow_92f84_5 : decode cJx4a65c_grow_92f84 5 = .ok (.istore_n 2, 1) := by decide +kernel
theorem dJx4a65c_grow_92f84_6 : decode cJx4a65c_grow_92f84 6 = .ok (.iload_n 2, 1) := by decide +kernel
theorem dJx4a65c_grow_92f84_7 : decode cJx4a65c_grow_92f84 7 = .ok (.ifCond .gt 13, 3) := by decide +kernel
theorem dJx4a65c_grow_92f84_10 : decode cJx4a65c_grow_92f84 10 = .ok (.aload_n 0, 1) := by decide +kernel
theorem dJx4a65c_grow_92f84_11 : decode cJx4a65c_grow_92f84 11 = .ok (.getfield 9, 3) := by decide +kernel
theorem dJx4a65c_grow_92f84_14 : decode cJx4a65c_grow_92f84 14 = .ok (.getstatic 39, 3) := by decide +kernel
theorem dJx4a65c_grow_92f84_17 : decode cJx4a65c_grow_92f84 17 = .ok (.if_acmp .eq 28, 3) := by decide +kernel
theorem dJx4a65c_grow_92f84_20 : decode cJx4a65c_grow_92f84 20 = .ok (.iload_n 2, 1) := by decide +kernel
theorem dJx4a65c_grow_92f84_21 : decode cJx4a65c_grow_92f84 21 = .ok (.iload_n 1, 1) := by decide +kernel
theorem dJx4a65c_grow_92f84_22 : decode cJx4a65c_grow_92f84 22 = .ok (.iload_n 2, 1) := by decide +kernel
theorem dJx4a65c_grow_92f84_23 : decode cJx4a65c_grow_92f84 23 = .ok (.isub, 1) := by decide +kernel
theorem dJx4a65c_grow_92f84_24 : decode cJx4a65c_grow_92f84 24 = .ok (.iload_n 2, 1) := by decide +kernel
theorem dJx4a65c_grow_92f84_25 : decode cJx4a65c_grow_92f84 25 = .ok (.iconst 1, 1) := by decide +kernel
theorem dJx4a65c_grow_92f84_26 : decode cJx4a65c_grow_92f84 26 = .ok (.ishr, 1) := by decide +kernel
theorem dJx4a65c_grow_92f84_27 : decode cJx4a65c_grow_92f84 27 = .ok (.invokestatic 73, 3) := by decide +kernel
theorem dJx4a65c_grow_92f84_30 : decode cJx4a65c_grow_92f84 30 = .ok (.istore_n 3, 1) := by decide +kernel
theorem dJx4a65c_grow_92f84_31 : decode cJx4a65c_grow_92f84 31 = .ok (.aload_n 0, 1) := by decide +kernel
theorem dJx4a65c_grow_92f84_32 : decode cJx4a65c_grow_92f84 32 = .ok (.aload_n 0, 1) := by decide +kernel
theorem dJx4a65c_grow_92f84_33 : decode cJx4a65c_grow_92f84 33 = .ok (.getfield 9, 3) := by decide +kernel
theorem dJx4a65c_grow_92f84_36 : decode cJx4a65c_grow_92f84 36 = .ok (.iload_n 3, 1) := by decide +kernel
theorem dJx4a65c_grow_92f84_37 : decode cJx4a65c_grow_92f84 37 = .ok (.invokestatic 66, 3) := by decide +kernel
theorem dJx4a65c_grow_92f84_40 : decode cJx4a65c_grow_92f84 40 = .ok (.dup_x1, 1) := by decide +kernel
theorem dJx4a65c_grow_92f84_41 : decode cJx4a65c_grow_92f84 41 = .ok (.putfield 9, 3) := by decide +kernel
theorem dJx4a65c_grow_92f84_44 : decode cJx4a65c_grow_92f84 44 = .ok (.areturn, 1) := by decide +kernel
theorem dJx4a65c_grow_92f84_45 : decode cJx4a65c_grow_92f84 45 = .ok (.aload_n 0, 1) := by decide +kernel
theorem dJx4a65c_grow_92f84_46 : decode cJx4a65c_grow_92f84 46 = .ok (.bipush 10, 2) := by decide +kernel
theorem dJx4a65c_grow_92f84_48 : decode cJx4a65c_grow_92f84 48 = .ok (.iload_n 1, 1) := by decide +kernel
theorem dJx4a65c_grow_92f84_49 : decode cJx4a65c_grow_92f84 49 = .ok (.invokestatic 79, 3) := by decide +kernel
theorem dJx4a65c_grow_92f84_52 : decode cJx4a65c_grow_92f84 52 = .ok (.anewarray 7, 3) := by decide +kernel
theorem dJx4a65c_grow_92f84_55 : decode cJx4a65c_grow_92f84 55 = .ok (.dup_x1, 1) := by decide +kernel
theorem dJx4a65c_grow_92f84_56 : decode cJx4a65c_grow_92f84 56 = .ok (.putfield 9, 3) := by decide +kernel
theorem dJx4a65c_grow_92f84_59 : decode cJx4a65c_grow_92f84 59 = .ok (.areturn, 1) := by decide +kernel
theorem dJx4a65c_grow_d5877_0 : decode cJx4a65c_grow_d5877 0 = .ok (.aload_n 0, 1) := by decide +kernel
theorem dJx4a65c_grow_d5877_1 : decode cJx4a65c_grow_d5877 1 = .ok (.aload_n 0, 1) := by decide +kernel
theorem dJx4a65c_grow_d5877_2 : decode cJx4a65c_grow_d5877 2 = .ok (.getfield 48, 3) := by decide +kernel
theorem dJx4a65c_grow_d5877_5 : decode cJx4a65c_grow_d5877 5 = .ok (.iconst 1, 1) := by decide +kernel
theorem dJx4a65c_grow_d5877_6 : decode cJx4a65c_grow_d5877 6 = .ok (.iadd, 1) := by decide +kernel
theorem dJx4a65c_grow_d5877_7 : decode cJx4a65c_grow_d5877 7 = .ok (.invokevirtual 69, 3) := by decide +kernel
theorem dJx4a65c_grow_d5877_10 : decode cJx4a65c_grow_d5877 10 = .ok (.areturn, 1) := by decide +kernel
theorem dJx4a65c_size_8abf5_0 : decode cJx4a65c_size_8abf5 0 = .ok (.aload_n 0, 1) := by decide +kernel
theorem dJx4a65c_size_8abf5_1 : decode cJx4a65c_size_8abf5 1 = .ok (.getfield 48, 3) := by decide +kernel
theorem dJx4a65c_size_8abf5_4 : decode cJx4a65c_size_8abf5 4 = .ok (.ireturn, 1) := by decide +kernel
theorem dJx4a65c_elementData_915e3_0 : decode cJx4a65c_elementData_915e3 0 = .ok (.aload_n 0, 1) := by decide +kernel
theorem dJx4a65c_elementData_915e3_1 : decode cJx4a65c_elementData_915e3 1 = .ok (.getfield 9, 3) := by decide +kernel
theorem dJx4a65c_elementData_915e3_4 : decode cJx4a65c_elementData_915e3 4 = .ok (.iload_n 1, 1) := by decide +kernel
theorem dJx4a65c_elementData_915e3_5 : decode cJx4a65c_elementData_915e3 5 = .ok (.aaload, 1) := by decide +kernel
theorem dJx4a65c_elementData_915e3_6 : decode cJx4a65c_elementData_915e3 6 = .ok (.areturn, 1) := by decide +kernel
theorem dJx4a65c_get_915e3_0 : decode cJx4a65c_get_915e3 0 = .ok (.iload_n 1, 1) := by decide +kernel
theorem dJx4a65c_get_915e3_1 : decode cJx4a65c_get_915e3 1 = .ok (.aload_n 0, 1) := by decide +kernel
theorem dJx4a65c_get_915e3_2 : decode cJx4a65c_get_915e3 2 = .ok (.getfield 48, 3) := by decide +kernel
theorem dJx4a65c_get_915e3_5 : decode cJx4a65c_get_915e3 5 = .ok (.invokestatic 118, 3) := by decide +kernel
theorem dJx4a65c_get_915e3_8 : decode cJx4a65c_get_915e3 8 = .ok (.pop, 1) := by decide +kernel
theorem dJx4a65c_get_915e3_9 : decode cJx4a65c_get_915e3 9 = .ok (.aload_n 0, 1) := by decide +kernel
theorem dJx4a65c_get_915e3_10 : decode cJx4a65c_get_915e3 10 = .ok (.iload_n 1, 1) := by decide +kernel
theorem dJx4a65c_get_915e3_11 : decode cJx4a65c_get_915e3 11 = .ok (.invokevirtual 123, 3) := by decide +kernel
theorem dJx4a65c_get_915e3_14 : decode cJx4a65c_get_915e3 14 = .ok (.areturn, 1) := by decide +kernel
theorem dJx4a65c_add_72be8_0 : decode cJx4a65c_add_72be8 0 = .ok (.iload_n 3, 1) := by decide +kernel
theorem dJx4a65c_add_72be8_1 : decode cJx4a65c_add_72be8 1 = .ok (.aload_n 2, 1) := by decide +kernel
theorem dJx4a65c_add_72be8_2 : decode cJx4a65c_add_72be8 2 = .ok (.arraylength, 1) := by decide +kernel
theorem dJx4a65c_add_72be8_3 : decode cJx4a65c_add_72be8 3 = .ok (.if_icmp .ne 8, 3) := by decide +kernel
theorem dJx4a65c_add_72be8_6 : decode cJx4a65c_add_72be8 6 = .ok (.aload_n 0, 1) := by decide +kernel
theorem dJx4a65c_add_72be8_7 : decode cJx4a65c_add_72be8 7 = .ok (.invokevirtual 129, 3) := by decide +kernel
theorem dJx4a65c_add_72be8_10 : decode cJx4a65c_add_72be8 10 = .ok (.astore_n 2, 1) := by decide +kernel
theorem dJx4a65c_add_72be8_11 : decode cJx4a65c_add_72be8 11 = .ok (.aload_n 2, 1) := by decide +kernel
theorem dJx4a65c_add_72be8_12 : decode cJx4a65c_add_72be8 12 = .ok (.iload_n 3, 1) := by decide +kernel
theorem dJx4a65c_add_72be8_13 : decode cJx4a65c_add_72be8 13 = .ok (.aload_n 1, 1) := by decide +kernel
theorem dJx4a65c_add_72be8_14 : decode cJx4a65c_add_72be8 14 = .ok (.aastore, 1) := by decide +kernel
theorem dJx4a65c_add_72be8_15 : decode cJx4a65c_add_72be8 15 = .ok (.aload_n 0, 1) := by decide +kernel
theorem dJx4a65c_add_72be8_16 : decode cJx4a65c_add_72be8 16 = .ok (.iload_n 3, 1) := by decide +kernel
theorem dJx4a65c_add_72be8_17 : decode cJx4a65c_add_72be8 17 = .ok (.iconst 1, 1) := by decide +kernel
theorem dJx4a65c_add_72be8_18 : decode cJx4a65c_add_72be8 18 = .ok (.iadd, 1) := by decide +kernel
theorem dJx4a65c_add_72be8_19 : decode cJx4a65c_add_72be8 19 = .ok (.putfield 48, 3) := by decide +kernel
theorem dJx4a65c_add_72be8_22 : decode cJx4a65c_add_72be8 22 = .ok (.return_, 1) := by decide +kernel
theorem dJx4a65c_add_9ea2d_0 : decode cJx4a65c_add_9ea2d 0 = .ok (.aload_n 0, 1) := by decide +kernel
theorem dJx4a65c_add_9ea2d_1 : decode cJx4a65c_add_9ea2d 1 = .ok (.dup, 1) := by decide +kernel
theorem dJx4a65c_add_9ea2d_2 : decode cJx4a65c_add_9ea2d 2 = .ok (.getfield 63, 3) := by decide +kernel
theorem dJx4a65c_add_9ea2d_5 : decode cJx4a65c_add_9ea2d 5 = .ok (.iconst 1, 1) := by decide +kernel
theorem dJx4a65c_add_9ea2d_6 : decode cJx4a65c_add_9ea2d 6 = .ok (.iadd, 1) := by decide +kernel
theorem dJx4a65c_add_9ea2d_7 : decode cJx4a65c_add_9ea2d 7 = .ok (.putfield 63, 3) := by decide +kernel
theorem dJx4a65c_add_9ea2d_10 : decode cJx4a65c_add_9ea2d 10 = .ok (.aload_n 0, 1) := by decide +kernel
theorem dJx4a65c_add_9ea2d_11 : decode cJx4a65c_add_9ea2d 11 = .ok (.aload_n 1, 1) := by decide +kernel
theorem dJx4a65c_add_9ea2d_12 : decode cJx4a65c_add_9ea2d 12 = .ok (.aload_n 0, 1) := by decide +kernel
theorem dJx4a65c_add_9ea2d_13 : decode cJx4a65c_add_9ea2d 13 = .ok (.getfield 9, 3) := by decide +kernel
theorem dJx4a65c_add_9ea2d_16 : decode cJx4a65c_add_9ea2d 16 = .ok (.aload_n 0, 1) := by decide +kernel
theorem dJx4a65c_add_9ea2d_17 : decode cJx4a65c_add_9ea2d 17 = .ok (.getfield 48, 3) := by decide +kernel
theorem dJx4a65c_add_9ea2d_20 : decode cJx4a65c_add_9ea2d 20 = .ok (.invokevirtual 131, 3) := by decide +kernel
theorem dJx4a65c_add_9ea2d_23 : decode cJx4a65c_add_9ea2d 23 = .ok (.iconst 1, 1) := by decide +kernel
theorem dJx4a65c_add_9ea2d_24 : decode cJx4a65c_add_9ea2d 24 = .ok (.ireturn, 1) := by decide +kernel
theorem dJ7_copyOf_1904c_0 : decode cJ7_copyOf_1904c 0 = .ok (.aload_n 0, 1) := by decide +kernel
theorem dJ7_copyOf_1904c_1 : decode cJ7_copyOf_1904c 1 = .ok (.iload_n 1, 1) := by decide +kernel
theorem dJ7_copyOf_1904c_2 : decode cJ7_copyOf_1904c 2 = .ok (.aload_n 0, 1) := by decide +kernel
theorem dJ7_copyOf_1904c_3 : decode cJ7_copyOf_1904c 3 = .ok (.invokevirtual 86, 3) := by decide +kernel
theorem dJ7_copyOf_1904c_6 : decode cJ7_copyOf_1904c 6 = .ok (.invokestatic 300, 3) := by decide +kernel
theorem dJ7_copyOf_1904c_9 : decode cJ7_copyOf_1904c 9 = .ok (.areturn, 1) := by decide +kernel
theorem dJ7_copyOf_6403c_0 : decode cJ7_copyOf_6403c 0 = .ok (.aload_n 2, 1) := by decide +kernel
theorem dJ7_copyOf_6403c_1 : decode cJ7_copyOf_6403c 1 = .ok (.ldc 110, 2) := by decide +kernel
theorem dJ7_copyOf_6403c_3 : decode cJ7_copyOf_6403c 3 = .ok (.if_acmp .ne 10, 3) := by decide +kernel
theorem dJ7_copyOf_6403c_6 : decode cJ7_copyOf_6403c 6 = .ok (.iload_n 1, 1) := by decide +kernel
theorem dJ7_copyOf_6403c_7 : decode cJ7_copyOf_6403c 7 = .ok (.anewarray 2, 3) := by decide +kernel
theorem dJ7_copyOf_6403c_10 : decode cJ7_copyOf_6403c 10 = .ok (.goto 14, 3) := by decide +kernel
theorem dJ7_copyOf_6403c_13 : decode cJ7_copyOf_6403c 13 = .ok (.aload_n 2, 1) := by decide +kernel
theorem dJ7_copyOf_6403c_14 : decode cJ7_copyOf_6403c 14 = .ok (.invokevirtual 90, 3) := by decide +kernel
theorem dJ7_copyOf_6403c_17 : decode cJ7_copyOf_6403c 17 = .ok (.iload_n 1, 1) := by decide +kernel
theorem dJ7_copyOf_6403c_18 : decode cJ7_copyOf_6403c 18 = .ok (.invokestatic 95, 3) := by decide +kernel
theorem dJ7_copyOf_6403c_21 : decode cJ7_copyOf_6403c 21 = .ok (.checkcast 110, 3) := by decide +kernel
theorem dJ7_copyOf_6403c_24 : decode cJ7_copyOf_6403c 24 = .ok (.astore_n 3, 1) := by decide +kernel
theorem dJ7_copyOf_6403c_25 : decode cJ7_copyOf_6403c 25 = .ok (.aload_n 0, 1) := by decide +kernel
theorem dJ7_copyOf_6403c_26 : decode cJ7_copyOf_6403c 26 = .ok (.iconst 0, 1) := by decide +kernel
theorem dJ7_copyOf_6403c_27 : decode cJ7_copyOf_6403c 27 = .ok (.aload_n 3, 1) := by decide +kernel
theorem dJ7_copyOf_6403c_28 : decode cJ7_copyOf_6403c 28 = .ok (.iconst 0, 1) := by decide +kernel
theorem dJ7_copyOf_6403c_29 : decode cJ7_copyOf_6403c 29 = .ok (.aload_n 0, 1) := by decide +kernel
theorem dJ7_copyOf_6403c_30 : decode cJ7_copyOf_6403c 30 = .ok (.arraylength, 1) := by decide +kernel
theorem dJ7_copyOf_6403c_31 : decode cJ7_copyOf_6403c 31 = .ok (.iload_n 1, 1) := by decide +kernel
theorem dJ7_copyOf_6403c_32 : decode cJ7_copyOf_6403c 32 = .ok (.invokestatic 304, 3) := by decide +kernel
theorem dJ7_copyOf_6403c_35 : decode cJ7_copyOf_6403c 35 = .ok (.invokestatic 150, 3) := by decide +kernel
theorem dJ7_copyOf_6403c_38 : decode cJ7_copyOf_6403c 38 = .ok (.aload_n 3, 1) := by decide +kernel
theorem dJ7_copyOf_6403c_39 : decode cJ7_copyOf_6403c 39 = .ok (.areturn, 1) := by decide +kernel
theorem dJ15_checkIndex_7cf53_0 : decode cJ15_checkIndex_7cf53 0 = .ok (.iload_n 0, 1) := by decide +kernel
theorem dJ15_checkIndex_7cf53_1 : decode cJ15_checkIndex_7cf53 1 = .ok (.iload_n 1, 1) := by decide +kernel
theorem dJ15_checkIndex_7cf53_2 : decode cJ15_checkIndex_7cf53 2 = .ok (.aconst_null, 1) := by decide +kernel
theorem dJ15_checkIndex_7cf53_3 : decode cJ15_checkIndex_7cf53 3 = .ok (.invokestatic 105, 3) := by decide +kernel
theorem dJ15_checkIndex_7cf53_6 : decode cJ15_checkIndex_7cf53 6 = .ok (.ireturn, 1) := by decide +kernel
theorem dJ8_newLength_cabcc_0 : decode cJ8_newLength_cabcc 0 = .ok (.iload_n 0, 1) := by decide +kernel
theorem dJ8_newLength_cabcc_1 : decode cJ8_newLength_cabcc 1 = .ok (.iload_n 1, 1) := by decide +kernel
theorem dJ8_newLength_cabcc_2 : decode cJ8_newLength_cabcc 2 = .ok (.iload_n 2, 1) := by decide +kernel
theorem dJ8_newLength_cabcc_3 : decode cJ8_newLength_cabcc 3 = .ok (.invokestatic 194, 3) := by decide +kernel
theorem dJ8_newLength_cabcc_6 : decode cJ8_newLength_cabcc 6 = .ok (.iadd, 1) := by decide +kernel
theorem dJ8_newLength_cabcc_7 : decode cJ8_newLength_cabcc 7 = .ok (.istore_n 3, 1) := by decide +kernel
theorem dJ8_newLength_cabcc_8 : decode cJ8_newLength_cabcc 8 = .ok (.iconst 0, 1) := by decide +kernel
theorem dJ8_newLength_cabcc_9 : decode cJ8_newLength_cabcc 9 = .ok (.iload_n 3, 1) := by decide +kernel
theorem dJ8_newLength_cabcc_10 : decode cJ8_newLength_cabcc 10 = .ok (.if_icmp .ge 11, 3) := by decide +kernel
theorem dJ8_newLength_cabcc_13 : decode cJ8_newLength_cabcc 13 = .ok (.iload_n 3, 1) := by decide +kernel
theorem dJ8_newLength_cabcc_14 : decode cJ8_newLength_cabcc 14 = .ok (.ldc 200, 2) := by decide +kernel
theorem dJ8_newLength_cabcc_16 : decode cJ8_newLength_cabcc 16 = .ok (.if_icmp .gt 5, 3) := by decide +kernel
theorem dJ8_newLength_cabcc_19 : decode cJ8_newLength_cabcc 19 = .ok (.iload_n 3, 1) := by decide +kernel
theorem dJ8_newLength_cabcc_20 : decode cJ8_newLength_cabcc 20 = .ok (.ireturn, 1) := by decide +kernel
theorem dJ8_newLength_cabcc_21 : decode cJ8_newLength_cabcc 21 = .ok (.iload_n 0, 1) := by decide +kernel
theorem dJ8_newLength_cabcc_22 : decode cJ8_newLength_cabcc 22 = .ok (.iload_n 1, 1) := by decide +kernel
theorem dJ8_newLength_cabcc_23 : decode cJ8_newLength_cabcc 23 = .ok (.invokestatic 201, 3) := by decide +kernel
theorem dJ8_newLength_cabcc_26 : decode cJ8_newLength_cabcc 26 = .ok (.ireturn, 1) := by decide +kernel
theorem dJ8_hugeLength_7cf53_0 : decode cJ8_hugeLength_7cf53 0 = .ok (.iload_n 0, 1) := by decide +kernel
theorem dJ8_hugeLength_7cf53_1 : decode cJ8_hugeLength_7cf53 1 = .ok (.iload_n 1, 1) := by decide +kernel
theorem dJ8_hugeLength_7cf53_2 : decode cJ8_hugeLength_7cf53 2 = .ok (.iadd, 1) := by decide +kernel
theorem dJ8_hugeLength_7cf53_3 : decode cJ8_hugeLength_7cf53 3 = .ok (.istore_n 2, 1) := by decide +kernel
theorem dJ8_hugeLength_7cf53_4 : decode cJ8_hugeLength_7cf53 4 = .ok (.iload_n 2, 1) := by decide +kernel
theorem dJ8_hugeLength_7cf53_5 : decode cJ8_hugeLength_7cf53 5 = .ok (.ifCond .ge 44, 3) := by decide +kernel
theorem dJ8_hugeLength_7cf53_8 : decode cJ8_hugeLength_7cf53 8 = .ok (.new 204, 3) := by decide +kernel
theorem dJ8_hugeLength_7cf53_11 : decode cJ8_hugeLength_7cf53 11 = .ok (.dup, 1) := by decide +kernel
theorem dJ8_hugeLength_7cf53_12 : decode cJ8_hugeLength_7cf53 12 = .ok (.new 89, 3) := by decide +kernel
theorem dJ8_hugeLength_7cf53_15 : decode cJ8_hugeLength_7cf53 15 = .ok (.dup, 1) := by decide +kernel
theorem dJ8_hugeLength_7cf53_16 : decode cJ8_hugeLength_7cf53 16 = .ok (.invokespecial 91, 3) := by decide +kernel
theorem dJ8_hugeLength_7cf53_19 : decode cJ8_hugeLength_7cf53 19 = .ok (.ldc 206, 2) := by decide +kernel
theorem dJ8_hugeLength_7cf53_21 : decode cJ8_hugeLength_7cf53 21 = .ok (.invokevirtual 94, 3) := by decide +kernel
theorem dJ8_hugeLength_7cf53_24 : decode cJ8_hugeLength_7cf53 24 = .ok (.iload_n 0, 1) := by decide +kernel
theorem dJ8_hugeLength_7cf53_25 : decode cJ8_hugeLength_7cf53 25 = .ok (.invokevirtual 98, 3) := by decide +kernel
theorem dJ8_hugeLength_7cf53_28 : decode cJ8_hugeLength_7cf53 28 = .ok (.ldc 208, 2) := by decide +kernel
theorem dJ8_hugeLength_7cf53_30 : decode cJ8_hugeLength_7cf53 30 = .ok (.invokevirtual 94, 3) := by decide +kernel
theorem dJ8_hugeLength_7cf53_33 : decode cJ8_hugeLength_7cf53 33 = .ok (.iload_n 1, 1) := by decide +kernel
theorem dJ8_hugeLength_7cf53_34 : decode cJ8_hugeLength_7cf53 34 = .ok (.invokevirtual 98, 3) := by decide +kernel
theorem dJ8_hugeLength_7cf53_37 : decode cJ8_hugeLength_7cf53 37 = .ok (.ldc 210, 2) := by decide +kernel
theorem dJ8_hugeLength_7cf53_39 : decode cJ8_hugeLength_7cf53 39 = .ok (.invokevirtual 94, 3) := by decide +kernel
theorem dJ8_hugeLength_7cf53_42 : decode cJ8_hugeLength_7cf53 42 = .ok (.invokevirtual 101, 3) := by decide +kernel
theorem dJ8_hugeLength_7cf53_45 : decode cJ8_hugeLength_7cf53 45 = .ok (.invokespecial 212, 3) := by decide +kernel
theorem dJ8_hugeLength_7cf53_48 : decode cJ8_hugeLength_7cf53 48 = .ok (.athrow, 1) := by decide +kernel
theorem dJ8_hugeLength_7cf53_49 : decode cJ8_hugeLength_7cf53 49 = .ok (.iload_n 2, 1) := by decide +kernel
theorem dJ8_hugeLength_7cf53_50 : decode cJ8_hugeLength_7cf53 50 = .ok (.ldc 200, 2) := by decide +kernel
theorem dJ8_hugeLength_7cf53_52 : decode cJ8_hugeLength_7cf53 52 = .ok (.if_icmp .gt 6, 3) := by decide +kernel
theorem dJ8_hugeLength_7cf53_55 : decode cJ8_hugeLength_7cf53 55 = .ok (.ldc 200, 2) := by decide +kernel
theorem dJ8_hugeLength_7cf53_57 : decode cJ8_hugeLength_7cf53 57 = .ok (.ireturn, 1) := by decide +kernel
theorem dJ8_hugeLength_7cf53_58 : decode cJ8_hugeLength_7cf53 58 = .ok (.iload_n 2, 1) := by decide +kernel
theorem dJ8_hugeLength_7cf53_59 : decode cJ8_hugeLength_7cf53 59 = .ok (.ireturn, 1) := by decide +kernel
theorem dJ3_checkIndex_8e157_0 : decode cJ3_checkIndex_8e157 0 = .ok (.iload_n 0, 1) := by decide +kernel
theorem dJ3_checkIndex_8e157_1 : decode cJ3_checkIndex_8e157 1 = .ok (.ifCond .lt 8, 3) := by decide +kernel
theorem dJ3_checkIndex_8e157_4 : decode cJ3_checkIndex_8e157 4 = .ok (.iload_n 0, 1) := by decide +kernel
theorem dJ3_checkIndex_8e157_5 : decode cJ3_checkIndex_8e157 5 = .ok (.iload_n 1, 1) := by decide +kernel
theorem dJ3_checkIndex_8e157_6 : decode cJ3_checkIndex_8e157 6 = .ok (.if_icmp .lt 10, 3) := by decide +kernel
theorem dJ3_checkIndex_8e157_9 : decode cJ3_checkIndex_8e157 9 = .ok (.aload_n 2, 1) := by decide +kernel
theorem dJ3_checkIndex_8e157_10 : decode cJ3_checkIndex_8e157 10 = .ok (.iload_n 0, 1) := by decide +kernel
theorem dJ3_checkIndex_8e157_11 : decode cJ3_checkIndex_8e157 11 = .ok (.iload_n 1, 1) := by decide +kernel
theorem dJ3_checkIndex_8e157_12 : decode cJ3_checkIndex_8e157 12 = .ok (.invokestatic 95, 3) := by decide +kernel
theorem dJ3_checkIndex_8e157_15 : decode cJ3_checkIndex_8e157 15 = .ok (.athrow, 1) := by decide +kernel
theorem dJ3_checkIndex_8e157_16 : decode cJ3_checkIndex_8e157 16 = .ok (.iload_n 0, 1) := by decide +kernel
theorem dJ3_checkIndex_8e157_17 : decode cJ3_checkIndex_8e157 17 = .ok (.ireturn, 1) := by decide +kernel
theorem dL_write_0 : decode cL_write 0 = .ok (.aload 4, 2) := by decide +kernel
theorem dL_write_2 : decode cL_write 2 = .ok (.iconst 0, 1) := by decide +kernel
theorem dL_write_3 : decode cL_write 3 = .ok (.aload_n 0, 1) := by decide +kernel
theorem dL_write_4 : decode cL_write 4 = .ok (.iload_n 1, 1) := by decide +kernel
theorem dL_write_5 : decode cL_write 5 = .ok (.iload_n 2, 1) := by decide +kernel
theorem dL_write_6 : decode cL_write 6 = .ok (.iload_n 3, 1) := by decide +kernel
theorem dL_write_7 : decode cL_write 7 = .ok (.invokevirtual 7, 3) := by decide +kernel
theorem dL_write_10 : decode cL_write 10 = .ok (.i2l, 1) := by decide +kernel
theorem dL_write_11 : decode cL_write 11 = .ok (.lastore, 1) := by decide +kernel
theorem dL_write_12 : decode cL_write 12 = .ok (.goto 15, 3) := by decide +kernel
theorem dL_write_15 : decode cL_write 15 = .ok (.astore 5, 2) := by decide +kernel
theorem dL_write_17 : decode cL_write 17 = .ok (.iconst 1, 1) := by decide +kernel
theorem dL_write_18 : decode cL_write 18 = .ok (.ireturn, 1) := by decide +kernel
theorem dL_write_19 : decode cL_write 19 = .ok (.astore 5, 2) := by decide +kernel
theorem dL_write_21 : decode cL_write 21 = .ok (.iconst 2, 1) := by decide +kernel
theorem dL_write_22 : decode cL_write 22 = .ok (.ireturn, 1) := by decide +kernel
theorem dL_write_23 : decode cL_write 23 = .ok (.astore 5, 2) := by decide +kernel
theorem dL_write_25 : decode cL_write 25 = .ok (.iconst 3, 1) := by decide +kernel
theorem dL_write_26 : decode cL_write 26 = .ok (.ireturn, 1) := by decide +kernel
theorem dL_write_27 : decode cL_write 27 = .ok (.iconst 0, 1) := by decide +kernel
theorem dL_write_28 : decode cL_write 28 = .ok (.ireturn, 1) := by decide +kernel
theorem dL_publish_0 : decode cL_publish 0 = .ok (.aload_n 2, 1) := by decide +kernel
theorem dL_publish_1 : decode cL_publish 1 = .ok (.iconst 0, 1) := by decide +kernel
theorem dL_publish_2 : decode cL_publish 2 = .ok (.aload_n 0, 1) := by decide +kernel
theorem dL_publish_3 : decode cL_publish 3 = .ok (.iload_n 1, 1) := by decide +kernel
theorem dL_publish_4 : decode cL_publish 4 = .ok (.invokevirtual 19, 3) := by decide +kernel
theorem dL_publish_7 : decode cL_publish 7 = .ok (.i2l, 1) := by decide +kernel
theorem dL_publish_8 : decode cL_publish 8 = .ok (.lastore, 1) := by decide +kernel
theorem dL_publish_9 : decode cL_publish 9 = .ok (.goto 9, 3) := by decide +kernel
theorem dL_publish_12 : decode cL_publish 12 = .ok (.astore_n 3, 1) := by decide +kernel
theorem dL_publish_13 : decode cL_publish 13 = .ok (.iconst 1, 1) := by decide +kernel
theorem dL_publish_14 : decode cL_publish 14 = .ok (.ireturn, 1) := by decide +kernel
theorem dL_publish_15 : decode cL_publish 15 = .ok (.astore_n 3, 1) := by decide +kernel
theorem dL_publish_16 : decode cL_publish 16 = .ok (.iconst 2, 1) := by decide +kernel
theorem dL_publish_17 : decode cL_publish 17 = .ok (.ireturn, 1) := by decide +kernel
theorem dL_publish_18 : decode cL_publish 18 = .ok (.iconst 0, 1) := by decide +kernel
theorem dL_publish_19 : decode cL_publish 19 = .ok (.ireturn, 1) := by decide +kernel
theorem dL_setFuel_0 : decode cL_setFuel 0 = .ok (.aload_n 3, 1) := by decide +kernel
theorem dL_setFuel_1 : decode cL_setFuel 1 = .ok (.iconst 0, 1) := by decide +kernel
theorem dL_setFuel_2 : decode cL_setFuel 2 = .ok (.aload_n 0, 1) := by decide +kernel
theorem dL_setFuel_3 : decode cL_setFuel 3 = .ok (.iload_n 1, 1) := by decide +kernel
theorem dL_setFuel_4 : decode cL_setFuel 4 = .ok (.iload_n 2, 1) := by decide +kernel
theorem dL_setFuel_5 : decode cL_setFuel 5 = .ok (.invokevirtual 23, 3) := by decide +kernel
theorem dL_setFuel_8 : decode cL_setFuel 8 = .ok (.i2l, 1) := by decide +kernel
theorem dL_setFuel_9 : decode cL_setFuel 9 = .ok (.lastore, 1) := by decide +kernel
theorem dL_setFuel_10 : decode cL_setFuel 10 = .ok (.goto 11, 3) := by decide +kernel
theorem dL_setFuel_13 : decode cL_setFuel 13 = .ok (.astore 4, 2) := by decide +kernel
theorem dL_setFuel_15 : decode cL_setFuel 15 = .ok (.iconst 1, 1) := by decide +kernel
theorem dL_setFuel_16 : decode cL_setFuel 16 = .ok (.ireturn, 1) := by decide +kernel
theorem dL_setFuel_17 : decode cL_setFuel 17 = .ok (.astore 4, 2) := by decide +kernel
theorem dL_setFuel_19 : decode cL_setFuel 19 = .ok (.iconst 2, 1) := by decide +kernel
theorem dL_setFuel_20 : decode cL_setFuel 20 = .ok (.ireturn, 1) := by decide +kernel
theorem dL_setFuel_21 : decode cL_setFuel 21 = .ok (.iconst 0, 1) := by decide +kernel
theorem dL_setFuel_22 : decode cL_setFuel 22 = .ok (.ireturn, 1) := by decide +kernel
theorem dL_fund_0 : decode cL_fund 0 = .ok (.aload_n 3, 1) := by decide +kernel
theorem dL_fund_1 : decode cL_fund 1 = .ok (.iconst 0, 1) := by decide +kernel
theorem dL_fund_2 : decode cL_fund 2 = .ok (.aload_n 0, 1) := by decide +kernel
theorem dL_fund_3 : decode cL_fund 3 = .ok (.iload_n 1, 1) := by decide +kernel
theorem dL_fund_4 : decode cL_fund 4 = .ok (.iload_n 2, 1) := by decide +kernel
theorem dL_fund_5 : decode cL_fund 5 = .ok (.invokevirtual 27, 3) := by decide +kernel
theorem dL_fund_8 : decode cL_fund 8 = .ok (.i2l, 1) := by decide +kernel
theorem dL_fund_9 : decode cL_fund 9 = .ok (.lastore, 1) := by decide +kernel
theorem dL_fund_10 : decode cL_fund 10 = .ok (.goto 11, 3) := by decide +kernel
theorem dL_fund_13 : decode cL_fund 13 = .ok (.astore 4, 2) := by decide +kernel
theorem dL_fund_15 : decode cL_fund 15 = .ok (.iconst 1, 1) := by decide +kernel
theorem dL_fund_16 : decode cL_fund 16 = .ok (.ireturn, 1) := by decide +kernel
theorem dL_fund_17 : decode cL_fund 17 = .ok (.astore 4, 2) := by decide +kernel
theorem dL_fund_19 : decode cL_fund 19 = .ok (.iconst 2, 1) := by decide +kernel
theorem dL_fund_20 : decode cL_fund 20 = .ok (.ireturn, 1) := by decide +kernel
theorem dL_fund_21 : decode cL_fund 21 = .ok (.iconst 0, 1) := by decide +kernel
theorem dL_fund_22 : decode cL_fund 22 = .ok (.ireturn, 1) := by decide +kernel
theorem dL_setQuota_0 : decode cL_setQuota 0 = .ok (.aload 4, 2) := by decide +kernel
theorem dL_setQuota_2 : decode cL_setQuota 2 = .ok (.iconst 0, 1) := by decide +kernel
theorem dL_setQuota_3 : decode cL_setQuota 3 = .ok (.aload_n 0, 1) := by decide +kernel
theorem dL_setQuota_4 : decode cL_setQuota 4 = .ok (.iload_n 1, 1) := by decide +kernel
theorem dL_setQuota_5 : decode cL_setQuota 5 = .ok (.iload_n 2, 1) := by decide +kernel
theorem dL_setQuota_6 : decode cL_setQuota 6 = .ok (.iload_n 3, 1) := by decide +kernel
theorem dL_setQuota_7 : decode cL_setQuota 7 = .ok (.invokevirtual 30, 3) := by decide +kernel
theorem dL_setQuota_10 : decode cL_setQuota 10 = .ok (.i2l, 1) := by decide +kernel
theorem dL_setQuota_11 : decode cL_setQuota 11 = .ok (.lastore, 1) := by decide +kernel
theorem dL_setQuota_12 : decode cL_setQuota 12 = .ok (.goto 11, 3) := by decide +kernel
theorem dL_setQuota_15 : decode cL_setQuota 15 = .ok (.astore 5, 2) := by decide +kernel
theorem dL_setQuota_17 : decode cL_setQuota 17 = .ok (.iconst 1, 1) := by decide +kernel
theorem dL_setQuota_18 : decode cL_setQuota 18 = .ok (.ireturn, 1) := by decide +kernel
theorem dL_setQuota_19 : decode cL_setQuota 19 = .ok (.astore 5, 2) := by decide +kernel
theorem dL_setQuota_21 : decode cL_setQuota 21 = .ok (.iconst 2, 1) := by decide +kernel
theorem dL_setQuota_22 : decode cL_setQuota 22 = .ok (.ireturn, 1) := by decide +kernel
theorem dL_setQuota_23 : decode cL_setQuota 23 = .ok (.iconst 0, 1) := by decide +kernel
theorem dL_setQuota_24 : decode cL_setQuota 24 = .ok (.ireturn, 1) := by decide +kernel
theorem dL_setPrice_0 : decode cL_setPrice 0 = .ok (.aload_n 3, 1) := by decide +kernel
theorem dL_setPrice_1 : decode cL_setPrice 1 = .ok (.iconst 0, 1) := by decide +kernel
theorem dL_setPrice_2 : decode cL_setPrice 2 = .ok (.aload_n 0, 1) := by decide +kernel
theorem dL_setPrice_3 : decode cL_setPrice 3 = .ok (.iload_n 1, 1) := by decide +kernel
theorem dL_setPrice_4 : decode cL_setPrice 4 = .ok (.iload_n 2, 1) := by decide +kernel
theorem dL_setPrice_5 : decode cL_setPrice 5 = .ok (.invokevirtual 33, 3) := by decide +kernel
theorem dL_setPrice_8 : decode cL_setPrice 8 = .ok (.i2l, 1) := by decide +kernel
theorem dL_setPrice_9 : decode cL_setPrice 9 = .ok (.lastore, 1) := by decide +kernel
theorem dL_setPrice_10 : decode cL_setPrice 10 = .ok (.goto 11, 3) := by decide +kernel
theorem dL_setPrice_13 : decode cL_setPrice 13 = .ok (.astore 4, 2) := by decide +kernel
theorem dL_setPrice_15 : decode cL_setPrice 15 = .ok (.iconst 1, 1) := by decide +kernel
theorem dL_setPrice_16 : decode cL_setPrice 16 = .ok (.ireturn, 1) := by decide +kernel
theorem dL_setPrice_17 : decode cL_setPrice 17 = .ok (.astore 4, 2) := by decide +kernel
theorem dL_setPrice_19 : decode cL_setPrice 19 = .ok (.iconst 2, 1) := by decide +kernel
theorem dL_setPrice_20 : decode cL_setPrice 20 = .ok (.ireturn, 1) := by decide +kernel
theorem dL_setPrice_21 : decode cL_setPrice 21 = .ok (.iconst 0, 1) := by decide +kernel
theorem dL_setPrice_22 : decode cL_setPrice 22 = .ok (.ireturn, 1) := by decide +kernel
theorem dL_reword_0 : decode cL_reword 0 = .ok (.aload_n 2, 1) := by decide +kernel
theorem dL_reword_1 : decode cL_reword 1 = .ok (.iconst 0, 1) := by decide +kernel
theorem dL_reword_2 : decode cL_reword 2 = .ok (.aload_n 0, 1) := by decide +kernel
theorem dL_reword_3 : decode cL_reword 3 = .ok (.iload_n 1, 1) := by decide +kernel
theorem dL_reword_4 : decode cL_reword 4 = .ok (.invokevirtual 36, 3) := by decide +kernel
theorem dL_reword_7 : decode cL_reword 7 = .ok (.i2l, 1) := by decide +kernel
theorem dL_reword_8 : decode cL_reword 8 = .ok (.lastore, 1) := by decide +kernel
theorem dL_reword_9 : decode cL_reword 9 = .ok (.goto 6, 3) := by decide +kernel
theorem dL_reword_12 : decode cL_reword 12 = .ok (.astore_n 3, 1) := by decide +kernel
theorem dL_reword_13 : decode cL_reword 13 = .ok (.iconst 1, 1) := by decide +kernel
theorem dL_reword_14 : decode cL_reword 14 = .ok (.ireturn, 1) := by decide +kernel
theorem dL_reword_15 : decode cL_reword 15 = .ok (.iconst 0, 1) := by decide +kernel
theorem dL_reword_16 : decode cL_reword 16 = .ok (.ireturn, 1) := by decide +kernel
theorem dL_begin_0 : decode cL_begin 0 = .ok (.aload_n 3, 1) := by decide +kernel
theorem dL_begin_1 : decode cL_begin 1 = .ok (.iconst 0, 1) := by decide +kernel
theorem dL_begin_2 : decode cL_begin 2 = .ok (.aload_n 0, 1) := by decide +kernel
theorem dL_begin_3 : decode cL_begin 3 = .ok (.iload_n 1, 1) := by decide +kernel
theorem dL_begin_4 : decode cL_begin 4 = .ok (.iload_n 2, 1) := by decide +kernel
theorem dL_begin_5 : decode cL_begin 5 = .ok (.invokevirtual 39, 3) := by decide +kernel
theorem dL_begin_8 : decode cL_begin 8 = .ok (.i2l, 1) := by decide +kernel
theorem dL_begin_9 : decode cL_begin 9 = .ok (.lastore, 1) := by decide +kernel
theorem dL_begin_10 : decode cL_begin 10 = .ok (.goto 11, 3) := by decide +kernel
theorem dL_begin_13 : decode cL_begin 13 = .ok (.astore 4, 2) := by decide +kernel
theorem dL_begin_15 : decode cL_begin 15 = .ok (.iconst 1, 1) := by decide +kernel
theorem dL_begin_16 : decode cL_begin 16 = .ok (.ireturn, 1) := by decide +kernel
theorem dL_begin_17 : decode cL_begin 17 = .ok (.astore 4, 2) := by decide +kernel
theorem dL_begin_19 : decode cL_begin 19 = .ok (.iconst 2, 1) := by decide +kernel
theorem dL_begin_20 : decode cL_begin 20 = .ok (.ireturn, 1) := by decide +kernel
theorem dL_begin_21 : decode cL_begin 21 = .ok (.iconst 0, 1) := by decide +kernel
theorem dL_begin_22 : decode cL_begin 22 = .ok (.ireturn, 1) := by decide +kernel
theorem dL_answer_0 : decode cL_answer 0 = .ok (.aload_n 3, 1) := by decide +kernel
theorem dL_answer_1 : decode cL_answer 1 = .ok (.iconst 0, 1) := by decide +kernel
theorem dL_answer_2 : decode cL_answer 2 = .ok (.aload_n 0, 1) := by decide +kernel
theorem dL_answer_3 : decode cL_answer 3 = .ok (.iload_n 1, 1) := by decide +kernel
theorem dL_answer_4 : decode cL_answer 4 = .ok (.iload_n 2, 1) := by decide +kernel
theorem dL_answer_5 : decode cL_answer 5 = .ok (.invokevirtual 42, 3) := by decide +kernel
theorem dL_answer_8 : decode cL_answer 8 = .ok (.i2l, 1) := by decide +kernel
theorem dL_answer_9 : decode cL_answer 9 = .ok (.lastore, 1) := by decide +kernel
theorem dL_answer_10 : decode cL_answer 10 = .ok (.goto 15, 3) := by decide +kernel
theorem dL_answer_13 : decode cL_answer 13 = .ok (.astore 4, 2) := by decide +kernel
theorem dL_answer_15 : decode cL_answer 15 = .ok (.iconst 1, 1) := by decide +kernel
theorem dL_answer_16 : decode cL_answer 16 = .ok (.ireturn, 1) := by decide +kernel
theorem dL_answer_17 : decode cL_answer 17 = .ok (.astore 4, 2) := by decide +kernel
theorem dL_answer_19 : decode cL_answer 19 = .ok (.iconst 2, 1) := by decide +kernel
theorem dL_answer_20 : decode cL_answer 20 = .ok (.ireturn, 1) := by decide +kernel
theorem dL_answer_21 : decode cL_answer 21 = .ok (.astore 4, 2) := by decide +kernel
theorem dL_answer_23 : decode cL_answer 23 = .ok (.iconst 3, 1) := by decide +kernel
theorem dL_answer_24 : decode cL_answer 24 = .ok (.ireturn, 1) := by decide +kernel
theorem dL_answer_25 : decode cL_answer 25 = .ok (.iconst 0, 1) := by decide +kernel
theorem dL_answer_26 : decode cL_answer 26 = .ok (.ireturn, 1) := by decide +kernel
theorem dL_save_0 : decode cL_save 0 = .ok (.aload_n 0, 1) := by decide +kernel
theorem dL_save_1 : decode cL_save 1 = .ok (.iload_n 1, 1) := by decide +kernel
theorem dL_save_2 : decode cL_save 2 = .ok (.invokevirtual 45, 3) := by decide +kernel
theorem dL_save_5 : decode cL_save 5 = .ok (.goto 9, 3) := by decide +kernel
theorem dL_save_8 : decode cL_save 8 = .ok (.astore_n 2, 1) := by decide +kernel
theorem dL_save_9 : decode cL_save 9 = .ok (.iconst 1, 1) := by decide +kernel
theorem dL_save_10 : decode cL_save 10 = .ok (.ireturn, 1) := by decide +kernel
theorem dL_save_11 : decode cL_save 11 = .ok (.astore_n 2, 1) := by decide +kernel
theorem dL_save_12 : decode cL_save 12 = .ok (.iconst 2, 1) := by decide +kernel
theorem dL_save_13 : decode cL_save 13 = .ok (.ireturn, 1) := by decide +kernel
theorem dL_save_14 : decode cL_save 14 = .ok (.iconst 0, 1) := by decide +kernel
theorem dL_save_15 : decode cL_save 15 = .ok (.ireturn, 1) := by decide +kernel
theorem dL_wake_0 : decode cL_wake 0 = .ok (.aload_n 2, 1) := by decide +kernel
theorem dL_wake_1 : decode cL_wake 1 = .ok (.iconst 0, 1) := by decide +kernel
theorem dL_wake_2 : decode cL_wake 2 = .ok (.aload_n 0, 1) := by decide +kernel
theorem dL_wake_3 : decode cL_wake 3 = .ok (.iload_n 1, 1) := by decide +kernel
theorem dL_wake_4 : decode cL_wake 4 = .ok (.invokevirtual 49, 3) := by decide +kernel
theorem dL_wake_7 : decode cL_wake 7 = .ok (.ifCond .eq 7, 3) := by decide +kernel
theorem dL_wake_10 : decode cL_wake 10 = .ok (.lconst 1, 1) := by decide +kernel
theorem dL_wake_11 : decode cL_wake 11 = .ok (.goto 4, 3) := by decide +kernel
theorem dL_wake_14 : decode cL_wake 14 = .ok (.lconst 0, 1) := by decide +kernel
theorem dL_wake_15 : decode cL_wake 15 = .ok (.lastore, 1) := by decide +kernel
theorem dL_wake_16 : decode cL_wake 16 = .ok (.goto 9, 3) := by decide +kernel
theorem dL_wake_19 : decode cL_wake 19 = .ok (.astore_n 3, 1) := by decide +kernel
theorem dL_wake_20 : decode cL_wake 20 = .ok (.iconst 1, 1) := by decide +kernel
theorem dL_wake_21 : decode cL_wake 21 = .ok (.ireturn, 1) := by decide +kernel
theorem dL_wake_22 : decode cL_wake 22 = .ok (.astore_n 3, 1) := by decide +kernel
theorem dL_wake_23 : decode cL_wake 23 = .ok (.iconst 2, 1) := by decide +kernel
theorem dL_wake_24 : decode cL_wake 24 = .ok (.ireturn, 1) := by decide +kernel
theorem dL_wake_25 : decode cL_wake 25 = .ok (.iconst 0, 1) := by decide +kernel
theorem dL_wake_26 : decode cL_wake 26 = .ok (.ireturn, 1) := by decide +kernel
theorem dL_leave_0 : decode cL_leave 0 = .ok (.aload_n 2, 1) := by decide +kernel
theorem dL_leave_1 : decode cL_leave 1 = .ok (.iconst 0, 1) := by decide +kernel
theorem dL_leave_2 : decode cL_leave 2 = .ok (.aload_n 0, 1) := by decide +kernel
theorem dL_leave_3 : decode cL_leave 3 = .ok (.iload_n 1, 1) := by decide +kernel
theorem dL_leave_4 : decode cL_leave 4 = .ok (.invokevirtual 53, 3) := by decide +kernel
theorem dL_leave_7 : decode cL_leave 7 = .ok (.i2l, 1) := by decide +kernel
theorem dL_leave_8 : decode cL_leave 8 = .ok (.lastore, 1) := by decide +kernel
theorem dL_leave_9 : decode cL_leave 9 = .ok (.goto 9, 3) := by decide +kernel
theorem dL_leave_12 : decode cL_leave 12 = .ok (.astore_n 3, 1) := by decide +kernel
theorem dL_leave_13 : decode cL_leave 13 = .ok (.iconst 1, 1) := by decide +kernel
theorem dL_leave_14 : decode cL_leave 14 = .ok (.ireturn, 1) := by decide +kernel
theorem dL_leave_15 : decode cL_leave 15 = .ok (.astore_n 3, 1) := by decide +kernel
theorem dL_leave_16 : decode cL_leave 16 = .ok (.iconst 2, 1) := by decide +kernel
theorem dL_leave_17 : decode cL_leave 17 = .ok (.ireturn, 1) := by decide +kernel
theorem dL_leave_18 : decode cL_leave 18 = .ok (.iconst 0, 1) := by decide +kernel
theorem dL_leave_19 : decode cL_leave 19 = .ok (.ireturn, 1) := by decide +kernel
theorem dL_state_0 : decode cL_state 0 = .ok (.aload_n 2, 1) := by decide +kernel
theorem dL_state_1 : decode cL_state 1 = .ok (.iconst 0, 1) := by decide +kernel
theorem dL_state_2 : decode cL_state 2 = .ok (.aload_n 0, 1) := by decide +kernel
theorem dL_state_3 : decode cL_state 3 = .ok (.iload_n 1, 1) := by decide +kernel
theorem dL_state_4 : decode cL_state 4 = .ok (.invokevirtual 56, 3) := by decide +kernel
theorem dL_state_7 : decode cL_state 7 = .ok (.i2l, 1) := by decide +kernel
theorem dL_state_8 : decode cL_state 8 = .ok (.lastore, 1) := by decide +kernel
theorem dL_state_9 : decode cL_state 9 = .ok (.goto 6, 3) := by decide +kernel
theorem dL_state_12 : decode cL_state 12 = .ok (.astore_n 3, 1) := by decide +kernel
theorem dL_state_13 : decode cL_state 13 = .ok (.iconst 1, 1) := by decide +kernel
theorem dL_state_14 : decode cL_state 14 = .ok (.ireturn, 1) := by decide +kernel
theorem dL_state_15 : decode cL_state 15 = .ok (.iconst 0, 1) := by decide +kernel
theorem dL_state_16 : decode cL_state 16 = .ok (.ireturn, 1) := by decide +kernel
theorem dL_question_0 : decode cL_question 0 = .ok (.aload_n 2, 1) := by decide +kernel
theorem dL_question_1 : decode cL_question 1 = .ok (.iconst 0, 1) := by decide +kernel
theorem dL_question_2 : decode cL_question 2 = .ok (.aload_n 0, 1) := by decide +kernel
theorem dL_question_3 : decode cL_question 3 = .ok (.iload_n 1, 1) := by decide +kernel
theorem dL_question_4 : decode cL_question 4 = .ok (.invokevirtual 59, 3) := by decide +kernel
theorem dL_question_7 : decode cL_question 7 = .ok (.i2l, 1) := by decide +kernel
theorem dL_question_8 : decode cL_question 8 = .ok (.lastore, 1) := by decide +kernel
theorem dL_question_9 : decode cL_question 9 = .ok (.goto 6, 3) := by decide +kernel
theorem dL_question_12 : decode cL_question 12 = .ok (.astore_n 3, 1) := by decide +kernel
theorem dL_question_13 : decode cL_question 13 = .ok (.iconst 1, 1) := by decide +kernel
theorem dL_question_14 : decode cL_question 14 = .ok (.ireturn, 1) := by decide +kernel
theorem dL_question_15 : decode cL_question 15 = .ok (.iconst 0, 1) := by decide +kernel
theorem dL_question_16 : decode cL_question 16 = .ok (.ireturn, 1) := by decide +kernel
theorem dL_version_0 : decode cL_version 0 = .ok (.aload_n 2, 1) := by decide +kernel
theorem dL_version_1 : decode cL_version 1 = .ok (.iconst 0, 1) := by decide +kernel
theorem dL_version_2 : decode cL_version 2 = .ok (.aload_n 0, 1) := by decide +kernel
theorem dL_version_3 : decode cL_version 3 = .ok (.iload_n 1, 1) := by decide +kernel
theorem dL_version_4 : decode cL_version 4 = .ok (.invokevirtual 62, 3) := by decide +kernel
theorem dL_version_7 : decode cL_version 7 = .ok (.i2l, 1) := by decide +kernel
theorem dL_version_8 : decode cL_version 8 = .ok (.lastore, 1) := by decide +kernel
theorem dL_version_9 : decode cL_version 9 = .ok (.goto 6, 3) := by decide +kernel
theorem dL_version_12 : decode cL_version 12 = .ok (.astore_n 3, 1) := by decide +kernel
theorem dL_version_13 : decode cL_version 13 = .ok (.iconst 1, 1) := by decide +kernel
theorem dL_version_14 : decode cL_version 14 = .ok (.ireturn, 1) := by decide +kernel
theorem dL_version_15 : decode cL_version 15 = .ok (.iconst 0, 1) := by decide +kernel
theorem dL_version_16 : decode cL_version 16 = .ok (.ireturn, 1) := by decide +kernel
theorem dL_fuel_0 : decode cL_fuel 0 = .ok (.aload_n 2, 1) := by decide +kernel
theorem dL_fuel_1 : decode cL_fuel 1 = .ok (.iconst 0, 1) := by decide +kernel
theorem dL_fuel_2 : decode cL_fuel 2 = .ok (.aload_n 0, 1) := by decide +kernel
theorem dL_fuel_3 : decode cL_fuel 3 = .ok (.iload_n 1, 1) := by decide +kernel
theorem dL_fuel_4 : decode cL_fuel 4 = .ok (.invokevirtual 65, 3) := by decide +kernel
theorem dL_fuel_7 : decode cL_fuel 7 = .ok (.i2l, 1) := by decide +kernel
theorem dL_fuel_8 : decode cL_fuel 8 = .ok (.lastore, 1) := by decide +kernel
theorem dL_fuel_9 : decode cL_fuel 9 = .ok (.goto 6, 3) := by decide +kernel
theorem dL_fuel_12 : decode cL_fuel 12 = .ok (.astore_n 3, 1) := by decide +kernel
theorem dL_fuel_13 : decode cL_fuel 13 = .ok (.iconst 1, 1) := by decide +kernel
theorem dL_fuel_14 : decode cL_fuel 14 = .ok (.ireturn, 1) := by decide +kernel
theorem dL_fuel_15 : decode cL_fuel 15 = .ok (.iconst 0, 1) := by decide +kernel
theorem dL_fuel_16 : decode cL_fuel 16 = .ok (.ireturn, 1) := by decide +kernel
theorem dL_fuelAgain_0 : decode cL_fuelAgain 0 = .ok (.aload_n 2, 1) := by decide +kernel
theorem dL_fuelAgain_1 : decode cL_fuelAgain 1 = .ok (.iconst 0, 1) := by decide +kernel
theorem dL_fuelAgain_2 : decode cL_fuelAgain 2 = .ok (.aload_n 0, 1) := by decide +kernel
theorem dL_fuelAgain_3 : decode cL_fuelAgain 3 = .ok (.iload_n 1, 1) := by decide +kernel
theorem dL_fuelAgain_4 : decode cL_fuelAgain 4 = .ok (.invokevirtual 68, 3) := by decide +kernel
theorem dL_fuelAgain_7 : decode cL_fuelAgain 7 = .ok (.i2l, 1) := by decide +kernel
theorem dL_fuelAgain_8 : decode cL_fuelAgain 8 = .ok (.lastore, 1) := by decide +kernel
theorem dL_fuelAgain_9 : decode cL_fuelAgain 9 = .ok (.goto 6, 3) := by decide +kernel
theorem dL_fuelAgain_12 : decode cL_fuelAgain 12 = .ok (.astore_n 3, 1) := by decide +kernel
theorem dL_fuelAgain_13 : decode cL_fuelAgain 13 = .ok (.iconst 1, 1) := by decide +kernel
theorem dL_fuelAgain_14 : decode cL_fuelAgain 14 = .ok (.ireturn, 1) := by decide +kernel
theorem dL_fuelAgain_15 : decode cL_fuelAgain 15 = .ok (.iconst 0, 1) := by decide +kernel
theorem dL_fuelAgain_16 : decode cL_fuelAgain 16 = .ok (.ireturn, 1) := by decide +kernel
theorem dL_slot_0 : decode cL_slot 0 = .ok (.aload_n 3, 1) := by decide +kernel
theorem dL_slot_1 : decode cL_slot 1 = .ok (.iconst 0, 1) := by decide +kernel
theorem dL_slot_2 : decode cL_slot 2 = .ok (.aload_n 0, 1) := by decide +kernel
theorem dL_slot_3 : decode cL_slot 3 = .ok (.iload_n 1, 1) := by decide +kernel
theorem dL_slot_4 : decode cL_slot 4 = .ok (.iload_n 2, 1) := by decide +kernel
theorem dL_slot_5 : decode cL_slot 5 = .ok (.invokevirtual 71, 3) := by decide +kernel
theorem dL_slot_8 : decode cL_slot 8 = .ok (.i2l, 1) := by decide +kernel
theorem dL_slot_9 : decode cL_slot 9 = .ok (.lastore, 1) := by decide +kernel
theorem dL_slot_10 : decode cL_slot 10 = .ok (.goto 7, 3) := by decide +kernel
theorem dL_slot_13 : decode cL_slot 13 = .ok (.astore 4, 2) := by decide +kernel
theorem dL_slot_15 : decode cL_slot 15 = .ok (.iconst 1, 1) := by decide +kernel
theorem dL_slot_16 : decode cL_slot 16 = .ok (.ireturn, 1) := by decide +kernel
theorem dL_slot_17 : decode cL_slot 17 = .ok (.iconst 0, 1) := by decide +kernel
theorem dL_slot_18 : decode cL_slot 18 = .ok (.ireturn, 1) := by decide +kernel
theorem dL_slotAgain_0 : decode cL_slotAgain 0 = .ok (.aload_n 3, 1) := by decide +kernel
theorem dL_slotAgain_1 : decode cL_slotAgain 1 = .ok (.iconst 0, 1) := by decide +kernel
theorem dL_slotAgain_2 : decode cL_slotAgain 2 = .ok (.aload_n 0, 1) := by decide +kernel
theorem dL_slotAgain_3 : decode cL_slotAgain 3 = .ok (.iload_n 1, 1) := by decide +kernel
theorem dL_slotAgain_4 : decode cL_slotAgain 4 = .ok (.iload_n 2, 1) := by decide +kernel
theorem dL_slotAgain_5 : decode cL_slotAgain 5 = .ok (.invokevirtual 74, 3) := by decide +kernel
theorem dL_slotAgain_8 : decode cL_slotAgain 8 = .ok (.i2l, 1) := by decide +kernel
theorem dL_slotAgain_9 : decode cL_slotAgain 9 = .ok (.lastore, 1) := by decide +kernel
theorem dL_slotAgain_10 : decode cL_slotAgain 10 = .ok (.goto 7, 3) := by decide +kernel
theorem dL_slotAgain_13 : decode cL_slotAgain 13 = .ok (.astore 4, 2) := by decide +kernel
theorem dL_slotAgain_15 : decode cL_slotAgain 15 = .ok (.iconst 1, 1) := by decide +kernel
theorem dL_slotAgain_16 : decode cL_slotAgain 16 = .ok (.ireturn, 1) := by decide +kernel
theorem dL_slotAgain_17 : decode cL_slotAgain 17 = .ok (.iconst 0, 1) := by decide +kernel
theorem dL_slotAgain_18 : decode cL_slotAgain 18 = .ok (.ireturn, 1) := by decide +kernel
theorem dL_depth_0 : decode cL_depth 0 = .ok (.aload_n 2, 1) := by decide +kernel
theorem dL_depth_1 : decode cL_depth 1 = .ok (.iconst 0, 1) := by decide +kernel
theorem dL_depth_2 : decode cL_depth 2 = .ok (.aload_n 0, 1) := by decide +kernel
theorem dL_depth_3 : decode cL_depth 3 = .ok (.iload_n 1, 1) := by decide +kernel
theorem dL_depth_4 : decode cL_depth 4 = .ok (.invokevirtual 77, 3) := by decide +kernel
theorem dL_depth_7 : decode cL_depth 7 = .ok (.i2l, 1) := by decide +kernel
theorem dL_depth_8 : decode cL_depth 8 = .ok (.lastore, 1) := by decide +kernel
theorem dL_depth_9 : decode cL_depth 9 = .ok (.goto 6, 3) := by decide +kernel
theorem dL_depth_12 : decode cL_depth 12 = .ok (.astore_n 3, 1) := by decide +kernel
theorem dL_depth_13 : decode cL_depth 13 = .ok (.iconst 1, 1) := by decide +kernel
theorem dL_depth_14 : decode cL_depth 14 = .ok (.ireturn, 1) := by decide +kernel
theorem dL_depth_15 : decode cL_depth 15 = .ok (.iconst 0, 1) := by decide +kernel
theorem dL_depth_16 : decode cL_depth 16 = .ok (.ireturn, 1) := by decide +kernel
theorem dL_answers_0 : decode cL_answers 0 = .ok (.aload_n 2, 1) := by decide +kernel
theorem dL_answers_1 : decode cL_answers 1 = .ok (.iconst 0, 1) := by decide +kernel
theorem dL_answers_2 : decode cL_answers 2 = .ok (.aload_n 0, 1) := by decide +kernel
theorem dL_answers_3 : decode cL_answers 3 = .ok (.iload_n 1, 1) := by decide +kernel
theorem dL_answers_4 : decode cL_answers 4 = .ok (.invokevirtual 80, 3) := by decide +kernel
theorem dL_answers_7 : decode cL_answers 7 = .ok (.i2l, 1) := by decide +kernel
theorem dL_answers_8 : decode cL_answers 8 = .ok (.lastore, 1) := by decide +kernel
theorem dL_answers_9 : decode cL_answers 9 = .ok (.goto 6, 3) := by decide +kernel
theorem dL_answers_12 : decode cL_answers 12 = .ok (.astore_n 3, 1) := by decide +kernel
theorem dL_answers_13 : decode cL_answers 13 = .ok (.iconst 1, 1) := by decide +kernel
theorem dL_answers_14 : decode cL_answers 14 = .ok (.ireturn, 1) := by decide +kernel
theorem dL_answers_15 : decode cL_answers 15 = .ok (.iconst 0, 1) := by decide +kernel
theorem dL_answers_16 : decode cL_answers 16 = .ok (.ireturn, 1) := by decide +kernel
theorem dL_answerAt_0 : decode cL_answerAt 0 = .ok (.aload_n 3, 1) := by decide +kernel
theorem dL_answerAt_1 : decode cL_answerAt 1 = .ok (.iconst 0, 1) := by decide +kernel
theorem dL_answerAt_2 : decode cL_answerAt 2 = .ok (.aload_n 0, 1) := by decide +kernel
theorem dL_answerAt_3 : decode cL_answerAt 3 = .ok (.iload_n 1, 1) := by decide +kernel
theorem dL_answerAt_4 : decode cL_answerAt 4 = .ok (.iload_n 2, 1) := by decide +kernel
theorem dL_answerAt_5 : decode cL_answerAt 5 = .ok (.invokevirtual 83, 3) := by decide +kernel
theorem dL_answerAt_8 : decode cL_answerAt 8 = .ok (.i2l, 1) := by decide +kernel
theorem dL_answerAt_9 : decode cL_answerAt 9 = .ok (.lastore, 1) := by decide +kernel
theorem dL_answerAt_10 : decode cL_answerAt 10 = .ok (.goto 7, 3) := by decide +kernel
theorem dL_answerAt_13 : decode cL_answerAt 13 = .ok (.astore 4, 2) := by decide +kernel
theorem dL_answerAt_15 : decode cL_answerAt 15 = .ok (.iconst 1, 1) := by decide +kernel
theorem dL_answerAt_16 : decode cL_answerAt 16 = .ok (.ireturn, 1) := by decide +kernel
theorem dL_answerAt_17 : decode cL_answerAt 17 = .ok (.iconst 0, 1) := by decide +kernel
theorem dL_answerAt_18 : decode cL_answerAt 18 = .ok (.ireturn, 1) := by decide +kernel
theorem dL_reward_0 : decode cL_reward 0 = .ok (.aload_n 2, 1) := by decide +kernel
theorem dL_reward_1 : decode cL_reward 1 = .ok (.iconst 0, 1) := by decide +kernel
theorem dL_reward_2 : decode cL_reward 2 = .ok (.aload_n 0, 1) := by decide +kernel
theorem dL_reward_3 : decode cL_reward 3 = .ok (.iload_n 1, 1) := by decide +kernel
theorem dL_reward_4 : decode cL_reward 4 = .ok (.invokevirtual 86, 3) := by decide +kernel
theorem dL_reward_7 : decode cL_reward 7 = .ok (.i2l, 1) := by decide +kernel
theorem dL_reward_8 : decode cL_reward 8 = .ok (.lastore, 1) := by decide +kernel
theorem dL_reward_9 : decode cL_reward 9 = .ok (.goto 6, 3) := by decide +kernel
theorem dL_reward_12 : decode cL_reward 12 = .ok (.astore_n 3, 1) := by decide +kernel
theorem dL_reward_13 : decode cL_reward 13 = .ok (.iconst 1, 1) := by decide +kernel
theorem dL_reward_14 : decode cL_reward 14 = .ok (.ireturn, 1) := by decide +kernel
theorem dL_reward_15 : decode cL_reward 15 = .ok (.iconst 0, 1) := by decide +kernel
theorem dL_reward_16 : decode cL_reward 16 = .ok (.ireturn, 1) := by decide +kernel
theorem dL_budget_0 : decode cL_budget 0 = .ok (.aload_n 2, 1) := by decide +kernel
theorem dL_budget_1 : decode cL_budget 1 = .ok (.iconst 0, 1) := by decide +kernel
theorem dL_budget_2 : decode cL_budget 2 = .ok (.aload_n 0, 1) := by decide +kernel
theorem dL_budget_3 : decode cL_budget 3 = .ok (.iload_n 1, 1) := by decide +kernel
theorem dL_budget_4 : decode cL_budget 4 = .ok (.invokevirtual 89, 3) := by decide +kernel
theorem dL_budget_7 : decode cL_budget 7 = .ok (.i2l, 1) := by decide +kernel
theorem dL_budget_8 : decode cL_budget 8 = .ok (.lastore, 1) := by decide +kernel
theorem dL_budget_9 : decode cL_budget 9 = .ok (.goto 6, 3) := by decide +kernel
theorem dL_budget_12 : decode cL_budget 12 = .ok (.astore_n 3, 1) := by decide +kernel
theorem dL_budget_13 : decode cL_budget 13 = .ok (.iconst 1, 1) := by decide +kernel
theorem dL_budget_14 : decode cL_budget 14 = .ok (.ireturn, 1) := by decide +kernel
theorem dL_budget_15 : decode cL_budget 15 = .ok (.iconst 0, 1) := by decide +kernel
theorem dL_budget_16 : decode cL_budget 16 = .ok (.ireturn, 1) := by decide +kernel
theorem dL_done_0 : decode cL_done 0 = .ok (.aload_n 3, 1) := by decide +kernel
theorem dL_done_1 : decode cL_done 1 = .ok (.iconst 0, 1) := by decide +kernel
theorem dL_done_2 : decode cL_done 2 = .ok (.aload_n 0, 1) := by decide +kernel
theorem dL_done_3 : decode cL_done 3 = .ok (.iload_n 1, 1) := by decide +kernel
theorem dL_done_4 : decode cL_done 4 = .ok (.iload_n 2, 1) := by decide +kernel
theorem dL_done_5 : decode cL_done 5 = .ok (.invokevirtual 92, 3) := by decide +kernel
theorem dL_done_8 : decode cL_done 8 = .ok (.i2l, 1) := by decide +kernel
theorem dL_done_9 : decode cL_done 9 = .ok (.lastore, 1) := by decide +kernel
theorem dL_done_10 : decode cL_done 10 = .ok (.goto 7, 3) := by decide +kernel
theorem dL_done_13 : decode cL_done 13 = .ok (.astore 4, 2) := by decide +kernel
theorem dL_done_15 : decode cL_done 15 = .ok (.iconst 1, 1) := by decide +kernel
theorem dL_done_16 : decode cL_done 16 = .ok (.ireturn, 1) := by decide +kernel
theorem dL_done_17 : decode cL_done 17 = .ok (.iconst 0, 1) := by decide +kernel
theorem dL_done_18 : decode cL_done 18 = .ok (.ireturn, 1) := by decide +kernel

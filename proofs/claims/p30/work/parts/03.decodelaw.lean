theorem dL_cell_0 : decode cL_cell 0 = .ok (.iload_n 1, 1) := by decide +kernel
theorem dL_cell_1 : decode cL_cell 1 = .ok (.aload_n 0, 1) := by decide +kernel
theorem dL_cell_2 : decode cL_cell 2 = .ok (.arraylength, 1) := by decide +kernel
theorem dL_cell_3 : decode cL_cell 3 = .ok (.if_icmp .ge 9, 3) := by decide +kernel
theorem dL_cell_6 : decode cL_cell 6 = .ok (.aload_n 0, 1) := by decide +kernel
theorem dL_cell_7 : decode cL_cell 7 = .ok (.iload_n 1, 1) := by decide +kernel
theorem dL_cell_8 : decode cL_cell 8 = .ok (.iaload, 1) := by decide +kernel
theorem dL_cell_9 : decode cL_cell 9 = .ok (.goto 15, 3) := by decide +kernel
theorem dL_cell_12 : decode cL_cell 12 = .ok (.ldc 7, 2) := by decide +kernel
theorem dL_cell_14 : decode cL_cell 14 = .ok (.iload_n 1, 1) := by decide +kernel
theorem dL_cell_15 : decode cL_cell 15 = .ok (.sipush 6763, 3) := by decide +kernel
theorem dL_cell_18 : decode cL_cell 18 = .ok (.irem, 1) := by decide +kernel
theorem dL_cell_19 : decode cL_cell 19 = .ok (.imul, 1) := by decide +kernel
theorem dL_cell_20 : decode cL_cell 20 = .ok (.sipush 2609, 3) := by decide +kernel
theorem dL_cell_23 : decode cL_cell 23 = .ok (.iadd, 1) := by decide +kernel
theorem dL_cell_24 : decode cL_cell 24 = .ok (.ldc 8, 2) := by decide +kernel
theorem dL_cell_26 : decode cL_cell 26 = .ok (.iand, 1) := by decide +kernel
theorem dL_cell_27 : decode cL_cell 27 = .ok (.ireturn, 1) := by decide +kernel
theorem dL_write_0 : decode cL_write 0 = .ok (.aload_n 0, 1) := by decide +kernel
theorem dL_write_1 : decode cL_write 1 = .ok (.iload_n 1, 1) := by decide +kernel
theorem dL_write_2 : decode cL_write 2 = .ok (.iload_n 2, 1) := by decide +kernel
theorem dL_write_3 : decode cL_write 3 = .ok (.iload_n 3, 1) := by decide +kernel
theorem dL_write_4 : decode cL_write 4 = .ok (.invokevirtual 9, 3) := by decide +kernel
theorem dL_write_7 : decode cL_write 7 = .ok (.ireturn, 1) := by decide +kernel
theorem dL_write_8 : decode cL_write 8 = .ok (.astore 4, 2) := by decide +kernel
theorem dL_write_10 : decode cL_write 10 = .ok (.bipush (-101), 2) := by decide +kernel
theorem dL_write_12 : decode cL_write 12 = .ok (.ireturn, 1) := by decide +kernel
theorem dL_write_13 : decode cL_write 13 = .ok (.astore 4, 2) := by decide +kernel
theorem dL_write_15 : decode cL_write 15 = .ok (.bipush (-102), 2) := by decide +kernel
theorem dL_write_17 : decode cL_write 17 = .ok (.ireturn, 1) := by decide +kernel
theorem dL_write_18 : decode cL_write 18 = .ok (.astore 4, 2) := by decide +kernel
theorem dL_write_20 : decode cL_write 20 = .ok (.bipush (-103), 2) := by decide +kernel
theorem dL_write_22 : decode cL_write 22 = .ok (.ireturn, 1) := by decide +kernel
theorem dL_publish_0 : decode cL_publish 0 = .ok (.aload_n 0, 1) := by decide +kernel
theorem dL_publish_1 : decode cL_publish 1 = .ok (.iload_n 1, 1) := by decide +kernel
theorem dL_publish_2 : decode cL_publish 2 = .ok (.invokevirtual 21, 3) := by decide +kernel
theorem dL_publish_5 : decode cL_publish 5 = .ok (.ireturn, 1) := by decide +kernel
theorem dL_publish_6 : decode cL_publish 6 = .ok (.astore_n 2, 1) := by decide +kernel
theorem dL_publish_7 : decode cL_publish 7 = .ok (.bipush (-101), 2) := by decide +kernel
theorem dL_publish_9 : decode cL_publish 9 = .ok (.ireturn, 1) := by decide +kernel
theorem dL_publish_10 : decode cL_publish 10 = .ok (.astore_n 2, 1) := by decide +kernel
theorem dL_publish_11 : decode cL_publish 11 = .ok (.bipush (-103), 2) := by decide +kernel
theorem dL_publish_13 : decode cL_publish 13 = .ok (.ireturn, 1) := by decide +kernel
theorem dL_fuels_0 : decode cL_fuels 0 = .ok (.aload_n 0, 1) := by decide +kernel
theorem dL_fuels_1 : decode cL_fuels 1 = .ok (.iload_n 1, 1) := by decide +kernel
theorem dL_fuels_2 : decode cL_fuels 2 = .ok (.iload_n 2, 1) := by decide +kernel
theorem dL_fuels_3 : decode cL_fuels 3 = .ok (.invokevirtual 25, 3) := by decide +kernel
theorem dL_fuels_6 : decode cL_fuels 6 = .ok (.ireturn, 1) := by decide +kernel
theorem dL_fuels_7 : decode cL_fuels 7 = .ok (.astore_n 3, 1) := by decide +kernel
theorem dL_fuels_8 : decode cL_fuels 8 = .ok (.bipush (-101), 2) := by decide +kernel
theorem dL_fuels_10 : decode cL_fuels 10 = .ok (.ireturn, 1) := by decide +kernel
theorem dL_fuels_11 : decode cL_fuels 11 = .ok (.astore_n 3, 1) := by decide +kernel
theorem dL_fuels_12 : decode cL_fuels 12 = .ok (.bipush (-102), 2) := by decide +kernel
theorem dL_fuels_14 : decode cL_fuels 14 = .ok (.ireturn, 1) := by decide +kernel
theorem dL_fund_0 : decode cL_fund 0 = .ok (.aload_n 0, 1) := by decide +kernel
theorem dL_fund_1 : decode cL_fund 1 = .ok (.iload_n 1, 1) := by decide +kernel
theorem dL_fund_2 : decode cL_fund 2 = .ok (.iload_n 2, 1) := by decide +kernel
theorem dL_fund_3 : decode cL_fund 3 = .ok (.invokevirtual 29, 3) := by decide +kernel
theorem dL_fund_6 : decode cL_fund 6 = .ok (.ireturn, 1) := by decide +kernel
theorem dL_fund_7 : decode cL_fund 7 = .ok (.astore_n 3, 1) := by decide +kernel
theorem dL_fund_8 : decode cL_fund 8 = .ok (.bipush (-101), 2) := by decide +kernel
theorem dL_fund_10 : decode cL_fund 10 = .ok (.ireturn, 1) := by decide +kernel
theorem dL_fund_11 : decode cL_fund 11 = .ok (.astore_n 3, 1) := by decide +kernel
theorem dL_fund_12 : decode cL_fund 12 = .ok (.bipush (-102), 2) := by decide +kernel
theorem dL_fund_14 : decode cL_fund 14 = .ok (.ireturn, 1) := by decide +kernel
theorem dL_quota_0 : decode cL_quota 0 = .ok (.aload_n 0, 1) := by decide +kernel
theorem dL_quota_1 : decode cL_quota 1 = .ok (.iload_n 1, 1) := by decide +kernel
theorem dL_quota_2 : decode cL_quota 2 = .ok (.iload_n 2, 1) := by decide +kernel
theorem dL_quota_3 : decode cL_quota 3 = .ok (.iload_n 3, 1) := by decide +kernel
theorem dL_quota_4 : decode cL_quota 4 = .ok (.invokevirtual 32, 3) := by decide +kernel
theorem dL_quota_7 : decode cL_quota 7 = .ok (.ireturn, 1) := by decide +kernel
theorem dL_quota_8 : decode cL_quota 8 = .ok (.astore 4, 2) := by decide +kernel
theorem dL_quota_10 : decode cL_quota 10 = .ok (.bipush (-101), 2) := by decide +kernel
theorem dL_quota_12 : decode cL_quota 12 = .ok (.ireturn, 1) := by decide +kernel
theorem dL_quota_13 : decode cL_quota 13 = .ok (.astore 4, 2) := by decide +kernel
theorem dL_quota_15 : decode cL_quota 15 = .ok (.bipush (-102), 2) := by decide +kernel
theorem dL_quota_17 : decode cL_quota 17 = .ok (.ireturn, 1) := by decide +kernel
theorem dL_price_0 : decode cL_price 0 = .ok (.aload_n 0, 1) := by decide +kernel
theorem dL_price_1 : decode cL_price 1 = .ok (.iload_n 1, 1) := by decide +kernel
theorem dL_price_2 : decode cL_price 2 = .ok (.iload_n 2, 1) := by decide +kernel
theorem dL_price_3 : decode cL_price 3 = .ok (.invokevirtual 35, 3) := by decide +kernel
theorem dL_price_6 : decode cL_price 6 = .ok (.ireturn, 1) := by decide +kernel
theorem dL_price_7 : decode cL_price 7 = .ok (.astore_n 3, 1) := by decide +kernel
theorem dL_price_8 : decode cL_price 8 = .ok (.bipush (-101), 2) := by decide +kernel
theorem dL_price_10 : decode cL_price 10 = .ok (.ireturn, 1) := by decide +kernel
theorem dL_price_11 : decode cL_price 11 = .ok (.astore_n 3, 1) := by decide +kernel
theorem dL_price_12 : decode cL_price 12 = .ok (.bipush (-102), 2) := by decide +kernel
theorem dL_price_14 : decode cL_price 14 = .ok (.ireturn, 1) := by decide +kernel
theorem dL_reword_0 : decode cL_reword 0 = .ok (.aload_n 0, 1) := by decide +kernel
theorem dL_reword_1 : decode cL_reword 1 = .ok (.iload_n 1, 1) := by decide +kernel
theorem dL_reword_2 : decode cL_reword 2 = .ok (.invokevirtual 38, 3) := by decide +kernel
theorem dL_reword_5 : decode cL_reword 5 = .ok (.ireturn, 1) := by decide +kernel
theorem dL_reword_6 : decode cL_reword 6 = .ok (.astore_n 2, 1) := by decide +kernel
theorem dL_reword_7 : decode cL_reword 7 = .ok (.bipush (-101), 2) := by decide +kernel
theorem dL_reword_9 : decode cL_reword 9 = .ok (.ireturn, 1) := by decide +kernel
theorem dL_begin_0 : decode cL_begin 0 = .ok (.aload_n 0, 1) := by decide +kernel
theorem dL_begin_1 : decode cL_begin 1 = .ok (.iload_n 1, 1) := by decide +kernel
theorem dL_begin_2 : decode cL_begin 2 = .ok (.iload_n 2, 1) := by decide +kernel
theorem dL_begin_3 : decode cL_begin 3 = .ok (.invokevirtual 41, 3) := by decide +kernel
theorem dL_begin_6 : decode cL_begin 6 = .ok (.ireturn, 1) := by decide +kernel
theorem dL_begin_7 : decode cL_begin 7 = .ok (.astore_n 3, 1) := by decide +kernel
theorem dL_begin_8 : decode cL_begin 8 = .ok (.bipush (-101), 2) := by decide +kernel
theorem dL_begin_10 : decode cL_begin 10 = .ok (.ireturn, 1) := by decide +kernel
theorem dL_begin_11 : decode cL_begin 11 = .ok (.astore_n 3, 1) := by decide +kernel
theorem dL_begin_12 : decode cL_begin 12 = .ok (.bipush (-103), 2) := by decide +kernel
theorem dL_begin_14 : decode cL_begin 14 = .ok (.ireturn, 1) := by decide +kernel
theorem dL_answer_0 : decode cL_answer 0 = .ok (.aload_n 0, 1) := by decide +kernel
theorem dL_answer_1 : decode cL_answer 1 = .ok (.iload_n 1, 1) := by decide +kernel
theorem dL_answer_2 : decode cL_answer 2 = .ok (.iload_n 2, 1) := by decide +kernel
theorem dL_answer_3 : decode cL_answer 3 = .ok (.invokevirtual 44, 3) := by decide +kernel
theorem dL_answer_6 : decode cL_answer 6 = .ok (.ireturn, 1) := by decide +kernel
theorem dL_answer_7 : decode cL_answer 7 = .ok (.astore_n 3, 1) := by decide +kernel
theorem dL_answer_8 : decode cL_answer 8 = .ok (.bipush (-101), 2) := by decide +kernel
theorem dL_answer_10 : decode cL_answer 10 = .ok (.ireturn, 1) := by decide +kernel
theorem dL_answer_11 : decode cL_answer 11 = .ok (.astore_n 3, 1) := by decide +kernel
theorem dL_answer_12 : decode cL_answer 12 = .ok (.bipush (-102), 2) := by decide +kernel
theorem dL_answer_14 : decode cL_answer 14 = .ok (.ireturn, 1) := by decide +kernel
theorem dL_answer_15 : decode cL_answer 15 = .ok (.astore_n 3, 1) := by decide +kernel
theorem dL_answer_16 : decode cL_answer 16 = .ok (.bipush (-103), 2) := by decide +kernel
theorem dL_answer_18 : decode cL_answer 18 = .ok (.ireturn, 1) := by decide +kernel
theorem dL_save_0 : decode cL_save 0 = .ok (.aload_n 0, 1) := by decide +kernel
theorem dL_save_1 : decode cL_save 1 = .ok (.iload_n 1, 1) := by decide +kernel
theorem dL_save_2 : decode cL_save 2 = .ok (.invokevirtual 47, 3) := by decide +kernel
theorem dL_save_5 : decode cL_save 5 = .ok (.goto 11, 3) := by decide +kernel
theorem dL_save_8 : decode cL_save 8 = .ok (.astore_n 2, 1) := by decide +kernel
theorem dL_save_9 : decode cL_save 9 = .ok (.bipush (-101), 2) := by decide +kernel
theorem dL_save_11 : decode cL_save 11 = .ok (.ireturn, 1) := by decide +kernel
theorem dL_save_12 : decode cL_save 12 = .ok (.astore_n 2, 1) := by decide +kernel
theorem dL_save_13 : decode cL_save 13 = .ok (.bipush (-103), 2) := by decide +kernel
theorem dL_save_15 : decode cL_save 15 = .ok (.ireturn, 1) := by decide +kernel
theorem dL_save_16 : decode cL_save 16 = .ok (.iconst 0, 1) := by decide +kernel
theorem dL_save_17 : decode cL_save 17 = .ok (.ireturn, 1) := by decide +kernel
theorem dL_wake_0 : decode cL_wake 0 = .ok (.aload_n 0, 1) := by decide +kernel
theorem dL_wake_1 : decode cL_wake 1 = .ok (.iload_n 1, 1) := by decide +kernel
theorem dL_wake_2 : decode cL_wake 2 = .ok (.invokevirtual 51, 3) := by decide +kernel
theorem dL_wake_5 : decode cL_wake 5 = .ok (.ifCond .eq 7, 3) := by decide +kernel
theorem dL_wake_8 : decode cL_wake 8 = .ok (.iconst 1, 1) := by decide +kernel
theorem dL_wake_9 : decode cL_wake 9 = .ok (.goto 4, 3) := by decide +kernel
theorem dL_wake_12 : decode cL_wake 12 = .ok (.iconst 0, 1) := by decide +kernel
theorem dL_wake_13 : decode cL_wake 13 = .ok (.ireturn, 1) := by decide +kernel
theorem dL_wake_14 : decode cL_wake 14 = .ok (.astore_n 2, 1) := by decide +kernel
theorem dL_wake_15 : decode cL_wake 15 = .ok (.bipush (-101), 2) := by decide +kernel
theorem dL_wake_17 : decode cL_wake 17 = .ok (.ireturn, 1) := by decide +kernel
theorem dL_wake_18 : decode cL_wake 18 = .ok (.astore_n 2, 1) := by decide +kernel
theorem dL_wake_19 : decode cL_wake 19 = .ok (.bipush (-103), 2) := by decide +kernel
theorem dL_wake_21 : decode cL_wake 21 = .ok (.ireturn, 1) := by decide +kernel
theorem dL_leave_0 : decode cL_leave 0 = .ok (.aload_n 0, 1) := by decide +kernel
theorem dL_leave_1 : decode cL_leave 1 = .ok (.iload_n 1, 1) := by decide +kernel
theorem dL_leave_2 : decode cL_leave 2 = .ok (.invokevirtual 55, 3) := by decide +kernel
theorem dL_leave_5 : decode cL_leave 5 = .ok (.ireturn, 1) := by decide +kernel
theorem dL_leave_6 : decode cL_leave 6 = .ok (.astore_n 2, 1) := by decide +kernel
theorem dL_leave_7 : decode cL_leave 7 = .ok (.bipush (-101), 2) := by decide +kernel
theorem dL_leave_9 : decode cL_leave 9 = .ok (.ireturn, 1) := by decide +kernel
theorem dL_leave_10 : decode cL_leave 10 = .ok (.astore_n 2, 1) := by decide +kernel
theorem dL_leave_11 : decode cL_leave 11 = .ok (.bipush (-103), 2) := by decide +kernel
theorem dL_leave_13 : decode cL_leave 13 = .ok (.ireturn, 1) := by decide +kernel
theorem dL_state_0 : decode cL_state 0 = .ok (.aload_n 0, 1) := by decide +kernel
theorem dL_state_1 : decode cL_state 1 = .ok (.iload_n 1, 1) := by decide +kernel
theorem dL_state_2 : decode cL_state 2 = .ok (.invokevirtual 58, 3) := by decide +kernel
theorem dL_state_5 : decode cL_state 5 = .ok (.ireturn, 1) := by decide +kernel
theorem dL_state_6 : decode cL_state 6 = .ok (.astore_n 2, 1) := by decide +kernel
theorem dL_state_7 : decode cL_state 7 = .ok (.bipush (-101), 2) := by decide +kernel
theorem dL_state_9 : decode cL_state 9 = .ok (.ireturn, 1) := by decide +kernel
theorem dL_question_0 : decode cL_question 0 = .ok (.aload_n 0, 1) := by decide +kernel
theorem dL_question_1 : decode cL_question 1 = .ok (.iload_n 1, 1) := by decide +kernel
theorem dL_question_2 : decode cL_question 2 = .ok (.invokevirtual 61, 3) := by decide +kernel
theorem dL_question_5 : decode cL_question 5 = .ok (.ireturn, 1) := by decide +kernel
theorem dL_question_6 : decode cL_question 6 = .ok (.astore_n 2, 1) := by decide +kernel
theorem dL_question_7 : decode cL_question 7 = .ok (.bipush (-101), 2) := by decide +kernel
theorem dL_question_9 : decode cL_question 9 = .ok (.ireturn, 1) := by decide +kernel
theorem dL_version_0 : decode cL_version 0 = .ok (.aload_n 0, 1) := by decide +kernel
theorem dL_version_1 : decode cL_version 1 = .ok (.iload_n 1, 1) := by decide +kernel
theorem dL_version_2 : decode cL_version 2 = .ok (.invokevirtual 64, 3) := by decide +kernel
theorem dL_version_5 : decode cL_version 5 = .ok (.ireturn, 1) := by decide +kernel
theorem dL_version_6 : decode cL_version 6 = .ok (.astore_n 2, 1) := by decide +kernel
theorem dL_version_7 : decode cL_version 7 = .ok (.bipush (-101), 2) := by decide +kernel
theorem dL_version_9 : decode cL_version 9 = .ok (.ireturn, 1) := by decide +kernel
theorem dL_fuel_0 : decode cL_fuel 0 = .ok (.aload_n 0, 1) := by decide +kernel
theorem dL_fuel_1 : decode cL_fuel 1 = .ok (.iload_n 1, 1) := by decide +kernel
theorem dL_fuel_2 : decode cL_fuel 2 = .ok (.invokevirtual 67, 3) := by decide +kernel
theorem dL_fuel_5 : decode cL_fuel 5 = .ok (.ireturn, 1) := by decide +kernel
theorem dL_fuel_6 : decode cL_fuel 6 = .ok (.astore_n 2, 1) := by decide +kernel
theorem dL_fuel_7 : decode cL_fuel 7 = .ok (.bipush (-101), 2) := by decide +kernel
theorem dL_fuel_9 : decode cL_fuel 9 = .ok (.ireturn, 1) := by decide +kernel
theorem dL_again_0 : decode cL_again 0 = .ok (.aload_n 0, 1) := by decide +kernel
theorem dL_again_1 : decode cL_again 1 = .ok (.iload_n 1, 1) := by decide +kernel
theorem dL_again_2 : decode cL_again 2 = .ok (.invokevirtual 70, 3) := by decide +kernel
theorem dL_again_5 : decode cL_again 5 = .ok (.ireturn, 1) := by decide +kernel
theorem dL_again_6 : decode cL_again 6 = .ok (.astore_n 2, 1) := by decide +kernel
theorem dL_again_7 : decode cL_again 7 = .ok (.bipush (-101), 2) := by decide +kernel
theorem dL_again_9 : decode cL_again 9 = .ok (.ireturn, 1) := by decide +kernel
theorem dL_slot_0 : decode cL_slot 0 = .ok (.aload_n 0, 1) := by decide +kernel
theorem dL_slot_1 : decode cL_slot 1 = .ok (.iload_n 1, 1) := by decide +kernel
theorem dL_slot_2 : decode cL_slot 2 = .ok (.iload_n 2, 1) := by decide +kernel
theorem dL_slot_3 : decode cL_slot 3 = .ok (.invokevirtual 73, 3) := by decide +kernel
theorem dL_slot_6 : decode cL_slot 6 = .ok (.ireturn, 1) := by decide +kernel
theorem dL_slot_7 : decode cL_slot 7 = .ok (.astore_n 3, 1) := by decide +kernel
theorem dL_slot_8 : decode cL_slot 8 = .ok (.ldc 76, 2) := by decide +kernel
theorem dL_slot_10 : decode cL_slot 10 = .ok (.ireturn, 1) := by decide +kernel
theorem dL_slotAgain_0 : decode cL_slotAgain 0 = .ok (.aload_n 0, 1) := by decide +kernel
theorem dL_slotAgain_1 : decode cL_slotAgain 1 = .ok (.iload_n 1, 1) := by decide +kernel
theorem dL_slotAgain_2 : decode cL_slotAgain 2 = .ok (.iload_n 2, 1) := by decide +kernel
theorem dL_slotAgain_3 : decode cL_slotAgain 3 = .ok (.invokevirtual 77, 3) := by decide +kernel
theorem dL_slotAgain_6 : decode cL_slotAgain 6 = .ok (.ireturn, 1) := by decide +kernel
theorem dL_slotAgain_7 : decode cL_slotAgain 7 = .ok (.astore_n 3, 1) := by decide +kernel
theorem dL_slotAgain_8 : decode cL_slotAgain 8 = .ok (.ldc 76, 2) := by decide +kernel
theorem dL_slotAgain_10 : decode cL_slotAgain 10 = .ok (.ireturn, 1) := by decide +kernel
theorem dL_depth_0 : decode cL_depth 0 = .ok (.aload_n 0, 1) := by decide +kernel
theorem dL_depth_1 : decode cL_depth 1 = .ok (.iload_n 1, 1) := by decide +kernel
theorem dL_depth_2 : decode cL_depth 2 = .ok (.invokevirtual 80, 3) := by decide +kernel
theorem dL_depth_5 : decode cL_depth 5 = .ok (.ireturn, 1) := by decide +kernel
theorem dL_depth_6 : decode cL_depth 6 = .ok (.astore_n 2, 1) := by decide +kernel
theorem dL_depth_7 : decode cL_depth 7 = .ok (.bipush (-101), 2) := by decide +kernel
theorem dL_depth_9 : decode cL_depth 9 = .ok (.ireturn, 1) := by decide +kernel
theorem dL_answers_0 : decode cL_answers 0 = .ok (.aload_n 0, 1) := by decide +kernel
theorem dL_answers_1 : decode cL_answers 1 = .ok (.iload_n 1, 1) := by decide +kernel
theorem dL_answers_2 : decode cL_answers 2 = .ok (.invokevirtual 83, 3) := by decide +kernel
theorem dL_answers_5 : decode cL_answers 5 = .ok (.ireturn, 1) := by decide +kernel
theorem dL_answers_6 : decode cL_answers 6 = .ok (.astore_n 2, 1) := by decide +kernel
theorem dL_answers_7 : decode cL_answers 7 = .ok (.bipush (-101), 2) := by decide +kernel
theorem dL_answers_9 : decode cL_answers 9 = .ok (.ireturn, 1) := by decide +kernel
theorem dL_answerAt_0 : decode cL_answerAt 0 = .ok (.aload_n 0, 1) := by decide +kernel
theorem dL_answerAt_1 : decode cL_answerAt 1 = .ok (.iload_n 1, 1) := by decide +kernel
theorem dL_answerAt_2 : decode cL_answerAt 2 = .ok (.iload_n 2, 1) := by decide +kernel
theorem dL_answerAt_3 : decode cL_answerAt 3 = .ok (.invokevirtual 86, 3) := by decide +kernel
theorem dL_answerAt_6 : decode cL_answerAt 6 = .ok (.ireturn, 1) := by decide +kernel
theorem dL_answerAt_7 : decode cL_answerAt 7 = .ok (.astore_n 3, 1) := by decide +kernel
theorem dL_answerAt_8 : decode cL_answerAt 8 = .ok (.bipush (-101), 2) := by decide +kernel
theorem dL_answerAt_10 : decode cL_answerAt 10 = .ok (.ireturn, 1) := by decide +kernel
theorem dL_reward_0 : decode cL_reward 0 = .ok (.aload_n 0, 1) := by decide +kernel
theorem dL_reward_1 : decode cL_reward 1 = .ok (.iload_n 1, 1) := by decide +kernel
theorem dL_reward_2 : decode cL_reward 2 = .ok (.invokevirtual 89, 3) := by decide +kernel
theorem dL_reward_5 : decode cL_reward 5 = .ok (.ireturn, 1) := by decide +kernel
theorem dL_reward_6 : decode cL_reward 6 = .ok (.astore_n 2, 1) := by decide +kernel
theorem dL_reward_7 : decode cL_reward 7 = .ok (.bipush (-101), 2) := by decide +kernel
theorem dL_reward_9 : decode cL_reward 9 = .ok (.ireturn, 1) := by decide +kernel
theorem dL_budget_0 : decode cL_budget 0 = .ok (.aload_n 0, 1) := by decide +kernel
theorem dL_budget_1 : decode cL_budget 1 = .ok (.iload_n 1, 1) := by decide +kernel
theorem dL_budget_2 : decode cL_budget 2 = .ok (.invokevirtual 92, 3) := by decide +kernel
theorem dL_budget_5 : decode cL_budget 5 = .ok (.ireturn, 1) := by decide +kernel
theorem dL_budget_6 : decode cL_budget 6 = .ok (.astore_n 2, 1) := by decide +kernel
theorem dL_budget_7 : decode cL_budget 7 = .ok (.bipush (-101), 2) := by decide +kernel
theorem dL_budget_9 : decode cL_budget 9 = .ok (.ireturn, 1) := by decide +kernel
theorem dL_done_0 : decode cL_done 0 = .ok (.aload_n 0, 1) := by decide +kernel
theorem dL_done_1 : decode cL_done 1 = .ok (.iload_n 1, 1) := by decide +kernel
theorem dL_done_2 : decode cL_done 2 = .ok (.iload_n 2, 1) := by decide +kernel
theorem dL_done_3 : decode cL_done 3 = .ok (.invokevirtual 95, 3) := by decide +kernel
theorem dL_done_6 : decode cL_done 6 = .ok (.ireturn, 1) := by decide +kernel
theorem dL_done_7 : decode cL_done 7 = .ok (.astore_n 3, 1) := by decide +kernel
theorem dL_done_8 : decode cL_done 8 = .ok (.bipush (-101), 2) := by decide +kernel
theorem dL_done_10 : decode cL_done 10 = .ok (.ireturn, 1) := by decide +kernel
theorem dL_fits_0 : decode cL_fits 0 = .ok (.aload_n 0, 1) := by decide +kernel
theorem dL_fits_1 : decode cL_fits 1 = .ok (.iload_n 1, 1) := by decide +kernel
theorem dL_fits_2 : decode cL_fits 2 = .ok (.invokestatic 98, 3) := by decide +kernel
theorem dL_fits_5 : decode cL_fits 5 = .ok (.istore_n 2, 1) := by decide +kernel
theorem dL_fits_6 : decode cL_fits 6 = .ok (.aload_n 0, 1) := by decide +kernel
theorem dL_fits_7 : decode cL_fits 7 = .ok (.iload_n 1, 1) := by decide +kernel
theorem dL_fits_8 : decode cL_fits 8 = .ok (.invokestatic 103, 3) := by decide +kernel
theorem dL_fits_11 : decode cL_fits 11 = .ok (.istore_n 3, 1) := by decide +kernel
theorem dL_fits_12 : decode cL_fits 12 = .ok (.iload_n 2, 1) := by decide +kernel
theorem dL_fits_13 : decode cL_fits 13 = .ok (.ifCond .eq 14, 3) := by decide +kernel
theorem dL_fits_16 : decode cL_fits 16 = .ok (.iload_n 2, 1) := by decide +kernel
theorem dL_fits_17 : decode cL_fits 17 = .ok (.iconst 1, 1) := by decide +kernel
theorem dL_fits_18 : decode cL_fits 18 = .ok (.if_icmp .eq 9, 3) := by decide +kernel
theorem dL_fits_21 : decode cL_fits 21 = .ok (.iload_n 2, 1) := by decide +kernel
theorem dL_fits_22 : decode cL_fits 22 = .ok (.bipush 6, 2) := by decide +kernel
theorem dL_fits_24 : decode cL_fits 24 = .ok (.if_icmp .ne 7, 3) := by decide +kernel
theorem dL_fits_27 : decode cL_fits 27 = .ok (.iconst 1, 1) := by decide +kernel
theorem dL_fits_28 : decode cL_fits 28 = .ok (.goto 4, 3) := by decide +kernel
theorem dL_fits_31 : decode cL_fits 31 = .ok (.iconst 0, 1) := by decide +kernel
theorem dL_fits_32 : decode cL_fits 32 = .ok (.istore 4, 2) := by decide +kernel
theorem dL_fits_34 : decode cL_fits 34 = .ok (.iload_n 2, 1) := by decide +kernel
theorem dL_fits_35 : decode cL_fits 35 = .ok (.ifCond .lt 80, 3) := by decide +kernel
theorem dL_fits_38 : decode cL_fits 38 = .ok (.iload_n 2, 1) := by decide +kernel
theorem dL_fits_39 : decode cL_fits 39 = .ok (.bipush 6, 2) := by decide +kernel
theorem dL_fits_41 : decode cL_fits 41 = .ok (.if_icmp .gt 74, 3) := by decide +kernel
theorem dL_fits_44 : decode cL_fits 44 = .ok (.iload 4, 2) := by decide +kernel
theorem dL_fits_46 : decode cL_fits 46 = .ok (.iload_n 3, 1) := by decide +kernel
theorem dL_fits_47 : decode cL_fits 47 = .ok (.ifCond .lt 7, 3) := by decide +kernel
theorem dL_fits_50 : decode cL_fits 50 = .ok (.iconst 1, 1) := by decide +kernel
theorem dL_fits_51 : decode cL_fits 51 = .ok (.goto 4, 3) := by decide +kernel
theorem dL_fits_54 : decode cL_fits 54 = .ok (.iconst 0, 1) := by decide +kernel
theorem dL_fits_55 : decode cL_fits 55 = .ok (.if_icmp .ne 60, 3) := by decide +kernel
theorem dL_fits_58 : decode cL_fits 58 = .ok (.iload_n 3, 1) := by decide +kernel
theorem dL_fits_59 : decode cL_fits 59 = .ok (.bipush 16, 2) := by decide +kernel
theorem dL_fits_61 : decode cL_fits 61 = .ok (.if_icmp .ge 54, 3) := by decide +kernel
theorem dL_fits_64 : decode cL_fits 64 = .ok (.aload_n 0, 1) := by decide +kernel
theorem dL_fits_65 : decode cL_fits 65 = .ok (.iload_n 1, 1) := by decide +kernel
theorem dL_fits_66 : decode cL_fits 66 = .ok (.invokestatic 105, 3) := by decide +kernel
theorem dL_fits_69 : decode cL_fits 69 = .ok (.ifCond .lt 46, 3) := by decide +kernel
theorem dL_fits_72 : decode cL_fits 72 = .ok (.aload_n 0, 1) := by decide +kernel
theorem dL_fits_73 : decode cL_fits 73 = .ok (.iload_n 1, 1) := by decide +kernel
theorem dL_fits_74 : decode cL_fits 74 = .ok (.invokestatic 105, 3) := by decide +kernel
theorem dL_fits_77 : decode cL_fits 77 = .ok (.aload_n 0, 1) := by decide +kernel
theorem dL_fits_78 : decode cL_fits 78 = .ok (.iload_n 1, 1) := by decide +kernel
theorem dL_fits_79 : decode cL_fits 79 = .ok (.invokestatic 107, 3) := by decide +kernel
theorem dL_fits_82 : decode cL_fits 82 = .ok (.if_icmp .ne 33, 3) := by decide +kernel
theorem dL_fits_85 : decode cL_fits 85 = .ok (.aload_n 0, 1) := by decide +kernel
theorem dL_fits_86 : decode cL_fits 86 = .ok (.iload_n 1, 1) := by decide +kernel
theorem dL_fits_87 : decode cL_fits 87 = .ok (.invokestatic 110, 3) := by decide +kernel
theorem dL_fits_90 : decode cL_fits 90 = .ok (.ifCond .lt 25, 3) := by decide +kernel
theorem dL_fits_93 : decode cL_fits 93 = .ok (.aload_n 0, 1) := by decide +kernel
theorem dL_fits_94 : decode cL_fits 94 = .ok (.iload_n 1, 1) := by decide +kernel
theorem dL_fits_95 : decode cL_fits 95 = .ok (.invokestatic 110, 3) := by decide +kernel
theorem dL_fits_98 : decode cL_fits 98 = .ok (.bipush 8, 2) := by decide +kernel
theorem dL_fits_100 : decode cL_fits 100 = .ok (.if_icmp .gt 15, 3) := by decide +kernel
theorem dL_fits_103 : decode cL_fits 103 = .ok (.aload_n 0, 1) := by decide +kernel
theorem dL_fits_104 : decode cL_fits 104 = .ok (.iload_n 1, 1) := by decide +kernel
theorem dL_fits_105 : decode cL_fits 105 = .ok (.invokestatic 112, 3) := by decide +kernel
theorem dL_fits_108 : decode cL_fits 108 = .ok (.ifCond .lt 7, 3) := by decide +kernel
theorem dL_fits_111 : decode cL_fits 111 = .ok (.iconst 1, 1) := by decide +kernel
theorem dL_fits_112 : decode cL_fits 112 = .ok (.goto 4, 3) := by decide +kernel
theorem dL_fits_115 : decode cL_fits 115 = .ok (.iconst 0, 1) := by decide +kernel
theorem dL_fits_116 : decode cL_fits 116 = .ok (.istore 5, 2) := by decide +kernel
theorem dL_fits_118 : decode cL_fits 118 = .ok (.iconst 0, 1) := by decide +kernel
theorem dL_fits_119 : decode cL_fits 119 = .ok (.istore 6, 2) := by decide +kernel
theorem dL_fits_121 : decode cL_fits 121 = .ok (.iload 6, 2) := by decide +kernel
theorem dL_fits_123 : decode cL_fits 123 = .ok (.bipush 8, 2) := by decide +kernel
theorem dL_fits_125 : decode cL_fits 125 = .ok (.if_icmp .ge 58, 3) := by decide +kernel
theorem dL_fits_128 : decode cL_fits 128 = .ok (.iload 5, 2) := by decide +kernel
theorem dL_fits_130 : decode cL_fits 130 = .ok (.ifCond .eq 53, 3) := by decide +kernel
theorem dL_fits_133 : decode cL_fits 133 = .ok (.aload_n 0, 1) := by decide +kernel
theorem dL_fits_134 : decode cL_fits 134 = .ok (.iload_n 1, 1) := by decide +kernel
theorem dL_fits_135 : decode cL_fits 135 = .ok (.iload 6, 2) := by decide +kernel
theorem dL_fits_137 : decode cL_fits 137 = .ok (.invokestatic 114, 3) := by decide +kernel
theorem dL_fits_140 : decode cL_fits 140 = .ok (.istore 7, 2) := by decide +kernel
theorem dL_fits_142 : decode cL_fits 142 = .ok (.iload 7, 2) := by decide +kernel
theorem dL_fits_144 : decode cL_fits 144 = .ok (.aload_n 0, 1) := by decide +kernel
theorem dL_fits_145 : decode cL_fits 145 = .ok (.iload_n 1, 1) := by decide +kernel
theorem dL_fits_146 : decode cL_fits 146 = .ok (.iload 6, 2) := by decide +kernel
theorem dL_fits_148 : decode cL_fits 148 = .ok (.invokestatic 117, 3) := by decide +kernel
theorem dL_fits_151 : decode cL_fits 151 = .ok (.if_icmp .ne 23, 3) := by decide +kernel
theorem dL_fits_154 : decode cL_fits 154 = .ok (.iload 7, 2) := by decide +kernel
theorem dL_fits_156 : decode cL_fits 156 = .ok (.sipush (-9999), 3) := by decide +kernel
theorem dL_fits_159 : decode cL_fits 159 = .ok (.if_icmp .lt 15, 3) := by decide +kernel
theorem dL_fits_162 : decode cL_fits 162 = .ok (.iload 7, 2) := by decide +kernel
theorem dL_fits_164 : decode cL_fits 164 = .ok (.sipush 9999, 3) := by decide +kernel
theorem dL_fits_167 : decode cL_fits 167 = .ok (.if_icmp .gt 7, 3) := by decide +kernel
theorem dL_fits_170 : decode cL_fits 170 = .ok (.iconst 1, 1) := by decide +kernel
theorem dL_fits_171 : decode cL_fits 171 = .ok (.goto 4, 3) := by decide +kernel
theorem dL_fits_174 : decode cL_fits 174 = .ok (.iconst 0, 1) := by decide +kernel
theorem dL_fits_175 : decode cL_fits 175 = .ok (.istore 5, 2) := by decide +kernel
theorem dL_fits_177 : decode cL_fits 177 = .ok (.iinc 6 1, 3) := by decide +kernel
theorem dL_fits_180 : decode cL_fits 180 = .ok (.goto (-59), 3) := by decide +kernel
theorem dL_fits_183 : decode cL_fits 183 = .ok (.aload_n 0, 1) := by decide +kernel
theorem dL_fits_184 : decode cL_fits 184 = .ok (.iload_n 1, 1) := by decide +kernel
theorem dL_fits_185 : decode cL_fits 185 = .ok (.invokestatic 119, 3) := by decide +kernel
theorem dL_fits_188 : decode cL_fits 188 = .ok (.istore 6, 2) := by decide +kernel
theorem dL_fits_190 : decode cL_fits 190 = .ok (.iconst 0, 1) := by decide +kernel
theorem dL_fits_191 : decode cL_fits 191 = .ok (.istore 7, 2) := by decide +kernel
theorem dL_fits_193 : decode cL_fits 193 = .ok (.iload 7, 2) := by decide +kernel
theorem dL_fits_195 : decode cL_fits 195 = .ok (.iload 6, 2) := by decide +kernel
theorem dL_fits_197 : decode cL_fits 197 = .ok (.if_icmp .ge 48, 3) := by decide +kernel
theorem dL_fits_200 : decode cL_fits 200 = .ok (.iload 5, 2) := by decide +kernel
theorem dL_fits_202 : decode cL_fits 202 = .ok (.ifCond .eq 43, 3) := by decide +kernel
theorem dL_fits_205 : decode cL_fits 205 = .ok (.aload_n 0, 1) := by decide +kernel
theorem dL_fits_206 : decode cL_fits 206 = .ok (.iload_n 1, 1) := by decide +kernel
theorem dL_fits_207 : decode cL_fits 207 = .ok (.iload 7, 2) := by decide +kernel
theorem dL_fits_209 : decode cL_fits 209 = .ok (.invokestatic 121, 3) := by decide +kernel
theorem dL_fits_212 : decode cL_fits 212 = .ok (.istore 8, 2) := by decide +kernel
theorem dL_fits_214 : decode cL_fits 214 = .ok (.iload 8, 2) := by decide +kernel
theorem dL_fits_216 : decode cL_fits 216 = .ok (.ifCond .lt 20, 3) := by decide +kernel
theorem dL_fits_219 : decode cL_fits 219 = .ok (.iload 8, 2) := by decide +kernel
theorem dL_fits_221 : decode cL_fits 221 = .ok (.bipush 10, 2) := by decide +kernel
theorem dL_fits_223 : decode cL_fits 223 = .ok (.idiv, 1) := by decide +kernel
theorem dL_fits_224 : decode cL_fits 224 = .ok (.bipush 100, 2) := by decide +kernel
theorem dL_fits_226 : decode cL_fits 226 = .ok (.irem, 1) := by decide +kernel
theorem dL_fits_227 : decode cL_fits 227 = .ok (.bipush 16, 2) := by decide +kernel
theorem dL_fits_229 : decode cL_fits 229 = .ok (.if_icmp .ge 7, 3) := by decide +kernel
theorem dL_fits_232 : decode cL_fits 232 = .ok (.iconst 1, 1) := by decide +kernel
theorem dL_fits_233 : decode cL_fits 233 = .ok (.goto 4, 3) := by decide +kernel
theorem dL_fits_236 : decode cL_fits 236 = .ok (.iconst 0, 1) := by decide +kernel
theorem dL_fits_237 : decode cL_fits 237 = .ok (.istore 5, 2) := by decide +kernel
theorem dL_fits_239 : decode cL_fits 239 = .ok (.iinc 7 1, 3) := by decide +kernel
theorem dL_fits_242 : decode cL_fits 242 = .ok (.goto (-49), 3) := by decide +kernel
theorem dL_fits_245 : decode cL_fits 245 = .ok (.iload 5, 2) := by decide +kernel
theorem dL_fits_247 : decode cL_fits 247 = .ok (.ifCond .eq 31, 3) := by decide +kernel
theorem dL_fits_250 : decode cL_fits 250 = .ok (.aload_n 0, 1) := by decide +kernel
theorem dL_fits_251 : decode cL_fits 251 = .ok (.iload_n 1, 1) := by decide +kernel
theorem dL_fits_252 : decode cL_fits 252 = .ok (.iload 6, 2) := by decide +kernel
theorem dL_fits_254 : decode cL_fits 254 = .ok (.invokestatic 121, 3) := by decide +kernel
theorem dL_fits_257 : decode cL_fits 257 = .ok (.bipush (-101), 2) := by decide +kernel
theorem dL_fits_259 : decode cL_fits 259 = .ok (.if_icmp .ne 19, 3) := by decide +kernel
theorem dL_fits_262 : decode cL_fits 262 = .ok (.aload_n 0, 1) := by decide +kernel
theorem dL_fits_263 : decode cL_fits 263 = .ok (.iload_n 1, 1) := by decide +kernel
theorem dL_fits_264 : decode cL_fits 264 = .ok (.bipush 8, 2) := by decide +kernel
theorem dL_fits_266 : decode cL_fits 266 = .ok (.invokestatic 114, 3) := by decide +kernel
theorem dL_fits_269 : decode cL_fits 269 = .ok (.ldc 76, 2) := by decide +kernel
theorem dL_fits_271 : decode cL_fits 271 = .ok (.if_icmp .ne 7, 3) := by decide +kernel
theorem dL_fits_274 : decode cL_fits 274 = .ok (.iconst 1, 1) := by decide +kernel
theorem dL_fits_275 : decode cL_fits 275 = .ok (.goto 4, 3) := by decide +kernel
theorem dL_fits_278 : decode cL_fits 278 = .ok (.iconst 0, 1) := by decide +kernel
theorem dL_fits_279 : decode cL_fits 279 = .ok (.ireturn, 1) := by decide +kernel
theorem dL_law_0 : decode cL_law 0 = .ok (.new 10, 3) := by decide +kernel
theorem dL_law_3 : decode cL_law 3 = .ok (.dup, 1) := by decide +kernel
theorem dL_law_4 : decode cL_law 4 = .ok (.invokespecial 123, 3) := by decide +kernel
theorem dL_law_7 : decode cL_law 7 = .ok (.astore_n 1, 1) := by decide +kernel
theorem dL_law_8 : decode cL_law 8 = .ok (.iconst 4, 1) := by decide +kernel
theorem dL_law_9 : decode cL_law 9 = .ok (.newarray .int, 2) := by decide +kernel
theorem dL_law_11 : decode cL_law 11 = .ok (.astore_n 2, 1) := by decide +kernel
theorem dL_law_12 : decode cL_law 12 = .ok (.iconst 4, 1) := by decide +kernel
theorem dL_law_13 : decode cL_law 13 = .ok (.newarray .int, 2) := by decide +kernel
theorem dL_law_15 : decode cL_law 15 = .ok (.astore_n 3, 1) := by decide +kernel
theorem dL_law_16 : decode cL_law 16 = .ok (.bipush 24, 2) := by decide +kernel
theorem dL_law_18 : decode cL_law 18 = .ok (.newarray .int, 2) := by decide +kernel
theorem dL_law_20 : decode cL_law 20 = .ok (.astore 4, 2) := by decide +kernel
theorem dL_law_22 : decode cL_law 22 = .ok (.iconst 0, 1) := by decide +kernel
theorem dL_law_23 : decode cL_law 23 = .ok (.istore 5, 2) := by decide +kernel
theorem dL_law_25 : decode cL_law 25 = .ok (.iconst 0, 1) := by decide +kernel
theorem dL_law_26 : decode cL_law 26 = .ok (.istore 6, 2) := by decide +kernel
theorem dL_law_28 : decode cL_law 28 = .ok (.aload_n 1, 1) := by decide +kernel
theorem dL_law_29 : decode cL_law 29 = .ok (.invokevirtual 124, 3) := by decide +kernel
theorem dL_law_32 : decode cL_law 32 = .ok (.ifCond .ne 7, 3) := by decide +kernel
theorem dL_law_35 : decode cL_law 35 = .ok (.iconst 1, 1) := by decide +kernel
theorem dL_law_36 : decode cL_law 36 = .ok (.goto 4, 3) := by decide +kernel
theorem dL_law_39 : decode cL_law 39 = .ok (.iconst 0, 1) := by decide +kernel
theorem dL_law_40 : decode cL_law 40 = .ok (.istore 7, 2) := by decide +kernel
theorem dL_law_42 : decode cL_law 42 = .ok (.iconst 0, 1) := by decide +kernel
theorem dL_law_43 : decode cL_law 43 = .ok (.istore 8, 2) := by decide +kernel
theorem dL_law_45 : decode cL_law 45 = .ok (.iload 8, 2) := by decide +kernel
theorem dL_law_47 : decode cL_law 47 = .ok (.bipush 60, 2) := by decide +kernel
theorem dL_law_49 : decode cL_law 49 = .ok (.if_icmp .ge 1505, 3) := by decide +kernel
theorem dL_law_52 : decode cL_law 52 = .ok (.iload 7, 2) := by decide +kernel
theorem dL_law_54 : decode cL_law 54 = .ok (.ifCond .eq 1500, 3) := by decide +kernel
theorem dL_law_57 : decode cL_law 57 = .ok (.aload_n 0, 1) := by decide +kernel
theorem dL_law_58 : decode cL_law 58 = .ok (.iload 8, 2) := by decide +kernel
theorem dL_law_60 : decode cL_law 60 = .ok (.invokestatic 128, 3) := by decide +kernel
theorem dL_law_63 : decode cL_law 63 = .ok (.istore 9, 2) := by decide +kernel
theorem dL_law_65 : decode cL_law 65 = .ok (.iload 9, 2) := by decide +kernel
theorem dL_law_67 : decode cL_law 67 = .ok (.bipush 16, 2) := by decide +kernel
theorem dL_law_69 : decode cL_law 69 = .ok (.idiv, 1) := by decide +kernel
theorem dL_law_70 : decode cL_law 70 = .ok (.istore 10, 2) := by decide +kernel
theorem dL_law_72 : decode cL_law 72 = .ok (.iload 9, 2) := by decide +kernel
theorem dL_law_74 : decode cL_law 74 = .ok (.bipush 16, 2) := by decide +kernel
theorem dL_law_76 : decode cL_law 76 = .ok (.irem, 1) := by decide +kernel
theorem dL_law_77 : decode cL_law 77 = .ok (.istore 11, 2) := by decide +kernel
theorem dL_law_79 : decode cL_law 79 = .ok (.iload 10, 2) := by decide +kernel
theorem dL_law_81 : decode cL_law 81 = .ok (.iconst 5, 1) := by decide +kernel
theorem dL_law_82 : decode cL_law 82 = .ok (.idiv, 1) := by decide +kernel
theorem dL_law_83 : decode cL_law 83 = .ok (.iconst 3, 1) := by decide +kernel
theorem dL_law_84 : decode cL_law 84 = .ok (.irem, 1) := by decide +kernel
theorem dL_law_85 : decode cL_law 85 = .ok (.istore 12, 2) := by decide +kernel
theorem dL_law_87 : decode cL_law 87 = .ok (.iload 5, 2) := by decide +kernel
theorem dL_law_89 : decode cL_law 89 = .ok (.ifCond .ne 7, 3) := by decide +kernel
theorem dL_law_92 : decode cL_law 92 = .ok (.iconst 0, 1) := by decide +kernel
theorem dL_law_93 : decode cL_law 93 = .ok (.goto 8, 3) := by decide +kernel
theorem dL_law_96 : decode cL_law 96 = .ok (.iload 10, 2) := by decide +kernel
theorem dL_law_98 : decode cL_law 98 = .ok (.iload 5, 2) := by decide +kernel
theorem dL_law_100 : decode cL_law 100 = .ok (.irem, 1) := by decide +kernel
theorem dL_law_101 : decode cL_law 101 = .ok (.istore 13, 2) := by decide +kernel
theorem dL_law_103 : decode cL_law 103 = .ok (.iload 10, 2) := by decide +kernel
theorem dL_law_105 : decode cL_law 105 = .ok (.bipush 15, 2) := by decide +kernel
theorem dL_law_107 : decode cL_law 107 = .ok (.idiv, 1) := by decide +kernel
theorem dL_law_108 : decode cL_law 108 = .ok (.istore 14, 2) := by decide +kernel
theorem dL_law_110 : decode cL_law 110 = .ok (.iload 11, 2) := by decide +kernel
theorem dL_law_112 : decode cL_law 112 = .ok (.iconst 2, 1) := by decide +kernel
theorem dL_law_113 : decode cL_law 113 = .ok (.if_icmp .ge 367, 3) := by decide +kernel
theorem dL_law_116 : decode cL_law 116 = .ok (.iconst 2, 1) := by decide +kernel
theorem dL_law_117 : decode cL_law 117 = .ok (.iload 14, 2) := by decide +kernel
theorem dL_law_119 : decode cL_law 119 = .ok (.bipush 8, 2) := by decide +kernel
theorem dL_law_121 : decode cL_law 121 = .ok (.irem, 1) := by decide +kernel
theorem dL_law_122 : decode cL_law 122 = .ok (.iadd, 1) := by decide +kernel
theorem dL_law_123 : decode cL_law 123 = .ok (.istore 15, 2) := by decide +kernel
theorem dL_law_125 : decode cL_law 125 = .ok (.iconst 0, 1) := by decide +kernel
theorem dL_law_126 : decode cL_law 126 = .ok (.istore 16, 2) := by decide +kernel
theorem dL_law_128 : decode cL_law 128 = .ok (.iload 16, 2) := by decide +kernel
theorem dL_law_130 : decode cL_law 130 = .ok (.iload 15, 2) := by decide +kernel
theorem dL_law_132 : decode cL_law 132 = .ok (.if_icmp .ge 253, 3) := by decide +kernel
theorem dL_law_135 : decode cL_law 135 = .ok (.iload 7, 2) := by decide +kernel
theorem dL_law_137 : decode cL_law 137 = .ok (.ifCond .eq 248, 3) := by decide +kernel
theorem dL_law_140 : decode cL_law 140 = .ok (.aload_n 0, 1) := by decide +kernel
theorem dL_law_141 : decode cL_law 141 = .ok (.iload 8, 2) := by decide +kernel
theorem dL_law_143 : decode cL_law 143 = .ok (.bipush 7, 2) := by decide +kernel
theorem dL_law_145 : decode cL_law 145 = .ok (.iload 16, 2) := by decide +kernel
theorem dL_law_147 : decode cL_law 147 = .ok (.imul, 1) := by decide +kernel
theorem dL_law_148 : decode cL_law 148 = .ok (.iadd, 1) := by decide +kernel
theorem dL_law_149 : decode cL_law 149 = .ok (.bipush 67, 2) := by decide +kernel
theorem dL_law_151 : decode cL_law 151 = .ok (.irem, 1) := by decide +kernel
theorem dL_law_152 : decode cL_law 152 = .ok (.invokestatic 128, 3) := by decide +kernel
theorem dL_law_155 : decode cL_law 155 = .ok (.iconst 5, 1) := by decide +kernel
theorem dL_law_156 : decode cL_law 156 = .ok (.idiv, 1) := by decide +kernel
theorem dL_law_157 : decode cL_law 157 = .ok (.iconst 3, 1) := by decide +kernel
theorem dL_law_158 : decode cL_law 158 = .ok (.iload 16, 2) := by decide +kernel
theorem dL_law_160 : decode cL_law 160 = .ok (.imul, 1) := by decide +kernel
theorem dL_law_161 : decode cL_law 161 = .ok (.iadd, 1) := by decide +kernel
theorem dL_law_162 : decode cL_law 162 = .ok (.istore 17, 2) := by decide +kernel
theorem dL_law_164 : decode cL_law 164 = .ok (.iload 17, 2) := by decide +kernel
theorem dL_law_166 : decode cL_law 166 = .ok (.bipush 20, 2) := by decide +kernel
theorem dL_law_168 : decode cL_law 168 = .ok (.irem, 1) := by decide +kernel
theorem dL_law_169 : decode cL_law 169 = .ok (.istore 18, 2) := by decide +kernel
theorem dL_law_171 : decode cL_law 171 = .ok (.iload 18, 2) := by decide +kernel
theorem dL_law_173 : decode cL_law 173 = .ok (.bipush 6, 2) := by decide +kernel
theorem dL_law_175 : decode cL_law 175 = .ok (.if_icmp .ge 7, 3) := by decide +kernel
theorem dL_law_178 : decode cL_law 178 = .ok (.iconst 0, 1) := by decide +kernel
theorem dL_law_179 : decode cL_law 179 = .ok (.goto 30, 3) := by decide +kernel
theorem dL_law_182 : decode cL_law 182 = .ok (.iload 18, 2) := by decide +kernel
theorem dL_law_184 : decode cL_law 184 = .ok (.bipush 6, 2) := by decide +kernel
theorem dL_law_186 : decode cL_law 186 = .ok (.if_icmp .ne 7, 3) := by decide +kernel
theorem dL_law_189 : decode cL_law 189 = .ok (.iconst 1, 1) := by decide +kernel
theorem dL_law_190 : decode cL_law 190 = .ok (.goto 19, 3) := by decide +kernel
theorem dL_law_193 : decode cL_law 193 = .ok (.iload 18, 2) := by decide +kernel
theorem dL_law_195 : decode cL_law 195 = .ok (.bipush 9, 2) := by decide +kernel
theorem dL_law_197 : decode cL_law 197 = .ok (.if_icmp .ge 7, 3) := by decide +kernel
theorem dL_law_200 : decode cL_law 200 = .ok (.iconst 3, 1) := by decide +kernel
theorem dL_law_201 : decode cL_law 201 = .ok (.goto 8, 3) := by decide +kernel
theorem dL_law_204 : decode cL_law 204 = .ok (.iload 18, 2) := by decide +kernel
theorem dL_law_206 : decode cL_law 206 = .ok (.bipush 7, 2) := by decide +kernel
theorem dL_law_208 : decode cL_law 208 = .ok (.isub, 1) := by decide +kernel
theorem dL_law_209 : decode cL_law 209 = .ok (.istore 19, 2) := by decide +kernel
theorem dL_law_211 : decode cL_law 211 = .ok (.iload 19, 2) := by decide +kernel
theorem dL_law_213 : decode cL_law 213 = .ok (.ifCond .ne 14, 3) := by decide +kernel
theorem dL_law_216 : decode cL_law 216 = .ok (.iload 17, 2) := by decide +kernel
theorem dL_law_218 : decode cL_law 218 = .ok (.bipush 20, 2) := by decide +kernel
theorem dL_law_220 : decode cL_law 220 = .ok (.idiv, 1) := by decide +kernel
theorem dL_law_221 : decode cL_law 221 = .ok (.bipush 16, 2) := by decide +kernel
theorem dL_law_223 : decode cL_law 223 = .ok (.irem, 1) := by decide +kernel
theorem dL_law_224 : decode cL_law 224 = .ok (.goto 92, 3) := by decide +kernel
theorem dL_law_227 : decode cL_law 227 = .ok (.iload 19, 2) := by decide +kernel
theorem dL_law_229 : decode cL_law 229 = .ok (.iconst 1, 1) := by decide +kernel
theorem dL_law_230 : decode cL_law 230 = .ok (.if_icmp .ne 18, 3) := by decide +kernel
theorem dL_law_233 : decode cL_law 233 = .ok (.iload 17, 2) := by decide +kernel
theorem dL_law_235 : decode cL_law 235 = .ok (.bipush 20, 2) := by decide +kernel
theorem dL_law_237 : decode cL_law 237 = .ok (.idiv, 1) := by decide +kernel
theorem dL_law_238 : decode cL_law 238 = .ok (.sipush 199, 3) := by decide +kernel
theorem dL_law_241 : decode cL_law 241 = .ok (.irem, 1) := by decide +kernel
theorem dL_law_242 : decode cL_law 242 = .ok (.bipush 99, 2) := by decide +kernel
theorem dL_law_244 : decode cL_law 244 = .ok (.isub, 1) := by decide +kernel
theorem dL_law_245 : decode cL_law 245 = .ok (.goto 71, 3) := by decide +kernel
theorem dL_law_248 : decode cL_law 248 = .ok (.iload 19, 2) := by decide +kernel
theorem dL_law_250 : decode cL_law 250 = .ok (.iconst 2, 1) := by decide +kernel
theorem dL_law_251 : decode cL_law 251 = .ok (.if_icmp .eq 9, 3) := by decide +kernel
theorem dL_law_254 : decode cL_law 254 = .ok (.iload 19, 2) := by decide +kernel
theorem dL_law_256 : decode cL_law 256 = .ok (.iconst 3, 1) := by decide +kernel
theorem dL_law_257 : decode cL_law 257 = .ok (.if_icmp .ne 14, 3) := by decide +kernel
theorem dL_law_260 : decode cL_law 260 = .ok (.iload 17, 2) := by decide +kernel
theorem dL_law_262 : decode cL_law 262 = .ok (.bipush 20, 2) := by decide +kernel
theorem dL_law_264 : decode cL_law 264 = .ok (.idiv, 1) := by decide +kernel
theorem dL_law_265 : decode cL_law 265 = .ok (.bipush 8, 2) := by decide +kernel
theorem dL_law_267 : decode cL_law 267 = .ok (.irem, 1) := by decide +kernel
theorem dL_law_268 : decode cL_law 268 = .ok (.goto 48, 3) := by decide +kernel
theorem dL_law_271 : decode cL_law 271 = .ok (.iload 19, 2) := by decide +kernel
theorem dL_law_273 : decode cL_law 273 = .ok (.bipush 8, 2) := by decide +kernel
theorem dL_law_275 : decode cL_law 275 = .ok (.if_icmp .eq 10, 3) := by decide +kernel
theorem dL_law_278 : decode cL_law 278 = .ok (.iload 19, 2) := by decide +kernel
theorem dL_law_280 : decode cL_law 280 = .ok (.bipush 9, 2) := by decide +kernel
theorem dL_law_282 : decode cL_law 282 = .ok (.if_icmp .ne 14, 3) := by decide +kernel
theorem dL_law_285 : decode cL_law 285 = .ok (.iload 17, 2) := by decide +kernel
theorem dL_law_287 : decode cL_law 287 = .ok (.bipush 20, 2) := by decide +kernel
theorem dL_law_289 : decode cL_law 289 = .ok (.idiv, 1) := by decide +kernel
theorem dL_law_290 : decode cL_law 290 = .ok (.bipush 25, 2) := by decide +kernel
theorem dL_law_292 : decode cL_law 292 = .ok (.irem, 1) := by decide +kernel
theorem dL_law_293 : decode cL_law 293 = .ok (.goto 23, 3) := by decide +kernel
theorem dL_law_296 : decode cL_law 296 = .ok (.iload 19, 2) := by decide +kernel
theorem dL_law_298 : decode cL_law 298 = .ok (.bipush 10, 2) := by decide +kernel
theorem dL_law_300 : decode cL_law 300 = .ok (.if_icmp .ne 15, 3) := by decide +kernel
theorem dL_law_303 : decode cL_law 303 = .ok (.iload 17, 2) := by decide +kernel
theorem dL_law_305 : decode cL_law 305 = .ok (.bipush 20, 2) := by decide +kernel
theorem dL_law_307 : decode cL_law 307 = .ok (.idiv, 1) := by decide +kernel
theorem dL_law_308 : decode cL_law 308 = .ok (.sipush 501, 3) := by decide +kernel
theorem dL_law_311 : decode cL_law 311 = .ok (.irem, 1) := by decide +kernel
theorem dL_law_312 : decode cL_law 312 = .ok (.goto 4, 3) := by decide +kernel
theorem dL_law_315 : decode cL_law 315 = .ok (.iconst 0, 1) := by decide +kernel
theorem dL_law_316 : decode cL_law 316 = .ok (.istore 20, 2) := by decide +kernel
theorem dL_law_318 : decode cL_law 318 = .ok (.aload_n 1, 1) := by decide +kernel
theorem dL_law_319 : decode cL_law 319 = .ok (.iload 12, 2) := by decide +kernel
theorem dL_law_321 : decode cL_law 321 = .ok (.iload 19, 2) := by decide +kernel
theorem dL_law_323 : decode cL_law 323 = .ok (.iload 20, 2) := by decide +kernel
theorem dL_law_325 : decode cL_law 325 = .ok (.invokestatic 132, 3) := by decide +kernel
theorem dL_law_328 : decode cL_law 328 = .ok (.istore 21, 2) := by decide +kernel
theorem dL_law_330 : decode cL_law 330 = .ok (.iload 21, 2) := by decide +kernel
theorem dL_law_332 : decode cL_law 332 = .ok (.aload_n 2, 1) := by decide +kernel
theorem dL_law_333 : decode cL_law 333 = .ok (.iload 12, 2) := by decide +kernel
theorem dL_law_335 : decode cL_law 335 = .ok (.iaload, 1) := by decide +kernel
theorem dL_law_336 : decode cL_law 336 = .ok (.bipush 24, 2) := by decide +kernel
theorem dL_law_338 : decode cL_law 338 = .ok (.if_icmp .ne 8, 3) := by decide +kernel
theorem dL_law_341 : decode cL_law 341 = .ok (.bipush (-103), 2) := by decide +kernel
theorem dL_law_343 : decode cL_law 343 = .ok (.goto 9, 3) := by decide +kernel
theorem dL_law_346 : decode cL_law 346 = .ok (.aload_n 2, 1) := by decide +kernel
theorem dL_law_347 : decode cL_law 347 = .ok (.iload 12, 2) := by decide +kernel
theorem dL_law_349 : decode cL_law 349 = .ok (.iaload, 1) := by decide +kernel
theorem dL_law_350 : decode cL_law 350 = .ok (.iconst 1, 1) := by decide +kernel
theorem dL_law_351 : decode cL_law 351 = .ok (.iadd, 1) := by decide +kernel
theorem dL_law_352 : decode cL_law 352 = .ok (.if_icmp .ne 7, 3) := by decide +kernel
theorem dL_law_355 : decode cL_law 355 = .ok (.iconst 1, 1) := by decide +kernel
theorem dL_law_356 : decode cL_law 356 = .ok (.goto 4, 3) := by decide +kernel
theorem dL_law_359 : decode cL_law 359 = .ok (.iconst 0, 1) := by decide +kernel
theorem dL_law_360 : decode cL_law 360 = .ok (.istore 7, 2) := by decide +kernel
theorem dL_law_362 : decode cL_law 362 = .ok (.aload_n 2, 1) := by decide +kernel
theorem dL_law_363 : decode cL_law 363 = .ok (.iload 12, 2) := by decide +kernel
theorem dL_law_365 : decode cL_law 365 = .ok (.dup2, 1) := by decide +kernel
theorem dL_law_366 : decode cL_law 366 = .ok (.iaload, 1) := by decide +kernel
theorem dL_law_367 : decode cL_law 367 = .ok (.iload 21, 2) := by decide +kernel
theorem dL_law_369 : decode cL_law 369 = .ok (.ifCond .le 7, 3) := by decide +kernel
theorem dL_law_372 : decode cL_law 372 = .ok (.iconst 1, 1) := by decide +kernel
theorem dL_law_373 : decode cL_law 373 = .ok (.goto 4, 3) := by decide +kernel
theorem dL_law_376 : decode cL_law 376 = .ok (.iconst 0, 1) := by decide +kernel
theorem dL_law_377 : decode cL_law 377 = .ok (.iadd, 1) := by decide +kernel
theorem dL_law_378 : decode cL_law 378 = .ok (.iastore, 1) := by decide +kernel
theorem dL_law_379 : decode cL_law 379 = .ok (.iinc 16 1, 3) := by decide +kernel
theorem dL_law_382 : decode cL_law 382 = .ok (.goto (-254), 3) := by decide +kernel
theorem dL_law_385 : decode cL_law 385 = .ok (.aload_n 2, 1) := by decide +kernel
theorem dL_law_386 : decode cL_law 386 = .ok (.iload 12, 2) := by decide +kernel
theorem dL_law_388 : decode cL_law 388 = .ok (.iaload, 1) := by decide +kernel
theorem dL_law_389 : decode cL_law 389 = .ok (.ifCond .le 16, 3) := by decide +kernel
theorem dL_law_392 : decode cL_law 392 = .ok (.aload_n 3, 1) := by decide +kernel
theorem dL_law_393 : decode cL_law 393 = .ok (.iload 12, 2) := by decide +kernel
theorem dL_law_395 : decode cL_law 395 = .ok (.iaload, 1) := by decide +kernel
theorem dL_law_396 : decode cL_law 396 = .ok (.bipush 6, 2) := by decide +kernel
theorem dL_law_398 : decode cL_law 398 = .ok (.if_icmp .ge 7, 3) := by decide +kernel
theorem dL_law_401 : decode cL_law 401 = .ok (.iconst 1, 1) := by decide +kernel
theorem dL_law_402 : decode cL_law 402 = .ok (.goto 4, 3) := by decide +kernel
theorem dL_law_405 : decode cL_law 405 = .ok (.iconst 0, 1) := by decide +kernel
theorem dL_law_406 : decode cL_law 406 = .ok (.istore 16, 2) := by decide +kernel
theorem dL_law_408 : decode cL_law 408 = .ok (.iload 7, 2) := by decide +kernel
theorem dL_law_410 : decode cL_law 410 = .ok (.ifCond .eq 30, 3) := by decide +kernel
theorem dL_law_413 : decode cL_law 413 = .ok (.aload_n 1, 1) := by decide +kernel
theorem dL_law_414 : decode cL_law 414 = .ok (.iload 12, 2) := by decide +kernel
theorem dL_law_416 : decode cL_law 416 = .ok (.invokestatic 135, 3) := by decide +kernel
theorem dL_law_419 : decode cL_law 419 = .ok (.iload 16, 2) := by decide +kernel
theorem dL_law_421 : decode cL_law 421 = .ok (.ifCond .eq 10, 3) := by decide +kernel
theorem dL_law_424 : decode cL_law 424 = .ok (.aload_n 3, 1) := by decide +kernel
theorem dL_law_425 : decode cL_law 425 = .ok (.iload 12, 2) := by decide +kernel
theorem dL_law_427 : decode cL_law 427 = .ok (.iaload, 1) := by decide +kernel
theorem dL_law_428 : decode cL_law 428 = .ok (.goto 5, 3) := by decide +kernel
theorem dL_law_431 : decode cL_law 431 = .ok (.bipush (-103), 2) := by decide +kernel
theorem dL_law_433 : decode cL_law 433 = .ok (.if_icmp .ne 7, 3) := by decide +kernel
theorem dL_law_436 : decode cL_law 436 = .ok (.iconst 1, 1) := by decide +kernel
theorem dL_law_437 : decode cL_law 437 = .ok (.goto 4, 3) := by decide +kernel
theorem dL_law_440 : decode cL_law 440 = .ok (.iconst 0, 1) := by decide +kernel
theorem dL_law_441 : decode cL_law 441 = .ok (.istore 7, 2) := by decide +kernel
theorem dL_law_443 : decode cL_law 443 = .ok (.aload_n 3, 1) := by decide +kernel
theorem dL_law_444 : decode cL_law 444 = .ok (.iload 12, 2) := by decide +kernel
theorem dL_law_446 : decode cL_law 446 = .ok (.dup2, 1) := by decide +kernel
theorem dL_law_447 : decode cL_law 447 = .ok (.iaload, 1) := by decide +kernel
theorem dL_law_448 : decode cL_law 448 = .ok (.iload 16, 2) := by decide +kernel
theorem dL_law_450 : decode cL_law 450 = .ok (.ifCond .eq 7, 3) := by decide +kernel
theorem dL_law_453 : decode cL_law 453 = .ok (.iconst 1, 1) := by decide +kernel
theorem dL_law_454 : decode cL_law 454 = .ok (.goto 4, 3) := by decide +kernel
theorem dL_law_457 : decode cL_law 457 = .ok (.iconst 0, 1) := by decide +kernel
theorem dL_law_458 : decode cL_law 458 = .ok (.iadd, 1) := by decide +kernel
theorem dL_law_459 : decode cL_law 459 = .ok (.iastore, 1) := by decide +kernel
theorem dL_law_460 : decode cL_law 460 = .ok (.aload_n 2, 1) := by decide +kernel
theorem dL_law_461 : decode cL_law 461 = .ok (.iload 12, 2) := by decide +kernel
theorem dL_law_463 : decode cL_law 463 = .ok (.iload 16, 2) := by decide +kernel
theorem dL_law_465 : decode cL_law 465 = .ok (.ifCond .eq 7, 3) := by decide +kernel
theorem dL_law_468 : decode cL_law 468 = .ok (.iconst 0, 1) := by decide +kernel
theorem dL_law_469 : decode cL_law 469 = .ok (.goto 7, 3) := by decide +kernel
theorem dL_law_472 : decode cL_law 472 = .ok (.aload_n 2, 1) := by decide +kernel
theorem dL_law_473 : decode cL_law 473 = .ok (.iload 12, 2) := by decide +kernel
theorem dL_law_475 : decode cL_law 475 = .ok (.iaload, 1) := by decide +kernel
theorem dL_law_476 : decode cL_law 476 = .ok (.iastore, 1) := by decide +kernel
theorem dL_law_477 : decode cL_law 477 = .ok (.goto 792, 3) := by decide +kernel
theorem dL_law_480 : decode cL_law 480 = .ok (.iload 11, 2) := by decide +kernel
theorem dL_law_482 : decode cL_law 482 = .ok (.iconst 2, 1) := by decide +kernel
theorem dL_law_483 : decode cL_law 483 = .ok (.if_icmp .ne 63, 3) := by decide +kernel
theorem dL_law_486 : decode cL_law 486 = .ok (.aload_n 1, 1) := by decide +kernel
theorem dL_law_487 : decode cL_law 487 = .ok (.iload 14, 2) := by decide +kernel
theorem dL_law_489 : decode cL_law 489 = .ok (.bipush 16, 2) := by decide +kernel
theorem dL_law_491 : decode cL_law 491 = .ok (.irem, 1) := by decide +kernel
theorem dL_law_492 : decode cL_law 492 = .ok (.iload 14, 2) := by decide +kernel
theorem dL_law_494 : decode cL_law 494 = .ok (.bipush 16, 2) := by decide +kernel
theorem dL_law_496 : decode cL_law 496 = .ok (.idiv, 1) := by decide +kernel
theorem dL_law_497 : decode cL_law 497 = .ok (.sipush 1001, 3) := by decide +kernel
theorem dL_law_500 : decode cL_law 500 = .ok (.irem, 1) := by decide +kernel
theorem dL_law_501 : decode cL_law 501 = .ok (.invokestatic 137, 3) := by decide +kernel
theorem dL_law_504 : decode cL_law 504 = .ok (.ifCond .lt 36, 3) := by decide +kernel
theorem dL_law_507 : decode cL_law 507 = .ok (.aload_n 1, 1) := by decide +kernel
theorem dL_law_508 : decode cL_law 508 = .ok (.iload 14, 2) := by decide +kernel
theorem dL_law_510 : decode cL_law 510 = .ok (.bipush 16, 2) := by decide +kernel
theorem dL_law_512 : decode cL_law 512 = .ok (.irem, 1) := by decide +kernel
theorem dL_law_513 : decode cL_law 513 = .ok (.iload 14, 2) := by decide +kernel
theorem dL_law_515 : decode cL_law 515 = .ok (.bipush 16, 2) := by decide +kernel
theorem dL_law_517 : decode cL_law 517 = .ok (.idiv, 1) := by decide +kernel
theorem dL_law_518 : decode cL_law 518 = .ok (.bipush 60, 2) := by decide +kernel
theorem dL_law_520 : decode cL_law 520 = .ok (.irem, 1) := by decide +kernel
theorem dL_law_521 : decode cL_law 521 = .ok (.invokestatic 137, 3) := by decide +kernel
theorem dL_law_524 : decode cL_law 524 = .ok (.iload 14, 2) := by decide +kernel
theorem dL_law_526 : decode cL_law 526 = .ok (.bipush 16, 2) := by decide +kernel
theorem dL_law_528 : decode cL_law 528 = .ok (.idiv, 1) := by decide +kernel
theorem dL_law_529 : decode cL_law 529 = .ok (.sipush 1001, 3) := by decide +kernel
theorem dL_law_532 : decode cL_law 532 = .ok (.irem, 1) := by decide +kernel
theorem dL_law_533 : decode cL_law 533 = .ok (.if_icmp .ne 7, 3) := by decide +kernel
theorem dL_law_536 : decode cL_law 536 = .ok (.iconst 1, 1) := by decide +kernel
theorem dL_law_537 : decode cL_law 537 = .ok (.goto 4, 3) := by decide +kernel
theorem dL_law_540 : decode cL_law 540 = .ok (.iconst 0, 1) := by decide +kernel
theorem dL_law_541 : decode cL_law 541 = .ok (.istore 7, 2) := by decide +kernel
theorem dL_law_543 : decode cL_law 543 = .ok (.goto 726, 3) := by decide +kernel
theorem dL_law_546 : decode cL_law 546 = .ok (.iload 11, 2) := by decide +kernel
theorem dL_law_548 : decode cL_law 548 = .ok (.iconst 3, 1) := by decide +kernel
theorem dL_law_549 : decode cL_law 549 = .ok (.if_icmp .ne 43, 3) := by decide +kernel
theorem dL_law_552 : decode cL_law 552 = .ok (.iload 6, 2) := by decide +kernel
theorem dL_law_554 : decode cL_law 554 = .ok (.iconst 1, 1) := by decide +kernel
theorem dL_law_555 : decode cL_law 555 = .ok (.iload 14, 2) := by decide +kernel
theorem dL_law_557 : decode cL_law 557 = .ok (.sipush 3000, 3) := by decide +kernel
theorem dL_law_560 : decode cL_law 560 = .ok (.irem, 1) := by decide +kernel
theorem dL_law_561 : decode cL_law 561 = .ok (.iadd, 1) := by decide +kernel
theorem dL_law_562 : decode cL_law 562 = .ok (.iadd, 1) := by decide +kernel
theorem dL_law_563 : decode cL_law 563 = .ok (.istore 6, 2) := by decide +kernel
theorem dL_law_565 : decode cL_law 565 = .ok (.aload_n 1, 1) := by decide +kernel
theorem dL_law_566 : decode cL_law 566 = .ok (.iload 12, 2) := by decide +kernel
theorem dL_law_568 : decode cL_law 568 = .ok (.iconst 1, 1) := by decide +kernel
theorem dL_law_569 : decode cL_law 569 = .ok (.iload 14, 2) := by decide +kernel
theorem dL_law_571 : decode cL_law 571 = .ok (.sipush 3000, 3) := by decide +kernel
theorem dL_law_574 : decode cL_law 574 = .ok (.irem, 1) := by decide +kernel
theorem dL_law_575 : decode cL_law 575 = .ok (.iadd, 1) := by decide +kernel
theorem dL_law_576 : decode cL_law 576 = .ok (.invokestatic 140, 3) := by decide +kernel
theorem dL_law_579 : decode cL_law 579 = .ok (.ifCond .le 7, 3) := by decide +kernel
theorem dL_law_582 : decode cL_law 582 = .ok (.iconst 1, 1) := by decide +kernel
theorem dL_law_583 : decode cL_law 583 = .ok (.goto 4, 3) := by decide +kernel
theorem dL_law_586 : decode cL_law 586 = .ok (.iconst 0, 1) := by decide +kernel
theorem dL_law_587 : decode cL_law 587 = .ok (.istore 7, 2) := by decide +kernel
theorem dL_law_589 : decode cL_law 589 = .ok (.goto 680, 3) := by decide +kernel
theorem dL_law_592 : decode cL_law 592 = .ok (.iload 11, 2) := by decide +kernel
theorem dL_law_594 : decode cL_law 594 = .ok (.iconst 4, 1) := by decide +kernel
theorem dL_law_595 : decode cL_law 595 = .ok (.if_icmp .ne 54, 3) := by decide +kernel
theorem dL_law_598 : decode cL_law 598 = .ok (.aload_n 1, 1) := by decide +kernel
theorem dL_law_599 : decode cL_law 599 = .ok (.iload 12, 2) := by decide +kernel
theorem dL_law_601 : decode cL_law 601 = .ok (.iload 14, 2) := by decide +kernel
theorem dL_law_603 : decode cL_law 603 = .ok (.iconst 4, 1) := by decide +kernel
theorem dL_law_604 : decode cL_law 604 = .ok (.irem, 1) := by decide +kernel
theorem dL_law_605 : decode cL_law 605 = .ok (.iload 14, 2) := by decide +kernel
theorem dL_law_607 : decode cL_law 607 = .ok (.iconst 4, 1) := by decide +kernel
theorem dL_law_608 : decode cL_law 608 = .ok (.idiv, 1) := by decide +kernel
theorem dL_law_609 : decode cL_law 609 = .ok (.bipush 21, 2) := by decide +kernel
theorem dL_law_611 : decode cL_law 611 = .ok (.irem, 1) := by decide +kernel
theorem dL_law_612 : decode cL_law 612 = .ok (.invokestatic 142, 3) := by decide +kernel
theorem dL_law_615 : decode cL_law 615 = .ok (.ifCond .lt 28, 3) := by decide +kernel
theorem dL_law_618 : decode cL_law 618 = .ok (.aload_n 1, 1) := by decide +kernel
theorem dL_law_619 : decode cL_law 619 = .ok (.iload 12, 2) := by decide +kernel
theorem dL_law_621 : decode cL_law 621 = .ok (.iconst 1, 1) := by decide +kernel
theorem dL_law_622 : decode cL_law 622 = .ok (.iload 14, 2) := by decide +kernel
theorem dL_law_624 : decode cL_law 624 = .ok (.bipush 84, 2) := by decide +kernel
theorem dL_law_626 : decode cL_law 626 = .ok (.idiv, 1) := by decide +kernel
theorem dL_law_627 : decode cL_law 627 = .ok (.sipush 200, 3) := by decide +kernel
theorem dL_law_630 : decode cL_law 630 = .ok (.irem, 1) := by decide +kernel
theorem dL_law_631 : decode cL_law 631 = .ok (.iadd, 1) := by decide +kernel
theorem dL_law_632 : decode cL_law 632 = .ok (.invokestatic 145, 3) := by decide +kernel
theorem dL_law_635 : decode cL_law 635 = .ok (.iconst 1, 1) := by decide +kernel
theorem dL_law_636 : decode cL_law 636 = .ok (.if_icmp .lt 7, 3) := by decide +kernel
theorem dL_law_639 : decode cL_law 639 = .ok (.iconst 1, 1) := by decide +kernel
theorem dL_law_640 : decode cL_law 640 = .ok (.goto 4, 3) := by decide +kernel
theorem dL_law_643 : decode cL_law 643 = .ok (.iconst 0, 1) := by decide +kernel
theorem dL_law_644 : decode cL_law 644 = .ok (.istore 7, 2) := by decide +kernel
theorem dL_law_646 : decode cL_law 646 = .ok (.goto 623, 3) := by decide +kernel
theorem dL_law_649 : decode cL_law 649 = .ok (.iload 11, 2) := by decide +kernel
theorem dL_law_651 : decode cL_law 651 = .ok (.iconst 5, 1) := by decide +kernel
theorem dL_law_652 : decode cL_law 652 = .ok (.if_icmp .ne 45, 3) := by decide +kernel
theorem dL_law_655 : decode cL_law 655 = .ok (.aload_n 1, 1) := by decide +kernel
theorem dL_law_656 : decode cL_law 656 = .ok (.iload 14, 2) := by decide +kernel
theorem dL_law_658 : decode cL_law 658 = .ok (.bipush 16, 2) := by decide +kernel
theorem dL_law_660 : decode cL_law 660 = .ok (.irem, 1) := by decide +kernel
theorem dL_law_661 : decode cL_law 661 = .ok (.invokestatic 148, 3) := by decide +kernel
theorem dL_law_664 : decode cL_law 664 = .ok (.istore 15, 2) := by decide +kernel
theorem dL_law_666 : decode cL_law 666 = .ok (.iload 15, 2) := by decide +kernel
theorem dL_law_668 : decode cL_law 668 = .ok (.ifCond .le 23, 3) := by decide +kernel
theorem dL_law_671 : decode cL_law 671 = .ok (.aload_n 1, 1) := by decide +kernel
theorem dL_law_672 : decode cL_law 672 = .ok (.iload 14, 2) := by decide +kernel
theorem dL_law_674 : decode cL_law 674 = .ok (.bipush 16, 2) := by decide +kernel
theorem dL_law_676 : decode cL_law 676 = .ok (.irem, 1) := by decide +kernel
theorem dL_law_677 : decode cL_law 677 = .ok (.invokestatic 148, 3) := by decide +kernel
theorem dL_law_680 : decode cL_law 680 = .ok (.iload 15, 2) := by decide +kernel
theorem dL_law_682 : decode cL_law 682 = .ok (.iconst 1, 1) := by decide +kernel
theorem dL_law_683 : decode cL_law 683 = .ok (.iadd, 1) := by decide +kernel
theorem dL_law_684 : decode cL_law 684 = .ok (.if_icmp .ne 7, 3) := by decide +kernel
theorem dL_law_687 : decode cL_law 687 = .ok (.iconst 1, 1) := by decide +kernel
theorem dL_law_688 : decode cL_law 688 = .ok (.goto 4, 3) := by decide +kernel
theorem dL_law_691 : decode cL_law 691 = .ok (.iconst 0, 1) := by decide +kernel
theorem dL_law_692 : decode cL_law 692 = .ok (.istore 7, 2) := by decide +kernel
theorem dL_law_694 : decode cL_law 694 = .ok (.goto 575, 3) := by decide +kernel
theorem dL_law_697 : decode cL_law 697 = .ok (.iload 11, 2) := by decide +kernel
theorem dL_law_699 : decode cL_law 699 = .ok (.bipush 8, 2) := by decide +kernel
theorem dL_law_701 : decode cL_law 701 = .ok (.if_icmp .ge 104, 3) := by decide +kernel
theorem dL_law_704 : decode cL_law 704 = .ok (.aload_n 1, 1) := by decide +kernel
theorem dL_law_705 : decode cL_law 705 = .ok (.iload 14, 2) := by decide +kernel
theorem dL_law_707 : decode cL_law 707 = .ok (.bipush 16, 2) := by decide +kernel
theorem dL_law_709 : decode cL_law 709 = .ok (.irem, 1) := by decide +kernel
theorem dL_law_710 : decode cL_law 710 = .ok (.iload 12, 2) := by decide +kernel
theorem dL_law_712 : decode cL_law 712 = .ok (.invokestatic 150, 3) := by decide +kernel
theorem dL_law_715 : decode cL_law 715 = .ok (.istore 15, 2) := by decide +kernel
theorem dL_law_717 : decode cL_law 717 = .ok (.iload 15, 2) := by decide +kernel
theorem dL_law_719 : decode cL_law 719 = .ok (.bipush (-103), 2) := by decide +kernel
theorem dL_law_721 : decode cL_law 721 = .ok (.if_icmp .ne 23, 3) := by decide +kernel
theorem dL_law_724 : decode cL_law 724 = .ok (.aload_n 3, 1) := by decide +kernel
theorem dL_law_725 : decode cL_law 725 = .ok (.iload 12, 2) := by decide +kernel
theorem dL_law_727 : decode cL_law 727 = .ok (.iaload, 1) := by decide +kernel
theorem dL_law_728 : decode cL_law 728 = .ok (.ifCond .eq 8, 3) := by decide +kernel
theorem dL_law_731 : decode cL_law 731 = .ok (.iload 5, 2) := by decide +kernel
theorem dL_law_733 : decode cL_law 733 = .ok (.ifCond .le 7, 3) := by decide +kernel
theorem dL_law_736 : decode cL_law 736 = .ok (.iconst 1, 1) := by decide +kernel
theorem dL_law_737 : decode cL_law 737 = .ok (.goto 50, 3) := by decide +kernel
theorem dL_law_740 : decode cL_law 740 = .ok (.iconst 0, 1) := by decide +kernel
theorem dL_law_741 : decode cL_law 741 = .ok (.goto 46, 3) := by decide +kernel
theorem dL_law_744 : decode cL_law 744 = .ok (.iload 15, 2) := by decide +kernel
theorem dL_law_746 : decode cL_law 746 = .ok (.iload 5, 2) := by decide +kernel
theorem dL_law_748 : decode cL_law 748 = .ok (.if_icmp .ne 38, 3) := by decide +kernel
theorem dL_law_751 : decode cL_law 751 = .ok (.aload_n 3, 1) := by decide +kernel
theorem dL_law_752 : decode cL_law 752 = .ok (.iload 12, 2) := by decide +kernel
theorem dL_law_754 : decode cL_law 754 = .ok (.iaload, 1) := by decide +kernel
theorem dL_law_755 : decode cL_law 755 = .ok (.ifCond .le 31, 3) := by decide +kernel
theorem dL_law_758 : decode cL_law 758 = .ok (.aload_n 1, 1) := by decide +kernel
theorem dL_law_759 : decode cL_law 759 = .ok (.iload 15, 2) := by decide +kernel
theorem dL_law_761 : decode cL_law 761 = .ok (.invokestatic 112, 3) := by decide +kernel
theorem dL_law_764 : decode cL_law 764 = .ok (.aload_n 3, 1) := by decide +kernel
theorem dL_law_765 : decode cL_law 765 = .ok (.iload 12, 2) := by decide +kernel
theorem dL_law_767 : decode cL_law 767 = .ok (.iaload, 1) := by decide +kernel
theorem dL_law_768 : decode cL_law 768 = .ok (.iconst 1, 1) := by decide +kernel
theorem dL_law_769 : decode cL_law 769 = .ok (.isub, 1) := by decide +kernel
theorem dL_law_770 : decode cL_law 770 = .ok (.if_icmp .ne 16, 3) := by decide +kernel
theorem dL_law_773 : decode cL_law 773 = .ok (.aload_n 1, 1) := by decide +kernel
theorem dL_law_774 : decode cL_law 774 = .ok (.iload 15, 2) := by decide +kernel
theorem dL_law_776 : decode cL_law 776 = .ok (.invokestatic 119, 3) := by decide +kernel
theorem dL_law_779 : decode cL_law 779 = .ok (.ifCond .ne 7, 3) := by decide +kernel
theorem dL_law_782 : decode cL_law 782 = .ok (.iconst 1, 1) := by decide +kernel
theorem dL_law_783 : decode cL_law 783 = .ok (.goto 4, 3) := by decide +kernel
theorem dL_law_786 : decode cL_law 786 = .ok (.iconst 0, 1) := by decide +kernel
theorem dL_law_787 : decode cL_law 787 = .ok (.istore 7, 2) := by decide +kernel
theorem dL_law_789 : decode cL_law 789 = .ok (.iload 7, 2) := by decide +kernel
theorem dL_law_791 : decode cL_law 791 = .ok (.ifCond .eq 11, 3) := by decide +kernel
theorem dL_law_794 : decode cL_law 794 = .ok (.iload 15, 2) := by decide +kernel
theorem dL_law_796 : decode cL_law 796 = .ok (.ifCond .lt 6, 3) := by decide +kernel
theorem dL_law_799 : decode cL_law 799 = .ok (.iinc 5 1, 3) := by decide +kernel
theorem dL_law_802 : decode cL_law 802 = .ok (.goto 467, 3) := by decide +kernel
theorem dL_law_805 : decode cL_law 805 = .ok (.iload 11, 2) := by decide +kernel
theorem dL_law_807 : decode cL_law 807 = .ok (.bipush 12, 2) := by decide +kernel
theorem dL_law_809 : decode cL_law 809 = .ok (.if_icmp .ge 160, 3) := by decide +kernel
theorem dL_law_812 : decode cL_law 812 = .ok (.iload 5, 2) := by decide +kernel
theorem dL_law_814 : decode cL_law 814 = .ok (.ifCond .le 155, 3) := by decide +kernel
theorem dL_law_817 : decode cL_law 817 = .ok (.aload_n 1, 1) := by decide +kernel
theorem dL_law_818 : decode cL_law 818 = .ok (.iload 13, 2) := by decide +kernel
theorem dL_law_820 : decode cL_law 820 = .ok (.invokestatic 119, 3) := by decide +kernel
theorem dL_law_823 : decode cL_law 823 = .ok (.istore 15, 2) := by decide +kernel
theorem dL_law_825 : decode cL_law 825 = .ok (.aload_n 1, 1) := by decide +kernel
theorem dL_law_826 : decode cL_law 826 = .ok (.iload 13, 2) := by decide +kernel
theorem dL_law_828 : decode cL_law 828 = .ok (.invokestatic 103, 3) := by decide +kernel
theorem dL_law_831 : decode cL_law 831 = .ok (.istore 16, 2) := by decide +kernel
theorem dL_law_833 : decode cL_law 833 = .ok (.aload_n 1, 1) := by decide +kernel
theorem dL_law_834 : decode cL_law 834 = .ok (.iload 13, 2) := by decide +kernel
theorem dL_law_836 : decode cL_law 836 = .ok (.invokestatic 98, 3) := by decide +kernel
theorem dL_law_839 : decode cL_law 839 = .ok (.istore 17, 2) := by decide +kernel
theorem dL_law_841 : decode cL_law 841 = .ok (.aload_n 1, 1) := by decide +kernel
theorem dL_law_842 : decode cL_law 842 = .ok (.iload 13, 2) := by decide +kernel
theorem dL_law_844 : decode cL_law 844 = .ok (.iload 14, 2) := by decide +kernel
theorem dL_law_846 : decode cL_law 846 = .ok (.bipush 10, 2) := by decide +kernel
theorem dL_law_848 : decode cL_law 848 = .ok (.irem, 1) := by decide +kernel
theorem dL_law_849 : decode cL_law 849 = .ok (.invokestatic 152, 3) := by decide +kernel
theorem dL_law_852 : decode cL_law 852 = .ok (.istore 18, 2) := by decide +kernel
theorem dL_law_854 : decode cL_law 854 = .ok (.iload 18, 2) := by decide +kernel
theorem dL_law_856 : decode cL_law 856 = .ok (.bipush (-103), 2) := by decide +kernel
theorem dL_law_858 : decode cL_law 858 = .ok (.if_icmp .ne 33, 3) := by decide +kernel
theorem dL_law_861 : decode cL_law 861 = .ok (.aload_n 1, 1) := by decide +kernel
theorem dL_law_862 : decode cL_law 862 = .ok (.iload 13, 2) := by decide +kernel
theorem dL_law_864 : decode cL_law 864 = .ok (.invokestatic 119, 3) := by decide +kernel
theorem dL_law_867 : decode cL_law 867 = .ok (.iload 15, 2) := by decide +kernel
theorem dL_law_869 : decode cL_law 869 = .ok (.if_icmp .ne 18, 3) := by decide +kernel
theorem dL_law_872 : decode cL_law 872 = .ok (.aload_n 1, 1) := by decide +kernel
theorem dL_law_873 : decode cL_law 873 = .ok (.iload 13, 2) := by decide +kernel
theorem dL_law_875 : decode cL_law 875 = .ok (.invokestatic 98, 3) := by decide +kernel
theorem dL_law_878 : decode cL_law 878 = .ok (.iload 17, 2) := by decide +kernel
theorem dL_law_880 : decode cL_law 880 = .ok (.if_icmp .ne 7, 3) := by decide +kernel
theorem dL_law_883 : decode cL_law 883 = .ok (.iconst 1, 1) := by decide +kernel
theorem dL_law_884 : decode cL_law 884 = .ok (.goto 80, 3) := by decide +kernel
theorem dL_law_887 : decode cL_law 887 = .ok (.iconst 0, 1) := by decide +kernel
theorem dL_law_888 : decode cL_law 888 = .ok (.goto 76, 3) := by decide +kernel
theorem dL_law_891 : decode cL_law 891 = .ok (.iload 17, 2) := by decide +kernel
theorem dL_law_893 : decode cL_law 893 = .ok (.ifCond .ne 70, 3) := by decide +kernel
theorem dL_law_896 : decode cL_law 896 = .ok (.iload 18, 2) := by decide +kernel
theorem dL_law_898 : decode cL_law 898 = .ok (.aload_n 1, 1) := by decide +kernel
theorem dL_law_899 : decode cL_law 899 = .ok (.iload 13, 2) := by decide +kernel
theorem dL_law_901 : decode cL_law 901 = .ok (.invokestatic 98, 3) := by decide +kernel
theorem dL_law_904 : decode cL_law 904 = .ok (.if_icmp .ne 59, 3) := by decide +kernel
theorem dL_law_907 : decode cL_law 907 = .ok (.aload_n 1, 1) := by decide +kernel
theorem dL_law_908 : decode cL_law 908 = .ok (.iload 13, 2) := by decide +kernel
theorem dL_law_910 : decode cL_law 910 = .ok (.invokestatic 119, 3) := by decide +kernel
theorem dL_law_913 : decode cL_law 913 = .ok (.iload 15, 2) := by decide +kernel
theorem dL_law_915 : decode cL_law 915 = .ok (.iconst 1, 1) := by decide +kernel
theorem dL_law_916 : decode cL_law 916 = .ok (.iadd, 1) := by decide +kernel
theorem dL_law_917 : decode cL_law 917 = .ok (.if_icmp .ne 46, 3) := by decide +kernel
theorem dL_law_920 : decode cL_law 920 = .ok (.aload_n 1, 1) := by decide +kernel
theorem dL_law_921 : decode cL_law 921 = .ok (.iload 13, 2) := by decide +kernel
theorem dL_law_923 : decode cL_law 923 = .ok (.iload 15, 2) := by decide +kernel
theorem dL_law_925 : decode cL_law 925 = .ok (.invokestatic 121, 3) := by decide +kernel
theorem dL_law_928 : decode cL_law 928 = .ok (.sipush 1000, 3) := by decide +kernel
theorem dL_law_931 : decode cL_law 931 = .ok (.irem, 1) := by decide +kernel
theorem dL_law_932 : decode cL_law 932 = .ok (.bipush 10, 2) := by decide +kernel
theorem dL_law_934 : decode cL_law 934 = .ok (.iload 16, 2) := by decide +kernel
theorem dL_law_936 : decode cL_law 936 = .ok (.imul, 1) := by decide +kernel
theorem dL_law_937 : decode cL_law 937 = .ok (.iload 14, 2) := by decide +kernel
theorem dL_law_939 : decode cL_law 939 = .ok (.bipush 10, 2) := by decide +kernel
theorem dL_law_941 : decode cL_law 941 = .ok (.irem, 1) := by decide +kernel
theorem dL_law_942 : decode cL_law 942 = .ok (.iadd, 1) := by decide +kernel
theorem dL_law_943 : decode cL_law 943 = .ok (.if_icmp .ne 20, 3) := by decide +kernel
theorem dL_law_946 : decode cL_law 946 = .ok (.aload_n 1, 1) := by decide +kernel
theorem dL_law_947 : decode cL_law 947 = .ok (.iload 13, 2) := by decide +kernel
theorem dL_law_949 : decode cL_law 949 = .ok (.bipush 10, 2) := by decide +kernel
theorem dL_law_951 : decode cL_law 951 = .ok (.invokestatic 152, 3) := by decide +kernel
theorem dL_law_954 : decode cL_law 954 = .ok (.bipush (-102), 2) := by decide +kernel
theorem dL_law_956 : decode cL_law 956 = .ok (.if_icmp .ne 7, 3) := by decide +kernel
theorem dL_law_959 : decode cL_law 959 = .ok (.iconst 1, 1) := by decide +kernel
theorem dL_law_960 : decode cL_law 960 = .ok (.goto 4, 3) := by decide +kernel
theorem dL_law_963 : decode cL_law 963 = .ok (.iconst 0, 1) := by decide +kernel
theorem dL_law_964 : decode cL_law 964 = .ok (.istore 7, 2) := by decide +kernel
theorem dL_law_966 : decode cL_law 966 = .ok (.goto 303, 3) := by decide +kernel
theorem dL_law_969 : decode cL_law 969 = .ok (.iload 11, 2) := by decide +kernel
theorem dL_law_971 : decode cL_law 971 = .ok (.bipush 12, 2) := by decide +kernel
theorem dL_law_973 : decode cL_law 973 = .ok (.if_icmp .ne 74, 3) := by decide +kernel
theorem dL_law_976 : decode cL_law 976 = .ok (.iload 5, 2) := by decide +kernel
theorem dL_law_978 : decode cL_law 978 = .ok (.ifCond .le 69, 3) := by decide +kernel
theorem dL_law_981 : decode cL_law 981 = .ok (.aload_n 1, 1) := by decide +kernel
theorem dL_law_982 : decode cL_law 982 = .ok (.iload 13, 2) := by decide +kernel
theorem dL_law_984 : decode cL_law 984 = .ok (.invokestatic 98, 3) := by decide +kernel
theorem dL_law_987 : decode cL_law 987 = .ok (.istore 15, 2) := by decide +kernel
theorem dL_law_989 : decode cL_law 989 = .ok (.aload_n 1, 1) := by decide +kernel
theorem dL_law_990 : decode cL_law 990 = .ok (.iload 13, 2) := by decide +kernel
theorem dL_law_992 : decode cL_law 992 = .ok (.invokestatic 154, 3) := by decide +kernel
theorem dL_law_995 : decode cL_law 995 = .ok (.iload 15, 2) := by decide +kernel
theorem dL_law_997 : decode cL_law 997 = .ok (.ifCond .ne 7, 3) := by decide +kernel
theorem dL_law_1000 : decode cL_law 1000 = .ok (.iconst 0, 1) := by decide +kernel
theorem dL_law_1001 : decode cL_law 1001 = .ok (.goto 5, 3) := by decide +kernel
theorem dL_law_1004 : decode cL_law 1004 = .ok (.bipush (-103), 2) := by decide +kernel
theorem dL_law_1006 : decode cL_law 1006 = .ok (.if_icmp .ne 35, 3) := by decide +kernel
theorem dL_law_1009 : decode cL_law 1009 = .ok (.iload 15, 2) := by decide +kernel
theorem dL_law_1011 : decode cL_law 1011 = .ok (.ifCond .ne 26, 3) := by decide +kernel
theorem dL_law_1014 : decode cL_law 1014 = .ok (.aload_n 1, 1) := by decide +kernel
theorem dL_law_1015 : decode cL_law 1015 = .ok (.iload 13, 2) := by decide +kernel
theorem dL_law_1017 : decode cL_law 1017 = .ok (.iconst 0, 1) := by decide +kernel
theorem dL_law_1018 : decode cL_law 1018 = .ok (.invokestatic 152, 3) := by decide +kernel
theorem dL_law_1021 : decode cL_law 1021 = .ok (.bipush (-103), 2) := by decide +kernel
theorem dL_law_1023 : decode cL_law 1023 = .ok (.if_icmp .ne 18, 3) := by decide +kernel
theorem dL_law_1026 : decode cL_law 1026 = .ok (.aload_n 1, 1) := by decide +kernel
theorem dL_law_1027 : decode cL_law 1027 = .ok (.iload 13, 2) := by decide +kernel
theorem dL_law_1029 : decode cL_law 1029 = .ok (.invokestatic 154, 3) := by decide +kernel
theorem dL_law_1032 : decode cL_law 1032 = .ok (.bipush (-103), 2) := by decide +kernel
theorem dL_law_1034 : decode cL_law 1034 = .ok (.if_icmp .ne 7, 3) := by decide +kernel
theorem dL_law_1037 : decode cL_law 1037 = .ok (.iconst 1, 1) := by decide +kernel
theorem dL_law_1038 : decode cL_law 1038 = .ok (.goto 4, 3) := by decide +kernel
theorem dL_law_1041 : decode cL_law 1041 = .ok (.iconst 0, 1) := by decide +kernel
theorem dL_law_1042 : decode cL_law 1042 = .ok (.istore 7, 2) := by decide +kernel
theorem dL_law_1044 : decode cL_law 1044 = .ok (.goto 225, 3) := by decide +kernel
theorem dL_law_1047 : decode cL_law 1047 = .ok (.iload 11, 2) := by decide +kernel
theorem dL_law_1049 : decode cL_law 1049 = .ok (.bipush 15, 2) := by decide +kernel
theorem dL_law_1051 : decode cL_law 1051 = .ok (.if_icmp .ge 135, 3) := by decide +kernel
theorem dL_law_1054 : decode cL_law 1054 = .ok (.iload 5, 2) := by decide +kernel
theorem dL_law_1056 : decode cL_law 1056 = .ok (.ifCond .le 130, 3) := by decide +kernel
theorem dL_law_1059 : decode cL_law 1059 = .ok (.aload_n 1, 1) := by decide +kernel
theorem dL_law_1060 : decode cL_law 1060 = .ok (.iload 13, 2) := by decide +kernel
theorem dL_law_1062 : decode cL_law 1062 = .ok (.invokestatic 98, 3) := by decide +kernel
theorem dL_law_1065 : decode cL_law 1065 = .ok (.istore 15, 2) := by decide +kernel
theorem dL_law_1067 : decode cL_law 1067 = .ok (.aload_n 1, 1) := by decide +kernel
theorem dL_law_1068 : decode cL_law 1068 = .ok (.iload 13, 2) := by decide +kernel
theorem dL_law_1070 : decode cL_law 1070 = .ok (.invokestatic 105, 3) := by decide +kernel
theorem dL_law_1073 : decode cL_law 1073 = .ok (.istore 16, 2) := by decide +kernel
theorem dL_law_1075 : decode cL_law 1075 = .ok (.aload_n 1, 1) := by decide +kernel
theorem dL_law_1076 : decode cL_law 1076 = .ok (.iload 13, 2) := by decide +kernel
theorem dL_law_1078 : decode cL_law 1078 = .ok (.invokestatic 112, 3) := by decide +kernel
theorem dL_law_1081 : decode cL_law 1081 = .ok (.istore 17, 2) := by decide +kernel
theorem dL_law_1083 : decode cL_law 1083 = .ok (.aload_n 1, 1) := by decide +kernel
theorem dL_law_1084 : decode cL_law 1084 = .ok (.iload 13, 2) := by decide +kernel
theorem dL_law_1086 : decode cL_law 1086 = .ok (.invokestatic 119, 3) := by decide +kernel
theorem dL_law_1089 : decode cL_law 1089 = .ok (.istore 18, 2) := by decide +kernel
theorem dL_law_1091 : decode cL_law 1091 = .ok (.aload_n 1, 1) := by decide +kernel
theorem dL_law_1092 : decode cL_law 1092 = .ok (.iload 13, 2) := by decide +kernel
theorem dL_law_1094 : decode cL_law 1094 = .ok (.invokestatic 156, 3) := by decide +kernel
theorem dL_law_1097 : decode cL_law 1097 = .ok (.istore 19, 2) := by decide +kernel
theorem dL_law_1099 : decode cL_law 1099 = .ok (.iload 15, 2) := by decide +kernel
theorem dL_law_1101 : decode cL_law 1101 = .ok (.iconst 1, 1) := by decide +kernel
theorem dL_law_1102 : decode cL_law 1102 = .ok (.if_icmp .eq 18, 3) := by decide +kernel
theorem dL_law_1105 : decode cL_law 1105 = .ok (.iload 19, 2) := by decide +kernel
theorem dL_law_1107 : decode cL_law 1107 = .ok (.bipush (-103), 2) := by decide +kernel
theorem dL_law_1109 : decode cL_law 1109 = .ok (.if_icmp .ne 7, 3) := by decide +kernel
theorem dL_law_1112 : decode cL_law 1112 = .ok (.iconst 1, 1) := by decide +kernel
theorem dL_law_1113 : decode cL_law 1113 = .ok (.goto 68, 3) := by decide +kernel
theorem dL_law_1116 : decode cL_law 1116 = .ok (.iconst 0, 1) := by decide +kernel
theorem dL_law_1117 : decode cL_law 1117 = .ok (.goto 64, 3) := by decide +kernel
theorem dL_law_1120 : decode cL_law 1120 = .ok (.aload_n 1, 1) := by decide +kernel
theorem dL_law_1121 : decode cL_law 1121 = .ok (.iload 13, 2) := by decide +kernel
theorem dL_law_1123 : decode cL_law 1123 = .ok (.invokestatic 119, 3) := by decide +kernel
theorem dL_law_1126 : decode cL_law 1126 = .ok (.iload 18, 2) := by decide +kernel
theorem dL_law_1128 : decode cL_law 1128 = .ok (.if_icmp .ne 52, 3) := by decide +kernel
theorem dL_law_1131 : decode cL_law 1131 = .ok (.iload 19, 2) := by decide +kernel
theorem dL_law_1133 : decode cL_law 1133 = .ok (.ifCond .ne 37, 3) := by decide +kernel
theorem dL_law_1136 : decode cL_law 1136 = .ok (.aload_n 1, 1) := by decide +kernel
theorem dL_law_1137 : decode cL_law 1137 = .ok (.iload 13, 2) := by decide +kernel
theorem dL_law_1139 : decode cL_law 1139 = .ok (.invokestatic 98, 3) := by decide +kernel
theorem dL_law_1142 : decode cL_law 1142 = .ok (.ifCond .ne 38, 3) := by decide +kernel
theorem dL_law_1145 : decode cL_law 1145 = .ok (.aload_n 1, 1) := by decide +kernel
theorem dL_law_1146 : decode cL_law 1146 = .ok (.iload 13, 2) := by decide +kernel
theorem dL_law_1148 : decode cL_law 1148 = .ok (.invokestatic 105, 3) := by decide +kernel
theorem dL_law_1151 : decode cL_law 1151 = .ok (.iload 16, 2) := by decide +kernel
theorem dL_law_1153 : decode cL_law 1153 = .ok (.if_icmp .ne 27, 3) := by decide +kernel
theorem dL_law_1156 : decode cL_law 1156 = .ok (.aload_n 1, 1) := by decide +kernel
theorem dL_law_1157 : decode cL_law 1157 = .ok (.iload 13, 2) := by decide +kernel
theorem dL_law_1159 : decode cL_law 1159 = .ok (.invokestatic 112, 3) := by decide +kernel
theorem dL_law_1162 : decode cL_law 1162 = .ok (.iload 17, 2) := by decide +kernel
theorem dL_law_1164 : decode cL_law 1164 = .ok (.if_icmp .ne 16, 3) := by decide +kernel
theorem dL_law_1167 : decode cL_law 1167 = .ok (.goto 9, 3) := by decide +kernel
theorem dL_law_1170 : decode cL_law 1170 = .ok (.iload 19, 2) := by decide +kernel
theorem dL_law_1172 : decode cL_law 1172 = .ok (.iconst 1, 1) := by decide +kernel
theorem dL_law_1173 : decode cL_law 1173 = .ok (.if_icmp .ne 7, 3) := by decide +kernel
theorem dL_law_1176 : decode cL_law 1176 = .ok (.iconst 1, 1) := by decide +kernel
theorem dL_law_1177 : decode cL_law 1177 = .ok (.goto 4, 3) := by decide +kernel
theorem dL_law_1180 : decode cL_law 1180 = .ok (.iconst 0, 1) := by decide +kernel
theorem dL_law_1181 : decode cL_law 1181 = .ok (.istore 7, 2) := by decide +kernel
theorem dL_law_1183 : decode cL_law 1183 = .ok (.goto 86, 3) := by decide +kernel
theorem dL_law_1186 : decode cL_law 1186 = .ok (.iload 5, 2) := by decide +kernel
theorem dL_law_1188 : decode cL_law 1188 = .ok (.ifCond .le 81, 3) := by decide +kernel
theorem dL_law_1191 : decode cL_law 1191 = .ok (.iload 14, 2) := by decide +kernel
theorem dL_law_1193 : decode cL_law 1193 = .ok (.iconst 4, 1) := by decide +kernel
theorem dL_law_1194 : decode cL_law 1194 = .ok (.irem, 1) := by decide +kernel
theorem dL_law_1195 : decode cL_law 1195 = .ok (.ifCond .ne 74, 3) := by decide +kernel
theorem dL_law_1198 : decode cL_law 1198 = .ok (.aload_n 1, 1) := by decide +kernel
theorem dL_law_1199 : decode cL_law 1199 = .ok (.iload 13, 2) := by decide +kernel
theorem dL_law_1201 : decode cL_law 1201 = .ok (.invokestatic 98, 3) := by decide +kernel
theorem dL_law_1204 : decode cL_law 1204 = .ok (.istore 15, 2) := by decide +kernel
theorem dL_law_1206 : decode cL_law 1206 = .ok (.aload_n 1, 1) := by decide +kernel
theorem dL_law_1207 : decode cL_law 1207 = .ok (.iload 13, 2) := by decide +kernel
theorem dL_law_1209 : decode cL_law 1209 = .ok (.invokestatic 158, 3) := by decide +kernel
theorem dL_law_1212 : decode cL_law 1212 = .ok (.istore 16, 2) := by decide +kernel
theorem dL_law_1214 : decode cL_law 1214 = .ok (.iload 15, 2) := by decide +kernel
theorem dL_law_1216 : decode cL_law 1216 = .ok (.iconst 2, 1) := by decide +kernel
theorem dL_law_1217 : decode cL_law 1217 = .ok (.if_icmp .ge 27, 3) := by decide +kernel
theorem dL_law_1220 : decode cL_law 1220 = .ok (.iload 16, 2) := by decide +kernel
theorem dL_law_1222 : decode cL_law 1222 = .ok (.ifCond .lt 18, 3) := by decide +kernel
theorem dL_law_1225 : decode cL_law 1225 = .ok (.aload_n 1, 1) := by decide +kernel
theorem dL_law_1226 : decode cL_law 1226 = .ok (.iload 13, 2) := by decide +kernel
theorem dL_law_1228 : decode cL_law 1228 = .ok (.invokestatic 98, 3) := by decide +kernel
theorem dL_law_1231 : decode cL_law 1231 = .ok (.bipush 6, 2) := by decide +kernel
theorem dL_law_1233 : decode cL_law 1233 = .ok (.if_icmp .ne 7, 3) := by decide +kernel
theorem dL_law_1236 : decode cL_law 1236 = .ok (.iconst 1, 1) := by decide +kernel
theorem dL_law_1237 : decode cL_law 1237 = .ok (.goto 30, 3) := by decide +kernel
theorem dL_law_1240 : decode cL_law 1240 = .ok (.iconst 0, 1) := by decide +kernel
theorem dL_law_1241 : decode cL_law 1241 = .ok (.goto 26, 3) := by decide +kernel
theorem dL_law_1244 : decode cL_law 1244 = .ok (.iload 16, 2) := by decide +kernel
theorem dL_law_1246 : decode cL_law 1246 = .ok (.bipush (-103), 2) := by decide +kernel
theorem dL_law_1248 : decode cL_law 1248 = .ok (.if_icmp .ne 18, 3) := by decide +kernel
theorem dL_law_1251 : decode cL_law 1251 = .ok (.aload_n 1, 1) := by decide +kernel
theorem dL_law_1252 : decode cL_law 1252 = .ok (.iload 13, 2) := by decide +kernel
theorem dL_law_1254 : decode cL_law 1254 = .ok (.invokestatic 98, 3) := by decide +kernel
theorem dL_law_1257 : decode cL_law 1257 = .ok (.iload 15, 2) := by decide +kernel
theorem dL_law_1259 : decode cL_law 1259 = .ok (.if_icmp .ne 7, 3) := by decide +kernel
theorem dL_law_1262 : decode cL_law 1262 = .ok (.iconst 1, 1) := by decide +kernel
theorem dL_law_1263 : decode cL_law 1263 = .ok (.goto 4, 3) := by decide +kernel
theorem dL_law_1266 : decode cL_law 1266 = .ok (.iconst 0, 1) := by decide +kernel
theorem dL_law_1267 : decode cL_law 1267 = .ok (.istore 7, 2) := by decide +kernel
theorem dL_law_1269 : decode cL_law 1269 = .ok (.iload 6, 2) := by decide +kernel
theorem dL_law_1271 : decode cL_law 1271 = .ok (.ineg, 1) := by decide +kernel
theorem dL_law_1272 : decode cL_law 1272 = .ok (.aload_n 1, 1) := by decide +kernel
theorem dL_law_1273 : decode cL_law 1273 = .ok (.invokevirtual 160, 3) := by decide +kernel
theorem dL_law_1276 : decode cL_law 1276 = .ok (.isub, 1) := by decide +kernel
theorem dL_law_1277 : decode cL_law 1277 = .ok (.istore 15, 2) := by decide +kernel
theorem dL_law_1279 : decode cL_law 1279 = .ok (.iconst 0, 1) := by decide +kernel
theorem dL_law_1280 : decode cL_law 1280 = .ok (.istore 16, 2) := by decide +kernel
theorem dL_law_1282 : decode cL_law 1282 = .ok (.iconst 0, 1) := by decide +kernel
theorem dL_law_1283 : decode cL_law 1283 = .ok (.istore 17, 2) := by decide +kernel
theorem dL_law_1285 : decode cL_law 1285 = .ok (.iload 17, 2) := by decide +kernel
theorem dL_law_1287 : decode cL_law 1287 = .ok (.bipush 16, 2) := by decide +kernel
theorem dL_law_1289 : decode cL_law 1289 = .ok (.if_icmp .ge 58, 3) := by decide +kernel
theorem dL_law_1292 : decode cL_law 1292 = .ok (.iload 7, 2) := by decide +kernel
theorem dL_law_1294 : decode cL_law 1294 = .ok (.ifCond .eq 53, 3) := by decide +kernel
theorem dL_law_1297 : decode cL_law 1297 = .ok (.aload_n 1, 1) := by decide +kernel
theorem dL_law_1298 : decode cL_law 1298 = .ok (.iload 17, 2) := by decide +kernel
theorem dL_law_1300 : decode cL_law 1300 = .ok (.invokestatic 163, 3) := by decide +kernel
theorem dL_law_1303 : decode cL_law 1303 = .ok (.ifCond .lt 7, 3) := by decide +kernel
theorem dL_law_1306 : decode cL_law 1306 = .ok (.iconst 1, 1) := by decide +kernel
theorem dL_law_1307 : decode cL_law 1307 = .ok (.goto 4, 3) := by decide +kernel
theorem dL_law_1310 : decode cL_law 1310 = .ok (.iconst 0, 1) := by decide +kernel
theorem dL_law_1311 : decode cL_law 1311 = .ok (.istore 7, 2) := by decide +kernel
theorem dL_law_1313 : decode cL_law 1313 = .ok (.iload 15, 2) := by decide +kernel
theorem dL_law_1315 : decode cL_law 1315 = .ok (.aload_n 1, 1) := by decide +kernel
theorem dL_law_1316 : decode cL_law 1316 = .ok (.iload 17, 2) := by decide +kernel
theorem dL_law_1318 : decode cL_law 1318 = .ok (.invokestatic 163, 3) := by decide +kernel
theorem dL_law_1321 : decode cL_law 1321 = .ok (.iadd, 1) := by decide +kernel
theorem dL_law_1322 : decode cL_law 1322 = .ok (.istore 15, 2) := by decide +kernel
theorem dL_law_1324 : decode cL_law 1324 = .ok (.iload 16, 2) := by decide +kernel
theorem dL_law_1326 : decode cL_law 1326 = .ok (.aload_n 1, 1) := by decide +kernel
theorem dL_law_1327 : decode cL_law 1327 = .ok (.iload 17, 2) := by decide +kernel
theorem dL_law_1329 : decode cL_law 1329 = .ok (.iconst 4, 1) := by decide +kernel
theorem dL_law_1330 : decode cL_law 1330 = .ok (.idiv, 1) := by decide +kernel
theorem dL_law_1331 : decode cL_law 1331 = .ok (.iload 17, 2) := by decide +kernel
theorem dL_law_1333 : decode cL_law 1333 = .ok (.iconst 4, 1) := by decide +kernel
theorem dL_law_1334 : decode cL_law 1334 = .ok (.irem, 1) := by decide +kernel
theorem dL_law_1335 : decode cL_law 1335 = .ok (.invokestatic 165, 3) := by decide +kernel
theorem dL_law_1338 : decode cL_law 1338 = .ok (.iadd, 1) := by decide +kernel
theorem dL_law_1339 : decode cL_law 1339 = .ok (.istore 16, 2) := by decide +kernel
theorem dL_law_1341 : decode cL_law 1341 = .ok (.iinc 17 1, 3) := by decide +kernel
theorem dL_law_1344 : decode cL_law 1344 = .ok (.goto (-59), 3) := by decide +kernel
theorem dL_law_1347 : decode cL_law 1347 = .ok (.iconst 0, 1) := by decide +kernel
theorem dL_law_1348 : decode cL_law 1348 = .ok (.istore 17, 2) := by decide +kernel
theorem dL_law_1350 : decode cL_law 1350 = .ok (.iload 17, 2) := by decide +kernel
theorem dL_law_1352 : decode cL_law 1352 = .ok (.iconst 4, 1) := by decide +kernel
theorem dL_law_1353 : decode cL_law 1353 = .ok (.if_icmp .ge 41, 3) := by decide +kernel
theorem dL_law_1356 : decode cL_law 1356 = .ok (.iload 7, 2) := by decide +kernel
theorem dL_law_1358 : decode cL_law 1358 = .ok (.ifCond .eq 36, 3) := by decide +kernel
theorem dL_law_1361 : decode cL_law 1361 = .ok (.aload_n 1, 1) := by decide +kernel
theorem dL_law_1362 : decode cL_law 1362 = .ok (.iload 17, 2) := by decide +kernel
theorem dL_law_1364 : decode cL_law 1364 = .ok (.invokestatic 167, 3) := by decide +kernel
theorem dL_law_1367 : decode cL_law 1367 = .ok (.ifCond .lt 7, 3) := by decide +kernel
theorem dL_law_1370 : decode cL_law 1370 = .ok (.iconst 1, 1) := by decide +kernel
theorem dL_law_1371 : decode cL_law 1371 = .ok (.goto 4, 3) := by decide +kernel
theorem dL_law_1374 : decode cL_law 1374 = .ok (.iconst 0, 1) := by decide +kernel
theorem dL_law_1375 : decode cL_law 1375 = .ok (.istore 7, 2) := by decide +kernel
theorem dL_law_1377 : decode cL_law 1377 = .ok (.iload 15, 2) := by decide +kernel
theorem dL_law_1379 : decode cL_law 1379 = .ok (.aload_n 1, 1) := by decide +kernel
theorem dL_law_1380 : decode cL_law 1380 = .ok (.iload 17, 2) := by decide +kernel
theorem dL_law_1382 : decode cL_law 1382 = .ok (.invokestatic 167, 3) := by decide +kernel
theorem dL_law_1385 : decode cL_law 1385 = .ok (.iadd, 1) := by decide +kernel
theorem dL_law_1386 : decode cL_law 1386 = .ok (.istore 15, 2) := by decide +kernel
theorem dL_law_1388 : decode cL_law 1388 = .ok (.iinc 17 1, 3) := by decide +kernel
theorem dL_law_1391 : decode cL_law 1391 = .ok (.goto (-41), 3) := by decide +kernel
theorem dL_law_1394 : decode cL_law 1394 = .ok (.iconst 0, 1) := by decide +kernel
theorem dL_law_1395 : decode cL_law 1395 = .ok (.istore 17, 2) := by decide +kernel
theorem dL_law_1397 : decode cL_law 1397 = .ok (.iload 17, 2) := by decide +kernel
theorem dL_law_1399 : decode cL_law 1399 = .ok (.iload 5, 2) := by decide +kernel
theorem dL_law_1401 : decode cL_law 1401 = .ok (.if_icmp .ge 116, 3) := by decide +kernel
theorem dL_law_1404 : decode cL_law 1404 = .ok (.iload 7, 2) := by decide +kernel
theorem dL_law_1406 : decode cL_law 1406 = .ok (.ifCond .eq 111, 3) := by decide +kernel
theorem dL_law_1409 : decode cL_law 1409 = .ok (.aload_n 1, 1) := by decide +kernel
theorem dL_law_1410 : decode cL_law 1410 = .ok (.iload 17, 2) := by decide +kernel
theorem dL_law_1412 : decode cL_law 1412 = .ok (.invokestatic 98, 3) := by decide +kernel
theorem dL_law_1415 : decode cL_law 1415 = .ok (.istore 18, 2) := by decide +kernel
theorem dL_law_1417 : decode cL_law 1417 = .ok (.aload 4, 2) := by decide +kernel
theorem dL_law_1419 : decode cL_law 1419 = .ok (.iload 17, 2) := by decide +kernel
theorem dL_law_1421 : decode cL_law 1421 = .ok (.iaload, 1) := by decide +kernel
theorem dL_law_1422 : decode cL_law 1422 = .ok (.ifCond .eq 13, 3) := by decide +kernel
theorem dL_law_1425 : decode cL_law 1425 = .ok (.aload 4, 2) := by decide +kernel
theorem dL_law_1427 : decode cL_law 1427 = .ok (.iload 17, 2) := by decide +kernel
theorem dL_law_1429 : decode cL_law 1429 = .ok (.iaload, 1) := by decide +kernel
theorem dL_law_1430 : decode cL_law 1430 = .ok (.iload 18, 2) := by decide +kernel
theorem dL_law_1432 : decode cL_law 1432 = .ok (.if_icmp .ne 7, 3) := by decide +kernel
theorem dL_law_1435 : decode cL_law 1435 = .ok (.iconst 1, 1) := by decide +kernel
theorem dL_law_1436 : decode cL_law 1436 = .ok (.goto 4, 3) := by decide +kernel
theorem dL_law_1439 : decode cL_law 1439 = .ok (.iconst 0, 1) := by decide +kernel
theorem dL_law_1440 : decode cL_law 1440 = .ok (.istore 7, 2) := by decide +kernel
theorem dL_law_1442 : decode cL_law 1442 = .ok (.aload 4, 2) := by decide +kernel
theorem dL_law_1444 : decode cL_law 1444 = .ok (.iload 17, 2) := by decide +kernel
theorem dL_law_1446 : decode cL_law 1446 = .ok (.iload 18, 2) := by decide +kernel
theorem dL_law_1448 : decode cL_law 1448 = .ok (.iconst 1, 1) := by decide +kernel
theorem dL_law_1449 : decode cL_law 1449 = .ok (.if_icmp .le 8, 3) := by decide +kernel
theorem dL_law_1452 : decode cL_law 1452 = .ok (.iload 18, 2) := by decide +kernel
theorem dL_law_1454 : decode cL_law 1454 = .ok (.goto 4, 3) := by decide +kernel
theorem dL_law_1457 : decode cL_law 1457 = .ok (.iconst 0, 1) := by decide +kernel
theorem dL_law_1458 : decode cL_law 1458 = .ok (.iastore, 1) := by decide +kernel
theorem dL_law_1459 : decode cL_law 1459 = .ok (.iload 16, 2) := by decide +kernel
theorem dL_law_1461 : decode cL_law 1461 = .ok (.iload 18, 2) := by decide +kernel
theorem dL_law_1463 : decode cL_law 1463 = .ok (.iconst 2, 1) := by decide +kernel
theorem dL_law_1464 : decode cL_law 1464 = .ok (.if_icmp .ne 7, 3) := by decide +kernel
theorem dL_law_1467 : decode cL_law 1467 = .ok (.iconst 1, 1) := by decide +kernel
theorem dL_law_1468 : decode cL_law 1468 = .ok (.goto 4, 3) := by decide +kernel
theorem dL_law_1471 : decode cL_law 1471 = .ok (.iconst 0, 1) := by decide +kernel
theorem dL_law_1472 : decode cL_law 1472 = .ok (.isub, 1) := by decide +kernel
theorem dL_law_1473 : decode cL_law 1473 = .ok (.istore 16, 2) := by decide +kernel
theorem dL_law_1475 : decode cL_law 1475 = .ok (.iload 7, 2) := by decide +kernel
theorem dL_law_1477 : decode cL_law 1477 = .ok (.ifCond .eq 31, 3) := by decide +kernel
theorem dL_law_1480 : decode cL_law 1480 = .ok (.iload 17, 2) := by decide +kernel
theorem dL_law_1482 : decode cL_law 1482 = .ok (.iload 13, 2) := by decide +kernel
theorem dL_law_1484 : decode cL_law 1484 = .ok (.if_icmp .eq 11, 3) := by decide +kernel
theorem dL_law_1487 : decode cL_law 1487 = .ok (.iload 8, 2) := by decide +kernel
theorem dL_law_1489 : decode cL_law 1489 = .ok (.bipush 6, 2) := by decide +kernel
theorem dL_law_1491 : decode cL_law 1491 = .ok (.irem, 1) := by decide +kernel
theorem dL_law_1492 : decode cL_law 1492 = .ok (.ifCond .gt 12, 3) := by decide +kernel
theorem dL_law_1495 : decode cL_law 1495 = .ok (.aload_n 1, 1) := by decide +kernel
theorem dL_law_1496 : decode cL_law 1496 = .ok (.iload 17, 2) := by decide +kernel
theorem dL_law_1498 : decode cL_law 1498 = .ok (.invokestatic 169, 3) := by decide +kernel
theorem dL_law_1501 : decode cL_law 1501 = .ok (.ifCond .eq 7, 3) := by decide +kernel
theorem dL_law_1504 : decode cL_law 1504 = .ok (.iconst 1, 1) := by decide +kernel
theorem dL_law_1505 : decode cL_law 1505 = .ok (.goto 4, 3) := by decide +kernel
theorem dL_law_1508 : decode cL_law 1508 = .ok (.iconst 0, 1) := by decide +kernel
theorem dL_law_1509 : decode cL_law 1509 = .ok (.istore 7, 2) := by decide +kernel
theorem dL_law_1511 : decode cL_law 1511 = .ok (.iinc 17 1, 3) := by decide +kernel
theorem dL_law_1514 : decode cL_law 1514 = .ok (.goto (-117), 3) := by decide +kernel
theorem dL_law_1517 : decode cL_law 1517 = .ok (.iload 7, 2) := by decide +kernel
theorem dL_law_1519 : decode cL_law 1519 = .ok (.ifCond .eq 26, 3) := by decide +kernel
theorem dL_law_1522 : decode cL_law 1522 = .ok (.iload 15, 2) := by decide +kernel
theorem dL_law_1524 : decode cL_law 1524 = .ok (.ifCond .ne 21, 3) := by decide +kernel
theorem dL_law_1527 : decode cL_law 1527 = .ok (.iload 16, 2) := by decide +kernel
theorem dL_law_1529 : decode cL_law 1529 = .ok (.ifCond .ne 16, 3) := by decide +kernel
theorem dL_law_1532 : decode cL_law 1532 = .ok (.aload_n 1, 1) := by decide +kernel
theorem dL_law_1533 : decode cL_law 1533 = .ok (.invokevirtual 124, 3) := by decide +kernel
theorem dL_law_1536 : decode cL_law 1536 = .ok (.iload 5, 2) := by decide +kernel
theorem dL_law_1538 : decode cL_law 1538 = .ok (.if_icmp .ne 7, 3) := by decide +kernel
theorem dL_law_1541 : decode cL_law 1541 = .ok (.iconst 1, 1) := by decide +kernel
theorem dL_law_1542 : decode cL_law 1542 = .ok (.goto 4, 3) := by decide +kernel
theorem dL_law_1545 : decode cL_law 1545 = .ok (.iconst 0, 1) := by decide +kernel
theorem dL_law_1546 : decode cL_law 1546 = .ok (.istore 7, 2) := by decide +kernel
theorem dL_law_1548 : decode cL_law 1548 = .ok (.iinc 8 1, 3) := by decide +kernel
theorem dL_law_1551 : decode cL_law 1551 = .ok (.goto (-1506), 3) := by decide +kernel
theorem dL_law_1554 : decode cL_law 1554 = .ok (.iload 7, 2) := by decide +kernel
theorem dL_law_1556 : decode cL_law 1556 = .ok (.ireturn, 1) := by decide +kernel

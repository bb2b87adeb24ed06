/-! ===== the law's cases ===== -/
theorem ini_RL : Cond.initialized RL ∈ gwl := gwl_of (by decide +kernel) rfl
theorem w_two_lt {k : Nat} (h : k < 4) : w_two k < 4 := by unfold w_two; split <;> omega
theorem m_runAt_lt4 (C : gCT) (x : Int32) : m_runAt C x < 4 := by
  unfold m_runAt
  dsimp only
  split <;> decide
theorem m_formAt_lt4 (C : gCT) (x : Int32) : m_formAt C x < 4 := by
  unfold m_formAt
  dsimp only
  split <;> decide
theorem dd_write : yL_write.cls ≠ "java/lang/invoke/MethodHandle" ∧ yL_write.cls ≠ "java/lang/invoke/VarHandle" ∧ (parseMethodDescriptor yL_write.desc).map (fun d => d.parameters.length) = some 5 := ⟨by decide +kernel, by decide +kernel, by decide +kernel⟩
theorem m_write_lt (C : gCT) (n1 n2 n3 : Int32) : (m_write C n1 n2 n3).1 < 4 := by
  unfold m_write
  dsimp only
  (repeat' split)
  all_goals first | exact (by decide : (0 : Nat) < 4) | exact (by decide : (1 : Nat) < 4) | exact (by decide : (2 : Nat) < 4) | exact (by decide : (3 : Nat) < 4) | exact m_runAt_lt4 C _ | exact m_formAt_lt4 C _
theorem dd_publish : yL_publish.cls ≠ "java/lang/invoke/MethodHandle" ∧ yL_publish.cls ≠ "java/lang/invoke/VarHandle" ∧ (parseMethodDescriptor yL_publish.desc).map (fun d => d.parameters.length) = some 3 := ⟨by decide +kernel, by decide +kernel, by decide +kernel⟩
theorem m_publish_lt (C : gCT) (n1 : Int32) : (m_publish C n1).1 < 4 := by
  unfold m_publish
  dsimp only
  (repeat' split)
  all_goals first | exact (by decide : (0 : Nat) < 4) | exact (by decide : (1 : Nat) < 4) | exact (by decide : (2 : Nat) < 4) | exact (by decide : (3 : Nat) < 4) | exact m_runAt_lt4 C _ | exact m_formAt_lt4 C _
theorem dd_setFuel : yL_setFuel.cls ≠ "java/lang/invoke/MethodHandle" ∧ yL_setFuel.cls ≠ "java/lang/invoke/VarHandle" ∧ (parseMethodDescriptor yL_setFuel.desc).map (fun d => d.parameters.length) = some 4 := ⟨by decide +kernel, by decide +kernel, by decide +kernel⟩
theorem m_setFuel_lt (C : gCT) (n1 n2 : Int32) : (m_setFuel C n1 n2).1 < 4 := by
  unfold m_setFuel
  dsimp only
  (repeat' split)
  all_goals first | exact (by decide : (0 : Nat) < 4) | exact (by decide : (1 : Nat) < 4) | exact (by decide : (2 : Nat) < 4) | exact (by decide : (3 : Nat) < 4) | exact m_runAt_lt4 C _ | exact m_formAt_lt4 C _
theorem dd_fund : yL_fund.cls ≠ "java/lang/invoke/MethodHandle" ∧ yL_fund.cls ≠ "java/lang/invoke/VarHandle" ∧ (parseMethodDescriptor yL_fund.desc).map (fun d => d.parameters.length) = some 4 := ⟨by decide +kernel, by decide +kernel, by decide +kernel⟩
theorem m_fund_lt (C : gCT) (n1 n2 : Int32) : (m_fund C n1 n2).1 < 4 := by
  unfold m_fund
  dsimp only
  (repeat' split)
  all_goals first | exact (by decide : (0 : Nat) < 4) | exact (by decide : (1 : Nat) < 4) | exact (by decide : (2 : Nat) < 4) | exact (by decide : (3 : Nat) < 4) | exact m_runAt_lt4 C _ | exact m_formAt_lt4 C _
theorem dd_setQuota : yL_setQuota.cls ≠ "java/lang/invoke/MethodHandle" ∧ yL_setQuota.cls ≠ "java/lang/invoke/VarHandle" ∧ (parseMethodDescriptor yL_setQuota.desc).map (fun d => d.parameters.length) = some 5 := ⟨by decide +kernel, by decide +kernel, by decide +kernel⟩
theorem m_setQuota_lt (C : gCT) (n1 n2 n3 : Int32) : (m_setQuota C n1 n2 n3).1 < 4 := by
  unfold m_setQuota
  dsimp only
  (repeat' split)
  all_goals first | exact (by decide : (0 : Nat) < 4) | exact (by decide : (1 : Nat) < 4) | exact (by decide : (2 : Nat) < 4) | exact (by decide : (3 : Nat) < 4) | exact m_runAt_lt4 C _ | exact m_formAt_lt4 C _
theorem dd_setPrice : yL_setPrice.cls ≠ "java/lang/invoke/MethodHandle" ∧ yL_setPrice.cls ≠ "java/lang/invoke/VarHandle" ∧ (parseMethodDescriptor yL_setPrice.desc).map (fun d => d.parameters.length) = some 4 := ⟨by decide +kernel, by decide +kernel, by decide +kernel⟩
theorem m_setPrice_lt (C : gCT) (n1 n2 : Int32) : (m_setPrice C n1 n2).1 < 4 := by
  unfold m_setPrice
  dsimp only
  (repeat' split)
  all_goals first | exact (by decide : (0 : Nat) < 4) | exact (by decide : (1 : Nat) < 4) | exact (by decide : (2 : Nat) < 4) | exact (by decide : (3 : Nat) < 4) | exact m_runAt_lt4 C _ | exact m_formAt_lt4 C _
theorem dd_reword : yL_reword.cls ≠ "java/lang/invoke/MethodHandle" ∧ yL_reword.cls ≠ "java/lang/invoke/VarHandle" ∧ (parseMethodDescriptor yL_reword.desc).map (fun d => d.parameters.length) = some 3 := ⟨by decide +kernel, by decide +kernel, by decide +kernel⟩
theorem m_reword_lt (C : gCT) (n1 : Int32) : (m_reword C n1).1 < 4 := by
  unfold m_reword
  dsimp only
  (repeat' split)
  all_goals first | exact (by decide : (0 : Nat) < 4) | exact (by decide : (1 : Nat) < 4) | exact (by decide : (2 : Nat) < 4) | exact (by decide : (3 : Nat) < 4) | exact m_runAt_lt4 C _ | exact m_formAt_lt4 C _
theorem dd_begin : yL_begin.cls ≠ "java/lang/invoke/MethodHandle" ∧ yL_begin.cls ≠ "java/lang/invoke/VarHandle" ∧ (parseMethodDescriptor yL_begin.desc).map (fun d => d.parameters.length) = some 4 := ⟨by decide +kernel, by decide +kernel, by decide +kernel⟩
theorem m_begin_lt (C : gCT) (n1 n2 : Int32) : (m_begin C n1 n2).1 < 4 := by
  unfold m_begin
  dsimp only
  (repeat' split)
  all_goals first | exact (by decide : (0 : Nat) < 4) | exact (by decide : (1 : Nat) < 4) | exact (by decide : (2 : Nat) < 4) | exact (by decide : (3 : Nat) < 4) | exact m_runAt_lt4 C _ | exact m_formAt_lt4 C _
theorem dd_answer : yL_answer.cls ≠ "java/lang/invoke/MethodHandle" ∧ yL_answer.cls ≠ "java/lang/invoke/VarHandle" ∧ (parseMethodDescriptor yL_answer.desc).map (fun d => d.parameters.length) = some 4 := ⟨by decide +kernel, by decide +kernel, by decide +kernel⟩
theorem m_answer_lt (C : gCT) (n1 n2 : Int32) : (m_answer C n1 n2).1 < 4 := by
  unfold m_answer
  dsimp only
  (repeat' split)
  all_goals first | exact (by decide : (0 : Nat) < 4) | exact (by decide : (1 : Nat) < 4) | exact (by decide : (2 : Nat) < 4) | exact (by decide : (3 : Nat) < 4) | exact m_runAt_lt4 C _ | exact m_formAt_lt4 C _
theorem dd_save : yL_save.cls ≠ "java/lang/invoke/MethodHandle" ∧ yL_save.cls ≠ "java/lang/invoke/VarHandle" ∧ (parseMethodDescriptor yL_save.desc).map (fun d => d.parameters.length) = some 2 := ⟨by decide +kernel, by decide +kernel, by decide +kernel⟩
theorem m_save_lt (C : gCT) (n1 : Int32) : (m_save C n1).1 < 4 := by
  unfold m_save
  dsimp only
  (repeat' split)
  all_goals first | exact (by decide : (0 : Nat) < 4) | exact (by decide : (1 : Nat) < 4) | exact (by decide : (2 : Nat) < 4) | exact (by decide : (3 : Nat) < 4) | exact m_runAt_lt4 C _ | exact m_formAt_lt4 C _
theorem dd_wake : yL_wake.cls ≠ "java/lang/invoke/MethodHandle" ∧ yL_wake.cls ≠ "java/lang/invoke/VarHandle" ∧ (parseMethodDescriptor yL_wake.desc).map (fun d => d.parameters.length) = some 3 := ⟨by decide +kernel, by decide +kernel, by decide +kernel⟩
theorem m_wake_lt (C : gCT) (n1 : Int32) : (m_wake C n1).1 < 4 := by
  unfold m_wake
  dsimp only
  (repeat' split)
  all_goals first | exact (by decide : (0 : Nat) < 4) | exact (by decide : (1 : Nat) < 4) | exact (by decide : (2 : Nat) < 4) | exact (by decide : (3 : Nat) < 4) | exact m_runAt_lt4 C _ | exact m_formAt_lt4 C _
theorem dd_leave : yL_leave.cls ≠ "java/lang/invoke/MethodHandle" ∧ yL_leave.cls ≠ "java/lang/invoke/VarHandle" ∧ (parseMethodDescriptor yL_leave.desc).map (fun d => d.parameters.length) = some 3 := ⟨by decide +kernel, by decide +kernel, by decide +kernel⟩
theorem m_leave_lt (C : gCT) (n1 : Int32) : (m_leave C n1).1 < 4 := by
  unfold m_leave
  dsimp only
  (repeat' split)
  all_goals first | exact (by decide : (0 : Nat) < 4) | exact (by decide : (1 : Nat) < 4) | exact (by decide : (2 : Nat) < 4) | exact (by decide : (3 : Nat) < 4) | exact m_runAt_lt4 C _ | exact m_formAt_lt4 C _
theorem dd_state : yL_state.cls ≠ "java/lang/invoke/MethodHandle" ∧ yL_state.cls ≠ "java/lang/invoke/VarHandle" ∧ (parseMethodDescriptor yL_state.desc).map (fun d => d.parameters.length) = some 3 := ⟨by decide +kernel, by decide +kernel, by decide +kernel⟩
theorem m_state_lt (C : gCT) (n1 : Int32) : (m_state C n1).1 < 4 := by
  unfold m_state
  dsimp only
  (repeat' split)
  all_goals first | exact (by decide : (0 : Nat) < 4) | exact (by decide : (1 : Nat) < 4) | exact (by decide : (2 : Nat) < 4) | exact (by decide : (3 : Nat) < 4) | exact m_runAt_lt4 C _ | exact m_formAt_lt4 C _
theorem dd_question : yL_question.cls ≠ "java/lang/invoke/MethodHandle" ∧ yL_question.cls ≠ "java/lang/invoke/VarHandle" ∧ (parseMethodDescriptor yL_question.desc).map (fun d => d.parameters.length) = some 3 := ⟨by decide +kernel, by decide +kernel, by decide +kernel⟩
theorem m_question_lt (C : gCT) (n1 : Int32) : (m_question C n1).1 < 4 := by
  unfold m_question
  dsimp only
  (repeat' split)
  all_goals first | exact (by decide : (0 : Nat) < 4) | exact (by decide : (1 : Nat) < 4) | exact (by decide : (2 : Nat) < 4) | exact (by decide : (3 : Nat) < 4) | exact m_runAt_lt4 C _ | exact m_formAt_lt4 C _
theorem dd_version : yL_version.cls ≠ "java/lang/invoke/MethodHandle" ∧ yL_version.cls ≠ "java/lang/invoke/VarHandle" ∧ (parseMethodDescriptor yL_version.desc).map (fun d => d.parameters.length) = some 3 := ⟨by decide +kernel, by decide +kernel, by decide +kernel⟩
theorem m_version_lt (C : gCT) (n1 : Int32) : (m_version C n1).1 < 4 := by
  unfold m_version
  dsimp only
  (repeat' split)
  all_goals first | exact (by decide : (0 : Nat) < 4) | exact (by decide : (1 : Nat) < 4) | exact (by decide : (2 : Nat) < 4) | exact (by decide : (3 : Nat) < 4) | exact m_runAt_lt4 C _ | exact m_formAt_lt4 C _
theorem dd_fuel : yL_fuel.cls ≠ "java/lang/invoke/MethodHandle" ∧ yL_fuel.cls ≠ "java/lang/invoke/VarHandle" ∧ (parseMethodDescriptor yL_fuel.desc).map (fun d => d.parameters.length) = some 3 := ⟨by decide +kernel, by decide +kernel, by decide +kernel⟩
theorem m_fuel_lt (C : gCT) (n1 : Int32) : (m_fuel C n1).1 < 4 := by
  unfold m_fuel
  dsimp only
  (repeat' split)
  all_goals first | exact (by decide : (0 : Nat) < 4) | exact (by decide : (1 : Nat) < 4) | exact (by decide : (2 : Nat) < 4) | exact (by decide : (3 : Nat) < 4) | exact m_runAt_lt4 C _ | exact m_formAt_lt4 C _
theorem dd_fuelAgain : yL_fuelAgain.cls ≠ "java/lang/invoke/MethodHandle" ∧ yL_fuelAgain.cls ≠ "java/lang/invoke/VarHandle" ∧ (parseMethodDescriptor yL_fuelAgain.desc).map (fun d => d.parameters.length) = some 3 := ⟨by decide +kernel, by decide +kernel, by decide +kernel⟩
theorem m_fuelAgain_lt (C : gCT) (n1 : Int32) : (m_fuelAgain C n1).1 < 4 := by
  unfold m_fuelAgain
  dsimp only
  (repeat' split)
  all_goals first | exact (by decide : (0 : Nat) < 4) | exact (by decide : (1 : Nat) < 4) | exact (by decide : (2 : Nat) < 4) | exact (by decide : (3 : Nat) < 4) | exact m_runAt_lt4 C _ | exact m_formAt_lt4 C _
theorem dd_slot : yL_slot.cls ≠ "java/lang/invoke/MethodHandle" ∧ yL_slot.cls ≠ "java/lang/invoke/VarHandle" ∧ (parseMethodDescriptor yL_slot.desc).map (fun d => d.parameters.length) = some 4 := ⟨by decide +kernel, by decide +kernel, by decide +kernel⟩
theorem m_slot_lt (C : gCT) (n1 n2 : Int32) : (m_slot C n1 n2).1 < 4 := by
  unfold m_slot
  dsimp only
  (repeat' split)
  all_goals first | exact (by decide : (0 : Nat) < 4) | exact (by decide : (1 : Nat) < 4) | exact (by decide : (2 : Nat) < 4) | exact (by decide : (3 : Nat) < 4) | exact m_runAt_lt4 C _ | exact m_formAt_lt4 C _
theorem dd_slotAgain : yL_slotAgain.cls ≠ "java/lang/invoke/MethodHandle" ∧ yL_slotAgain.cls ≠ "java/lang/invoke/VarHandle" ∧ (parseMethodDescriptor yL_slotAgain.desc).map (fun d => d.parameters.length) = some 4 := ⟨by decide +kernel, by decide +kernel, by decide +kernel⟩
theorem m_slotAgain_lt (C : gCT) (n1 n2 : Int32) : (m_slotAgain C n1 n2).1 < 4 := by
  unfold m_slotAgain
  dsimp only
  (repeat' split)
  all_goals first | exact (by decide : (0 : Nat) < 4) | exact (by decide : (1 : Nat) < 4) | exact (by decide : (2 : Nat) < 4) | exact (by decide : (3 : Nat) < 4) | exact m_runAt_lt4 C _ | exact m_formAt_lt4 C _
theorem dd_depth : yL_depth.cls ≠ "java/lang/invoke/MethodHandle" ∧ yL_depth.cls ≠ "java/lang/invoke/VarHandle" ∧ (parseMethodDescriptor yL_depth.desc).map (fun d => d.parameters.length) = some 3 := ⟨by decide +kernel, by decide +kernel, by decide +kernel⟩
theorem m_depth_lt (C : gCT) (n1 : Int32) : (m_depth C n1).1 < 4 := by
  unfold m_depth
  dsimp only
  (repeat' split)
  all_goals first | exact (by decide : (0 : Nat) < 4) | exact (by decide : (1 : Nat) < 4) | exact (by decide : (2 : Nat) < 4) | exact (by decide : (3 : Nat) < 4) | exact m_runAt_lt4 C _ | exact m_formAt_lt4 C _
theorem dd_answers : yL_answers.cls ≠ "java/lang/invoke/MethodHandle" ∧ yL_answers.cls ≠ "java/lang/invoke/VarHandle" ∧ (parseMethodDescriptor yL_answers.desc).map (fun d => d.parameters.length) = some 3 := ⟨by decide +kernel, by decide +kernel, by decide +kernel⟩
theorem m_answers_lt (C : gCT) (n1 : Int32) : (m_answers C n1).1 < 4 := by
  unfold m_answers
  dsimp only
  (repeat' split)
  all_goals first | exact (by decide : (0 : Nat) < 4) | exact (by decide : (1 : Nat) < 4) | exact (by decide : (2 : Nat) < 4) | exact (by decide : (3 : Nat) < 4) | exact m_runAt_lt4 C _ | exact m_formAt_lt4 C _
theorem dd_answerAt : yL_answerAt.cls ≠ "java/lang/invoke/MethodHandle" ∧ yL_answerAt.cls ≠ "java/lang/invoke/VarHandle" ∧ (parseMethodDescriptor yL_answerAt.desc).map (fun d => d.parameters.length) = some 4 := ⟨by decide +kernel, by decide +kernel, by decide +kernel⟩
theorem m_answerAt_lt (C : gCT) (n1 n2 : Int32) : (m_answerAt C n1 n2).1 < 4 := by
  unfold m_answerAt
  dsimp only
  (repeat' split)
  all_goals first | exact (by decide : (0 : Nat) < 4) | exact (by decide : (1 : Nat) < 4) | exact (by decide : (2 : Nat) < 4) | exact (by decide : (3 : Nat) < 4) | exact m_runAt_lt4 C _ | exact m_formAt_lt4 C _
theorem dd_reward : yL_reward.cls ≠ "java/lang/invoke/MethodHandle" ∧ yL_reward.cls ≠ "java/lang/invoke/VarHandle" ∧ (parseMethodDescriptor yL_reward.desc).map (fun d => d.parameters.length) = some 3 := ⟨by decide +kernel, by decide +kernel, by decide +kernel⟩
theorem m_reward_lt (C : gCT) (n1 : Int32) : (m_reward C n1).1 < 4 := by
  unfold m_reward
  dsimp only
  (repeat' split)
  all_goals first | exact (by decide : (0 : Nat) < 4) | exact (by decide : (1 : Nat) < 4) | exact (by decide : (2 : Nat) < 4) | exact (by decide : (3 : Nat) < 4) | exact m_runAt_lt4 C _ | exact m_formAt_lt4 C _
theorem dd_budget : yL_budget.cls ≠ "java/lang/invoke/MethodHandle" ∧ yL_budget.cls ≠ "java/lang/invoke/VarHandle" ∧ (parseMethodDescriptor yL_budget.desc).map (fun d => d.parameters.length) = some 3 := ⟨by decide +kernel, by decide +kernel, by decide +kernel⟩
theorem m_budget_lt (C : gCT) (n1 : Int32) : (m_budget C n1).1 < 4 := by
  unfold m_budget
  dsimp only
  (repeat' split)
  all_goals first | exact (by decide : (0 : Nat) < 4) | exact (by decide : (1 : Nat) < 4) | exact (by decide : (2 : Nat) < 4) | exact (by decide : (3 : Nat) < 4) | exact m_runAt_lt4 C _ | exact m_formAt_lt4 C _
theorem dd_done : yL_done.cls ≠ "java/lang/invoke/MethodHandle" ∧ yL_done.cls ≠ "java/lang/invoke/VarHandle" ∧ (parseMethodDescriptor yL_done.desc).map (fun d => d.parameters.length) = some 4 := ⟨by decide +kernel, by decide +kernel, by decide +kernel⟩
theorem m_done_lt (C : gCT) (n1 n2 : Int32) : (m_done C n1 n2).1 < 4 := by
  unfold m_done
  dsimp only
  (repeat' split)
  all_goals first | exact (by decide : (0 : Nat) < 4) | exact (by decide : (1 : Nat) < 4) | exact (by decide : (2 : Nat) < 4) | exact (by decide : (3 : Nat) < 4) | exact m_runAt_lt4 C _ | exact m_formAt_lt4 C _
/-- what a case goes on with, at the loop's end -/
def lawK (p : Program) (l : Launch) (e : Env) (s : State) (m : MethodId) (below : List Frame) (meth : Method) (c : Code) (Q : State → Prop) (G : gG) (A : Nat → Prop) (b : Nat) (adM : gAd) (i n cells slots : Nat) : Prop := ∀ (H1 : Heap) (locs1 : List Loc) (cells1 slots1 : Nat) (C1 M1 : gCT) (adC1 : gAd) (ls1 : Array Slot), cells1 ≤ cells + 16 → slots1 ≤ slots + 4096 → gInv C1 → MBI M1 → sRel (n + 1) C1 M1 → gT2 G A s.heap H1 locs1 (gLvO C1) adC1 (gF G C1 adC1) (gLvR 34) adM (gF G M1 adM) →
  lv_has ls1 7 [(4, .int (nI i)), (0, .ref b), (1, .ref (adC1 0 0)), (2, .ref (adM 20 0)), (3, .ref (adC1 22 0))] → W p l e room_1 s m #[.ref b] below meth c H1 locs1 cells1 slots1 Q (F0 m 1729 ls1 [])

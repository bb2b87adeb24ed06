theorem m_leave_ne2 (C : gCT) (n1 : Int32) : (m_leave C n1).1 ≠ 2 := ne_ite (ne_ite (by decide : (0 : Nat) ≠ 2) (ne_ite (by decide : (0 : Nat) ≠ 2) (by decide : (3 : Nat) ≠ 2))) ((m_runAt_ne C n1).1)
set_option maxHeartbeats 4000000 in
set_option maxRecDepth 100000 in
theorem cw_leave : Cond.static yL_leave ∈ gwl ∧ Cond.codeWith yL_leave cL_leave 3 (some .int) [(0, 5, 6, 15), (0, 5, 10, 19)] ∈ gwl := ⟨gwl_of (by decide +kernel) rfl, gwl_of (by decide +kernel) rfl⟩
set_option maxHeartbeats 4000000 in
set_option maxRecDepth 100000 in
theorem c_w_leave (l : Launch) (hst : l.stackTraces = false) (G : gG) (C : gCT) (ad : gAd) (n1 : Int32) (hI : gInv C) : gMwi l yL_leave cL_leave 3 (some .int) [(0, 5, 6, 15), (0, 5, 10, 19)] (gRm 8 125 2 12) G [.ref (ad 0 0), .int n1] (gLvO C) ad (gF G C ad) (gYi G ad (wv (m_leave C n1)) (wd C (m_leave C n1))) := by
  refine w_met (own := RL) (by decide) rfl (Nat.le_of_ble_eq_true rfl) ?_
  intro p e s m below meth c ls X hw hr hlk ht hl
  have hx := X.1.1; have hb := X.1.2.1; have hml := X.1.2.2.1; have hown := X.1.2.2.2.1; have hts := X.1.2.2.2.2
  have hT := hI.top; have hRs := hI.runs; have hK0 : gAdK ad ad := ⟨rfl, fun _ _ => rfl⟩
  have hl : lv_has ls 3 [(0, .ref (ad 0 0)), (1, .int n1)] := hl
  refine lv_aload_n hx hb dL_leave_0 rfl (lv_at hl 0 rfl) ?_
  refine lv_iload_n hx hb dL_leave_1 rfl (lv_at hl 1 rfl) ?_
  refine x_ri X hw (x_runV X (c_m_leave l hst G _ _ _ _ _ _ hT hRs _) cy_X5_leave ml_RL_55 ⟨(Nat.le_of_ble_eq_true rfl), (Nat.le_of_ble_eq_true rfl)⟩ gP.blind (g_recv X hw 0 0 hT.1 rfl rfl) (gP_call X hw _) rfl hl.1 rfl (Nat.le_of_ble_eq_true rfl) dL_leave_2 ⟨(Nat.le_of_ble_eq_true rfl), (Nat.le_of_ble_eq_true rfl)⟩) (fun E ce q H locs hE hw q1 q2 q3 => ?_) (fun H locs h0 hw => ?_)
  · rcases hE with ⟨hk, rfl⟩ | ⟨hk, rfl⟩ | ⟨hk, rfl⟩
    · refine w_catch X [] ⟨0, 5, 6, 15⟩ [⟨0, 5, 10, 19⟩] ht rfl (fun _ hz => nomatch hz) rfl (by decide) cl_RL_15 x_ca_1 q1 q2 q3 ?_
      refine lv_astore_n (lv' := [(2, .ref q), (0, .ref (ad 0 0)), (1, .int n1)]) hx hb dL_leave_6 rfl hl (by decide) rfl (fun ls hl => ?_)
      refine lv_bipush (v := (-101)) hx hb dL_leave_7 (by decide) ?_
      exact w_iret X hw rfl hr rfl hlk (Nat.le_of_ble_eq_true rfl) (Nat.le_of_ble_eq_true rfl) hK0 (by rw [wv, hk]; rfl) (wd_n (by rw [hk]; decide)) dL_leave_9
    · exact absurd hk (m_leave_ne2 _ _)
    · refine w_catch X [⟨0, 5, 6, 15⟩] ⟨0, 5, 10, 19⟩ [] ht rfl (fun z hz => by rcases List.mem_cons.mp hz with rfl | hz; exact ⟨by decide, _, cl_RL_15, x_no_31⟩; exact nomatch hz) rfl (by decide) cl_RL_19 x_ca_3 q1 q2 q3 ?_
      refine lv_astore_n (lv' := [(2, .ref q), (0, .ref (ad 0 0)), (1, .int n1)]) hx hb dL_leave_10 rfl hl (by decide) rfl (fun ls hl => ?_)
      refine lv_bipush (v := (-103)) hx hb dL_leave_11 (by decide) ?_
      exact w_iret X hw rfl hr rfl hlk (Nat.le_of_ble_eq_true rfl) (Nat.le_of_ble_eq_true rfl) hK0 (by rw [wv, hk]; rfl) (wd_n (by rw [hk]; decide)) dL_leave_13
  exact w_iret X hw ((m_leave_str C n1).lv.symm) hr rfl hlk (Nat.le_of_ble_eq_true rfl) (Nat.le_of_ble_eq_true rfl) hK0 (wv_0 h0) (wd_0 h0) dL_leave_5
theorem m_state_ne2 (C : gCT) (n1 : Int32) : (m_state C n1).1 ≠ 2 := ne_ite (by decide : (0 : Nat) ≠ 2) ((m_runAt_ne C n1).1)
theorem m_state_ne3 (C : gCT) (n1 : Int32) : (m_state C n1).1 ≠ 3 := ne_ite (by decide : (0 : Nat) ≠ 3) ((m_runAt_ne C n1).2)
set_option maxHeartbeats 4000000 in
set_option maxRecDepth 100000 in
theorem cw_state : Cond.static yL_state ∈ gwl ∧ Cond.codeWith yL_state cL_state 3 (some .int) [(0, 5, 6, 15)] ∈ gwl := ⟨gwl_of (by decide +kernel) rfl, gwl_of (by decide +kernel) rfl⟩
set_option maxHeartbeats 4000000 in
set_option maxRecDepth 100000 in
theorem c_w_state (l : Launch) (hst : l.stackTraces = false) (G : gG) (C : gCT) (ad : gAd) (n1 : Int32) (hI : gInv C) : gMwi l yL_state cL_state 3 (some .int) [(0, 5, 6, 15)] (gRm 8 124 2 12) G [.ref (ad 0 0), .int n1] (gLvO C) ad (gF G C ad) (gYi G ad (wv (m_state C n1)) (wd C (m_state C n1))) := by
  refine w_met (own := RL) (by decide) rfl (Nat.le_of_ble_eq_true rfl) ?_
  intro p e s m below meth c ls X hw hr hlk ht hl
  have hx := X.1.1; have hb := X.1.2.1; have hml := X.1.2.2.1; have hown := X.1.2.2.2.1; have hts := X.1.2.2.2.2
  have hT := hI.top; have hRs := hI.runs; have hK0 : gAdK ad ad := ⟨rfl, fun _ _ => rfl⟩
  have hl : lv_has ls 3 [(0, .ref (ad 0 0)), (1, .int n1)] := hl
  refine lv_aload_n hx hb dL_state_0 rfl (lv_at hl 0 rfl) ?_
  refine lv_iload_n hx hb dL_state_1 rfl (lv_at hl 1 rfl) ?_
  refine x_ri X hw (x_runV X (c_m_state l hst G _ _ _ _ _ _ hT hRs _) cy_X5_state ml_RL_58 ⟨(Nat.le_of_ble_eq_true rfl), (Nat.le_of_ble_eq_true rfl)⟩ gP.blind (g_recv X hw 0 0 hT.1 rfl rfl) (gP_call X hw _) rfl hl.1 rfl (Nat.le_of_ble_eq_true rfl) dL_state_2 ⟨(Nat.le_of_ble_eq_true rfl), (Nat.le_of_ble_eq_true rfl)⟩) (fun E ce q H locs hE hw q1 q2 q3 => ?_) (fun H locs h0 hw => ?_)
  · rcases hE with ⟨hk, rfl⟩ | ⟨hk, rfl⟩ | ⟨hk, rfl⟩
    · refine w_catch X [] ⟨0, 5, 6, 15⟩ [] ht rfl (fun _ hz => nomatch hz) rfl (by decide) cl_RL_15 x_ca_1 q1 q2 q3 ?_
      refine lv_astore_n (lv' := [(2, .ref q), (0, .ref (ad 0 0)), (1, .int n1)]) hx hb dL_state_6 rfl hl (by decide) rfl (fun ls hl => ?_)
      refine lv_bipush (v := (-101)) hx hb dL_state_7 (by decide) ?_
      exact w_iret X hw rfl hr rfl hlk (Nat.le_of_ble_eq_true rfl) (Nat.le_of_ble_eq_true rfl) hK0 (by rw [wv, hk]; rfl) (wd_n (by rw [hk]; decide)) dL_state_9
    · exact absurd hk (m_state_ne2 _ _)
    · exact absurd hk (m_state_ne3 _ _)
  exact w_iret X hw ((congrArg gLvO (m_state_str C n1)).symm) hr rfl hlk (Nat.le_of_ble_eq_true rfl) (Nat.le_of_ble_eq_true rfl) hK0 (wv_0 h0) (wd_0 h0) dL_state_5
theorem m_question_ne2 (C : gCT) (n1 : Int32) : (m_question C n1).1 ≠ 2 := ne_ite (ne_ite (by decide : (0 : Nat) ≠ 2) (by decide : (0 : Nat) ≠ 2)) ((m_runAt_ne C n1).1)
theorem m_question_ne3 (C : gCT) (n1 : Int32) : (m_question C n1).1 ≠ 3 := ne_ite (ne_ite (by decide : (0 : Nat) ≠ 3) (by decide : (0 : Nat) ≠ 3)) ((m_runAt_ne C n1).2)
set_option maxHeartbeats 4000000 in
set_option maxRecDepth 100000 in
theorem cw_question : Cond.static yL_question ∈ gwl ∧ Cond.codeWith yL_question cL_question 3 (some .int) [(0, 5, 6, 15)] ∈ gwl := ⟨gwl_of (by decide +kernel) rfl, gwl_of (by decide +kernel) rfl⟩
set_option maxHeartbeats 4000000 in
set_option maxRecDepth 100000 in
theorem c_w_question (l : Launch) (hst : l.stackTraces = false) (G : gG) (C : gCT) (ad : gAd) (n1 : Int32) (hI : gInv C) : gMwi l yL_question cL_question 3 (some .int) [(0, 5, 6, 15)] (gRm 8 126 2 12) G [.ref (ad 0 0), .int n1] (gLvO C) ad (gF G C ad) (gYi G ad (wv (m_question C n1)) (wd C (m_question C n1))) := by
  refine w_met (own := RL) (by decide) rfl (Nat.le_of_ble_eq_true rfl) ?_
  intro p e s m below meth c ls X hw hr hlk ht hl
  have hx := X.1.1; have hb := X.1.2.1; have hml := X.1.2.2.1; have hown := X.1.2.2.2.1; have hts := X.1.2.2.2.2
  have hT := hI.top; have hRs := hI.runs; have hK0 : gAdK ad ad := ⟨rfl, fun _ _ => rfl⟩
  have hl : lv_has ls 3 [(0, .ref (ad 0 0)), (1, .int n1)] := hl
  refine lv_aload_n hx hb dL_question_0 rfl (lv_at hl 0 rfl) ?_
  refine lv_iload_n hx hb dL_question_1 rfl (lv_at hl 1 rfl) ?_
  refine x_ri X hw (x_runV X (c_m_question l hst G _ _ _ _ _ _ hT hRs _) cy_X5_question ml_RL_61 ⟨(Nat.le_of_ble_eq_true rfl), (Nat.le_of_ble_eq_true rfl)⟩ gP.blind (g_recv X hw 0 0 hT.1 rfl rfl) (gP_call X hw _) rfl hl.1 rfl (Nat.le_of_ble_eq_true rfl) dL_question_2 ⟨(Nat.le_of_ble_eq_true rfl), (Nat.le_of_ble_eq_true rfl)⟩) (fun E ce q H locs hE hw q1 q2 q3 => ?_) (fun H locs h0 hw => ?_)
  · rcases hE with ⟨hk, rfl⟩ | ⟨hk, rfl⟩ | ⟨hk, rfl⟩
    · refine w_catch X [] ⟨0, 5, 6, 15⟩ [] ht rfl (fun _ hz => nomatch hz) rfl (by decide) cl_RL_15 x_ca_1 q1 q2 q3 ?_
      refine lv_astore_n (lv' := [(2, .ref q), (0, .ref (ad 0 0)), (1, .int n1)]) hx hb dL_question_6 rfl hl (by decide) rfl (fun ls hl => ?_)
      refine lv_bipush (v := (-101)) hx hb dL_question_7 (by decide) ?_
      exact w_iret X hw rfl hr rfl hlk (Nat.le_of_ble_eq_true rfl) (Nat.le_of_ble_eq_true rfl) hK0 (by rw [wv, hk]; rfl) (wd_n (by rw [hk]; decide)) dL_question_9
    · exact absurd hk (m_question_ne2 _ _)
    · exact absurd hk (m_question_ne3 _ _)
  exact w_iret X hw ((congrArg gLvO (m_question_str C n1)).symm) hr rfl hlk (Nat.le_of_ble_eq_true rfl) (Nat.le_of_ble_eq_true rfl) hK0 (wv_0 h0) (wd_0 h0) dL_question_5

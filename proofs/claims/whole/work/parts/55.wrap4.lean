theorem m_version_ne2 (C : gCT) (n1 : Int32) : (m_version C n1).1 ≠ 2 := ne_ite (by decide : (0 : Nat) ≠ 2) ((m_runAt_ne C n1).1)
theorem m_version_ne3 (C : gCT) (n1 : Int32) : (m_version C n1).1 ≠ 3 := ne_ite (by decide : (0 : Nat) ≠ 3) ((m_runAt_ne C n1).2)
set_option maxHeartbeats 4000000 in
set_option maxRecDepth 100000 in
theorem cw_version : Cond.static yL_version ∈ gwl ∧ Cond.codeWith yL_version cL_version 4 (some .int) [(0, 9, 12, 13)] ∈ gwl := ⟨gwl_of (by decide +kernel) rfl, gwl_of (by decide +kernel) rfl⟩
set_option maxHeartbeats 4000000 in
set_option maxRecDepth 100000 in
theorem c_w_version (l : Launch) (hst : l.stackTraces = false) (G : gG) (C : gCT) (ad : gAd) (n1 : Int32) (hI : gInv C) : gMwi l yL_version cL_version 4 (some .int) [(0, 9, 12, 13)] (gRm 8 124 2 12) G [.ref (ad 0 0), .int n1, .ref (ad 22 0)] (gLvO C) ad (gF G C ad) (gYi G ad ((m_version C n1).1) (w_out C (m_version C n1))) := by
  refine w_met (own := RL) (by decide) rfl (Nat.le_of_ble_eq_true rfl) ?_
  intro p e s m below meth c ls X hw hr hlk ht hl
  have hx := X.1.1; have hb := X.1.2.1; have hml := X.1.2.2.1; have hown := X.1.2.2.2.1; have hts := X.1.2.2.2.2
  have hT := hI.top; have hRs := hI.runs; have hK0 : gAdK ad ad := ⟨rfl, rfl⟩
  have hl : lv_has ls 4 [(0, .ref (ad 0 0)), (1, .int n1), (2, .ref (ad 22 0))] := hl
  refine lv_aload_n hx hb dL_version_0 rfl (lv_at hl 2 rfl) ?_
  refine lv_iconst (v := 0) hx hb dL_version_1 (by decide) ?_
  refine lv_aload_n hx hb dL_version_2 rfl (lv_at hl 0 rfl) ?_
  refine lv_iload_n hx hb dL_version_3 rfl (lv_at hl 1 rfl) ?_
  refine x_ri X hw (x_runV X (c_m_version l hst G _ _ _ _ _ _ hT hRs _) cy_X5_version ml_RL_62 ⟨(Nat.le_of_ble_eq_true rfl), (Nat.le_of_ble_eq_true rfl)⟩ gP.blind (g_recv X hw 0 0 hT.1 rfl rfl) (gP_call X hw _) rfl hl.1 rfl (Nat.le_of_ble_eq_true rfl) dL_version_4 ⟨(Nat.le_of_ble_eq_true rfl), (Nat.le_of_ble_eq_true rfl)⟩) (fun E ce q H locs hE hw q1 q2 q3 => ?_) (fun H locs h0 hw => ?_)
  · rcases hE with ⟨hk, rfl⟩ | ⟨hk, rfl⟩ | ⟨hk, rfl⟩
    · refine w_catch X [] ⟨0, 9, 12, 13⟩ [] ht rfl (fun _ hz => nomatch hz) rfl (by decide) cl_RL_13 x_ca_1 q1 q2 q3 ?_
      refine lv_astore_n (lv' := [(3, .ref q), (0, .ref (ad 0 0)), (1, .int n1), (2, .ref (ad 22 0))]) hx hb dL_version_12 rfl hl (by decide) rfl (fun ls hl => ?_)
      refine lv_iconst (v := 1) hx hb dL_version_13 (by decide) ?_
      exact w_iret X hw rfl (k := 1) rfl hr rfl hlk (Nat.le_of_ble_eq_true rfl) (Nat.le_of_ble_eq_true rfl) hK0 (by rw [hk]) (if_neg (by rw [hk]; decide)) dL_version_14
    · exact absurd hk (m_version_ne2 _ _)
    · exact absurd hk (m_version_ne3 _ _)
  refine lv_i2l hx hb dL_version_7 rfl ?_
  refine s_last X hw rfl dL_version_8 (fun H locs hw => ?_)
  refine lv_goto (tgt := 15) hx hb dL_version_9 (by decide) ?_
  refine lv_iconst (v := 0) hx hb dL_version_15 (by decide) ?_
  exact w_iret X hw (((congrArg gLvO (m_version_str C n1)).symm).trans (gLvO_22 _ _ _ _).symm) (k := 0) rfl hr rfl hlk (Nat.le_of_ble_eq_true rfl) (Nat.le_of_ble_eq_true rfl) hK0 (by rw [h0]) (if_pos h0) dL_version_16
theorem m_fuel_ne2 (C : gCT) (n1 : Int32) : (m_fuel C n1).1 ≠ 2 := ne_ite (by decide : (0 : Nat) ≠ 2) ((m_runAt_ne C n1).1)
theorem m_fuel_ne3 (C : gCT) (n1 : Int32) : (m_fuel C n1).1 ≠ 3 := ne_ite (by decide : (0 : Nat) ≠ 3) ((m_runAt_ne C n1).2)
set_option maxHeartbeats 4000000 in
set_option maxRecDepth 100000 in
theorem cw_fuel : Cond.static yL_fuel ∈ gwl ∧ Cond.codeWith yL_fuel cL_fuel 4 (some .int) [(0, 9, 12, 13)] ∈ gwl := ⟨gwl_of (by decide +kernel) rfl, gwl_of (by decide +kernel) rfl⟩
set_option maxHeartbeats 4000000 in
set_option maxRecDepth 100000 in
theorem c_w_fuel (l : Launch) (hst : l.stackTraces = false) (G : gG) (C : gCT) (ad : gAd) (n1 : Int32) (hI : gInv C) : gMwi l yL_fuel cL_fuel 4 (some .int) [(0, 9, 12, 13)] (gRm 8 124 2 12) G [.ref (ad 0 0), .int n1, .ref (ad 22 0)] (gLvO C) ad (gF G C ad) (gYi G ad ((m_fuel C n1).1) (w_out C (m_fuel C n1))) := by
  refine w_met (own := RL) (by decide) rfl (Nat.le_of_ble_eq_true rfl) ?_
  intro p e s m below meth c ls X hw hr hlk ht hl
  have hx := X.1.1; have hb := X.1.2.1; have hml := X.1.2.2.1; have hown := X.1.2.2.2.1; have hts := X.1.2.2.2.2
  have hT := hI.top; have hRs := hI.runs; have hK0 : gAdK ad ad := ⟨rfl, rfl⟩
  have hl : lv_has ls 4 [(0, .ref (ad 0 0)), (1, .int n1), (2, .ref (ad 22 0))] := hl
  refine lv_aload_n hx hb dL_fuel_0 rfl (lv_at hl 2 rfl) ?_
  refine lv_iconst (v := 0) hx hb dL_fuel_1 (by decide) ?_
  refine lv_aload_n hx hb dL_fuel_2 rfl (lv_at hl 0 rfl) ?_
  refine lv_iload_n hx hb dL_fuel_3 rfl (lv_at hl 1 rfl) ?_
  refine x_ri X hw (x_runV X (c_m_fuel l hst G _ _ _ _ _ _ hT hRs _) cy_X5_fuel ml_RL_65 ⟨(Nat.le_of_ble_eq_true rfl), (Nat.le_of_ble_eq_true rfl)⟩ gP.blind (g_recv X hw 0 0 hT.1 rfl rfl) (gP_call X hw _) rfl hl.1 rfl (Nat.le_of_ble_eq_true rfl) dL_fuel_4 ⟨(Nat.le_of_ble_eq_true rfl), (Nat.le_of_ble_eq_true rfl)⟩) (fun E ce q H locs hE hw q1 q2 q3 => ?_) (fun H locs h0 hw => ?_)
  · rcases hE with ⟨hk, rfl⟩ | ⟨hk, rfl⟩ | ⟨hk, rfl⟩
    · refine w_catch X [] ⟨0, 9, 12, 13⟩ [] ht rfl (fun _ hz => nomatch hz) rfl (by decide) cl_RL_13 x_ca_1 q1 q2 q3 ?_
      refine lv_astore_n (lv' := [(3, .ref q), (0, .ref (ad 0 0)), (1, .int n1), (2, .ref (ad 22 0))]) hx hb dL_fuel_12 rfl hl (by decide) rfl (fun ls hl => ?_)
      refine lv_iconst (v := 1) hx hb dL_fuel_13 (by decide) ?_
      exact w_iret X hw rfl (k := 1) rfl hr rfl hlk (Nat.le_of_ble_eq_true rfl) (Nat.le_of_ble_eq_true rfl) hK0 (by rw [hk]) (if_neg (by rw [hk]; decide)) dL_fuel_14
    · exact absurd hk (m_fuel_ne2 _ _)
    · exact absurd hk (m_fuel_ne3 _ _)
  refine lv_i2l hx hb dL_fuel_7 rfl ?_
  refine s_last X hw rfl dL_fuel_8 (fun H locs hw => ?_)
  refine lv_goto (tgt := 15) hx hb dL_fuel_9 (by decide) ?_
  refine lv_iconst (v := 0) hx hb dL_fuel_15 (by decide) ?_
  exact w_iret X hw (((congrArg gLvO (m_fuel_str C n1)).symm).trans (gLvO_22 _ _ _ _).symm) (k := 0) rfl hr rfl hlk (Nat.le_of_ble_eq_true rfl) (Nat.le_of_ble_eq_true rfl) hK0 (by rw [h0]) (if_pos h0) dL_fuel_16
theorem m_fuelAgain_ne2 (C : gCT) (n1 : Int32) : (m_fuelAgain C n1).1 ≠ 2 := ne_ite (by decide : (0 : Nat) ≠ 2) ((m_runAt_ne C n1).1)
theorem m_fuelAgain_ne3 (C : gCT) (n1 : Int32) : (m_fuelAgain C n1).1 ≠ 3 := ne_ite (by decide : (0 : Nat) ≠ 3) ((m_runAt_ne C n1).2)
set_option maxHeartbeats 4000000 in
set_option maxRecDepth 100000 in
theorem cw_fuelAgain : Cond.static yL_fuelAgain ∈ gwl ∧ Cond.codeWith yL_fuelAgain cL_fuelAgain 4 (some .int) [(0, 9, 12, 13)] ∈ gwl := ⟨gwl_of (by decide +kernel) rfl, gwl_of (by decide +kernel) rfl⟩
set_option maxHeartbeats 4000000 in
set_option maxRecDepth 100000 in
theorem c_w_fuelAgain (l : Launch) (hst : l.stackTraces = false) (G : gG) (C : gCT) (ad : gAd) (n1 : Int32) (hI : gInv C) : gMwi l yL_fuelAgain cL_fuelAgain 4 (some .int) [(0, 9, 12, 13)] (gRm 9 202 2 12) G [.ref (ad 0 0), .int n1, .ref (ad 22 0)] (gLvO C) ad (gF G C ad) (gYi G ad ((m_fuelAgain C n1).1) (w_out C (m_fuelAgain C n1))) := by
  refine w_met (own := RL) (by decide) rfl (Nat.le_of_ble_eq_true rfl) ?_
  intro p e s m below meth c ls X hw hr hlk ht hl
  have hx := X.1.1; have hb := X.1.2.1; have hml := X.1.2.2.1; have hown := X.1.2.2.2.1; have hts := X.1.2.2.2.2
  have hT := hI.top; have hRs := hI.runs; have hK0 : gAdK ad ad := ⟨rfl, rfl⟩
  have hl : lv_has ls 4 [(0, .ref (ad 0 0)), (1, .int n1), (2, .ref (ad 22 0))] := hl
  refine lv_aload_n hx hb dL_fuelAgain_0 rfl (lv_at hl 2 rfl) ?_
  refine lv_iconst (v := 0) hx hb dL_fuelAgain_1 (by decide) ?_
  refine lv_aload_n hx hb dL_fuelAgain_2 rfl (lv_at hl 0 rfl) ?_
  refine lv_iload_n hx hb dL_fuelAgain_3 rfl (lv_at hl 1 rfl) ?_
  refine x_ri X hw (x_runV X (c_m_fuelAgain l hst G _ _ _ _ _ _ hT hRs _) cy_X5_fuelAgain ml_RL_68 ⟨(Nat.le_of_ble_eq_true rfl), (Nat.le_of_ble_eq_true rfl)⟩ gP.blind (g_recv X hw 0 0 hT.1 rfl rfl) (gP_call X hw _) rfl hl.1 rfl (Nat.le_of_ble_eq_true rfl) dL_fuelAgain_4 ⟨(Nat.le_of_ble_eq_true rfl), (Nat.le_of_ble_eq_true rfl)⟩) (fun E ce q H locs hE hw q1 q2 q3 => ?_) (fun H locs h0 hw => ?_)
  · rcases hE with ⟨hk, rfl⟩ | ⟨hk, rfl⟩ | ⟨hk, rfl⟩
    · refine w_catch X [] ⟨0, 9, 12, 13⟩ [] ht rfl (fun _ hz => nomatch hz) rfl (by decide) cl_RL_13 x_ca_1 q1 q2 q3 ?_
      refine lv_astore_n (lv' := [(3, .ref q), (0, .ref (ad 0 0)), (1, .int n1), (2, .ref (ad 22 0))]) hx hb dL_fuelAgain_12 rfl hl (by decide) rfl (fun ls hl => ?_)
      refine lv_iconst (v := 1) hx hb dL_fuelAgain_13 (by decide) ?_
      exact w_iret X hw rfl (k := 1) rfl hr rfl hlk (Nat.le_of_ble_eq_true rfl) (Nat.le_of_ble_eq_true rfl) hK0 (by rw [hk]) (if_neg (by rw [hk]; decide)) dL_fuelAgain_14
    · exact absurd hk (m_fuelAgain_ne2 _ _)
    · exact absurd hk (m_fuelAgain_ne3 _ _)
  refine lv_i2l hx hb dL_fuelAgain_7 rfl ?_
  refine s_last X hw rfl dL_fuelAgain_8 (fun H locs hw => ?_)
  refine lv_goto (tgt := 15) hx hb dL_fuelAgain_9 (by decide) ?_
  refine lv_iconst (v := 0) hx hb dL_fuelAgain_15 (by decide) ?_
  exact w_iret X hw (((m_fuelAgain_str C n1).lv.symm).trans (gLvO_22 _ _ _ _).symm) (k := 0) rfl hr rfl hlk (Nat.le_of_ble_eq_true rfl) (Nat.le_of_ble_eq_true rfl) hK0 (by rw [h0]) (if_pos h0) dL_fuelAgain_16
theorem m_slot_ne2 (C : gCT) (n1 n2 : Int32) : (m_slot C n1 n2).1 ≠ 2 := ne_ite (ne_ite (by decide : (1 : Nat) ≠ 2) (by decide : (0 : Nat) ≠ 2)) ((m_runAt_ne C n1).1)
theorem m_slot_ne3 (C : gCT) (n1 n2 : Int32) : (m_slot C n1 n2).1 ≠ 3 := ne_ite (ne_ite (by decide : (1 : Nat) ≠ 3) (by decide : (0 : Nat) ≠ 3)) ((m_runAt_ne C n1).2)
set_option maxHeartbeats 4000000 in
set_option maxRecDepth 100000 in
theorem cw_slot : Cond.static yL_slot ∈ gwl ∧ Cond.codeWith yL_slot cL_slot 5 (some .int) [(0, 10, 13, 13)] ∈ gwl := ⟨gwl_of (by decide +kernel) rfl, gwl_of (by decide +kernel) rfl⟩
set_option maxHeartbeats 4000000 in
set_option maxRecDepth 100000 in
theorem c_w_slot (l : Launch) (hst : l.stackTraces = false) (G : gG) (C : gCT) (ad : gAd) (n1 n2 : Int32) (hI : gInv C) : gMwi l yL_slot cL_slot 5 (some .int) [(0, 10, 13, 13)] (gRm 8 126 2 12) G [.ref (ad 0 0), .int n1, .int n2, .ref (ad 22 0)] (gLvO C) ad (gF G C ad) (gYi G ad ((m_slot C n1 n2).1) (w_out C (m_slot C n1 n2))) := by
  refine w_met (own := RL) (by decide) rfl (Nat.le_of_ble_eq_true rfl) ?_
  intro p e s m below meth c ls X hw hr hlk ht hl
  have hx := X.1.1; have hb := X.1.2.1; have hml := X.1.2.2.1; have hown := X.1.2.2.2.1; have hts := X.1.2.2.2.2
  have hT := hI.top; have hRs := hI.runs; have hK0 : gAdK ad ad := ⟨rfl, rfl⟩
  have hl : lv_has ls 5 [(0, .ref (ad 0 0)), (1, .int n1), (2, .int n2), (3, .ref (ad 22 0))] := hl
  refine lv_aload_n hx hb dL_slot_0 rfl (lv_at hl 3 rfl) ?_
  refine lv_iconst (v := 0) hx hb dL_slot_1 (by decide) ?_
  refine lv_aload_n hx hb dL_slot_2 rfl (lv_at hl 0 rfl) ?_
  refine lv_iload_n hx hb dL_slot_3 rfl (lv_at hl 1 rfl) ?_
  refine lv_iload_n hx hb dL_slot_4 rfl (lv_at hl 2 rfl) ?_
  refine x_ri X hw (x_runV X (c_m_slot l hst G _ _ _ _ _ _ _ hT hRs _) cy_X5_slot ml_RL_71 ⟨(Nat.le_of_ble_eq_true rfl), (Nat.le_of_ble_eq_true rfl)⟩ gP.blind (g_recv X hw 0 0 hT.1 rfl rfl) (gP_call X hw _) rfl hl.1 rfl (Nat.le_of_ble_eq_true rfl) dL_slot_5 ⟨(Nat.le_of_ble_eq_true rfl), (Nat.le_of_ble_eq_true rfl)⟩) (fun E ce q H locs hE hw q1 q2 q3 => ?_) (fun H locs h0 hw => ?_)
  · rcases hE with ⟨hk, rfl⟩ | ⟨hk, rfl⟩ | ⟨hk, rfl⟩
    · refine w_catch X [] ⟨0, 10, 13, 13⟩ [] ht rfl (fun _ hz => nomatch hz) rfl (by decide) cl_RL_13 x_ca_1 q1 q2 q3 ?_
      refine lv_astore (lv' := [(4, .ref q), (0, .ref (ad 0 0)), (1, .int n1), (2, .int n2), (3, .ref (ad 22 0))]) hx hb dL_slot_13 hl (by decide) rfl (fun ls hl => ?_)
      refine lv_iconst (v := 1) hx hb dL_slot_15 (by decide) ?_
      exact w_iret X hw rfl (k := 1) rfl hr rfl hlk (Nat.le_of_ble_eq_true rfl) (Nat.le_of_ble_eq_true rfl) hK0 (by rw [hk]) (if_neg (by rw [hk]; decide)) dL_slot_16
    · exact absurd hk (m_slot_ne2 _ _ _)
    · exact absurd hk (m_slot_ne3 _ _ _)
  refine lv_i2l hx hb dL_slot_8 rfl ?_
  refine s_last X hw rfl dL_slot_9 (fun H locs hw => ?_)
  refine lv_goto (tgt := 17) hx hb dL_slot_10 (by decide) ?_
  refine lv_iconst (v := 0) hx hb dL_slot_17 (by decide) ?_
  exact w_iret X hw (((congrArg gLvO (m_slot_str C n1 n2)).symm).trans (gLvO_22 _ _ _ _).symm) (k := 0) rfl hr rfl hlk (Nat.le_of_ble_eq_true rfl) (Nat.le_of_ble_eq_true rfl) hK0 (by rw [h0]) (if_pos h0) dL_slot_18
theorem m_slotAgain_ne2 (C : gCT) (n1 n2 : Int32) : (m_slotAgain C n1 n2).1 ≠ 2 := ne_ite (ne_ite (by decide : (1 : Nat) ≠ 2) (by decide : (0 : Nat) ≠ 2)) ((m_runAt_ne C n1).1)
theorem m_slotAgain_ne3 (C : gCT) (n1 n2 : Int32) : (m_slotAgain C n1 n2).1 ≠ 3 := ne_ite (ne_ite (by decide : (1 : Nat) ≠ 3) (by decide : (0 : Nat) ≠ 3)) ((m_runAt_ne C n1).2)
set_option maxHeartbeats 4000000 in
set_option maxRecDepth 100000 in
theorem cw_slotAgain : Cond.static yL_slotAgain ∈ gwl ∧ Cond.codeWith yL_slotAgain cL_slotAgain 5 (some .int) [(0, 10, 13, 13)] ∈ gwl := ⟨gwl_of (by decide +kernel) rfl, gwl_of (by decide +kernel) rfl⟩
set_option maxHeartbeats 4000000 in
set_option maxRecDepth 100000 in
theorem c_w_slotAgain (l : Launch) (hst : l.stackTraces = false) (G : gG) (C : gCT) (ad : gAd) (n1 n2 : Int32) (hI : gInv C) : gMwi l yL_slotAgain cL_slotAgain 5 (some .int) [(0, 10, 13, 13)] (gRm 9 204 2 12) G [.ref (ad 0 0), .int n1, .int n2, .ref (ad 22 0)] (gLvO C) ad (gF G C ad) (gYi G ad ((m_slotAgain C n1 n2).1) (w_out C (m_slotAgain C n1 n2))) := by
  refine w_met (own := RL) (by decide) rfl (Nat.le_of_ble_eq_true rfl) ?_
  intro p e s m below meth c ls X hw hr hlk ht hl
  have hx := X.1.1; have hb := X.1.2.1; have hml := X.1.2.2.1; have hown := X.1.2.2.2.1; have hts := X.1.2.2.2.2
  have hT := hI.top; have hRs := hI.runs; have hK0 : gAdK ad ad := ⟨rfl, rfl⟩
  have hl : lv_has ls 5 [(0, .ref (ad 0 0)), (1, .int n1), (2, .int n2), (3, .ref (ad 22 0))] := hl
  refine lv_aload_n hx hb dL_slotAgain_0 rfl (lv_at hl 3 rfl) ?_
  refine lv_iconst (v := 0) hx hb dL_slotAgain_1 (by decide) ?_
  refine lv_aload_n hx hb dL_slotAgain_2 rfl (lv_at hl 0 rfl) ?_
  refine lv_iload_n hx hb dL_slotAgain_3 rfl (lv_at hl 1 rfl) ?_
  refine lv_iload_n hx hb dL_slotAgain_4 rfl (lv_at hl 2 rfl) ?_
  refine x_ri X hw (x_runV X (c_m_slotAgain l hst G _ _ _ _ _ _ _ hT hRs _) cy_X5_slotAgain ml_RL_74 ⟨(Nat.le_of_ble_eq_true rfl), (Nat.le_of_ble_eq_true rfl)⟩ gP.blind (g_recv X hw 0 0 hT.1 rfl rfl) (gP_call X hw _) rfl hl.1 rfl (Nat.le_of_ble_eq_true rfl) dL_slotAgain_5 ⟨(Nat.le_of_ble_eq_true rfl), (Nat.le_of_ble_eq_true rfl)⟩) (fun E ce q H locs hE hw q1 q2 q3 => ?_) (fun H locs h0 hw => ?_)
  · rcases hE with ⟨hk, rfl⟩ | ⟨hk, rfl⟩ | ⟨hk, rfl⟩
    · refine w_catch X [] ⟨0, 10, 13, 13⟩ [] ht rfl (fun _ hz => nomatch hz) rfl (by decide) cl_RL_13 x_ca_1 q1 q2 q3 ?_
      refine lv_astore (lv' := [(4, .ref q), (0, .ref (ad 0 0)), (1, .int n1), (2, .int n2), (3, .ref (ad 22 0))]) hx hb dL_slotAgain_13 hl (by decide) rfl (fun ls hl => ?_)
      refine lv_iconst (v := 1) hx hb dL_slotAgain_15 (by decide) ?_
      exact w_iret X hw rfl (k := 1) rfl hr rfl hlk (Nat.le_of_ble_eq_true rfl) (Nat.le_of_ble_eq_true rfl) hK0 (by rw [hk]) (if_neg (by rw [hk]; decide)) dL_slotAgain_16
    · exact absurd hk (m_slotAgain_ne2 _ _ _)
    · exact absurd hk (m_slotAgain_ne3 _ _ _)
  refine lv_i2l hx hb dL_slotAgain_8 rfl ?_
  refine s_last X hw rfl dL_slotAgain_9 (fun H locs hw => ?_)
  refine lv_goto (tgt := 17) hx hb dL_slotAgain_10 (by decide) ?_
  refine lv_iconst (v := 0) hx hb dL_slotAgain_17 (by decide) ?_
  exact w_iret X hw (((m_slotAgain_str C n1 n2).lv.symm).trans (gLvO_22 _ _ _ _).symm) (k := 0) rfl hr rfl hlk (Nat.le_of_ble_eq_true rfl) (Nat.le_of_ble_eq_true rfl) hK0 (by rw [h0]) (if_pos h0) dL_slotAgain_18
theorem m_depth_ne2 (C : gCT) (n1 : Int32) : (m_depth C n1).1 ≠ 2 := ne_ite (by decide : (0 : Nat) ≠ 2) ((m_runAt_ne C n1).1)
theorem m_depth_ne3 (C : gCT) (n1 : Int32) : (m_depth C n1).1 ≠ 3 := ne_ite (by decide : (0 : Nat) ≠ 3) ((m_runAt_ne C n1).2)
set_option maxHeartbeats 4000000 in
set_option maxRecDepth 100000 in
theorem cw_depth : Cond.static yL_depth ∈ gwl ∧ Cond.codeWith yL_depth cL_depth 4 (some .int) [(0, 9, 12, 13)] ∈ gwl := ⟨gwl_of (by decide +kernel) rfl, gwl_of (by decide +kernel) rfl⟩
set_option maxHeartbeats 4000000 in
set_option maxRecDepth 100000 in
theorem c_w_depth (l : Launch) (hst : l.stackTraces = false) (G : gG) (C : gCT) (ad : gAd) (n1 : Int32) (hI : gInv C) : gMwi l yL_depth cL_depth 4 (some .int) [(0, 9, 12, 13)] (gRm 8 124 2 12) G [.ref (ad 0 0), .int n1, .ref (ad 22 0)] (gLvO C) ad (gF G C ad) (gYi G ad ((m_depth C n1).1) (w_out C (m_depth C n1))) := by
  refine w_met (own := RL) (by decide) rfl (Nat.le_of_ble_eq_true rfl) ?_
  intro p e s m below meth c ls X hw hr hlk ht hl
  have hx := X.1.1; have hb := X.1.2.1; have hml := X.1.2.2.1; have hown := X.1.2.2.2.1; have hts := X.1.2.2.2.2
  have hT := hI.top; have hRs := hI.runs; have hK0 : gAdK ad ad := ⟨rfl, rfl⟩
  have hl : lv_has ls 4 [(0, .ref (ad 0 0)), (1, .int n1), (2, .ref (ad 22 0))] := hl
  refine lv_aload_n hx hb dL_depth_0 rfl (lv_at hl 2 rfl) ?_
  refine lv_iconst (v := 0) hx hb dL_depth_1 (by decide) ?_
  refine lv_aload_n hx hb dL_depth_2 rfl (lv_at hl 0 rfl) ?_
  refine lv_iload_n hx hb dL_depth_3 rfl (lv_at hl 1 rfl) ?_
  refine x_ri X hw (x_runV X (c_m_depth l hst G _ _ _ _ _ _ hT hRs _) cy_X5_depth ml_RL_77 ⟨(Nat.le_of_ble_eq_true rfl), (Nat.le_of_ble_eq_true rfl)⟩ gP.blind (g_recv X hw 0 0 hT.1 rfl rfl) (gP_call X hw _) rfl hl.1 rfl (Nat.le_of_ble_eq_true rfl) dL_depth_4 ⟨(Nat.le_of_ble_eq_true rfl), (Nat.le_of_ble_eq_true rfl)⟩) (fun E ce q H locs hE hw q1 q2 q3 => ?_) (fun H locs h0 hw => ?_)
  · rcases hE with ⟨hk, rfl⟩ | ⟨hk, rfl⟩ | ⟨hk, rfl⟩
    · refine w_catch X [] ⟨0, 9, 12, 13⟩ [] ht rfl (fun _ hz => nomatch hz) rfl (by decide) cl_RL_13 x_ca_1 q1 q2 q3 ?_
      refine lv_astore_n (lv' := [(3, .ref q), (0, .ref (ad 0 0)), (1, .int n1), (2, .ref (ad 22 0))]) hx hb dL_depth_12 rfl hl (by decide) rfl (fun ls hl => ?_)
      refine lv_iconst (v := 1) hx hb dL_depth_13 (by decide) ?_
      exact w_iret X hw rfl (k := 1) rfl hr rfl hlk (Nat.le_of_ble_eq_true rfl) (Nat.le_of_ble_eq_true rfl) hK0 (by rw [hk]) (if_neg (by rw [hk]; decide)) dL_depth_14
    · exact absurd hk (m_depth_ne2 _ _)
    · exact absurd hk (m_depth_ne3 _ _)
  refine lv_i2l hx hb dL_depth_7 rfl ?_
  refine s_last X hw rfl dL_depth_8 (fun H locs hw => ?_)
  refine lv_goto (tgt := 15) hx hb dL_depth_9 (by decide) ?_
  refine lv_iconst (v := 0) hx hb dL_depth_15 (by decide) ?_
  exact w_iret X hw (((congrArg gLvO (m_depth_str C n1)).symm).trans (gLvO_22 _ _ _ _).symm) (k := 0) rfl hr rfl hlk (Nat.le_of_ble_eq_true rfl) (Nat.le_of_ble_eq_true rfl) hK0 (by rw [h0]) (if_pos h0) dL_depth_16
theorem m_answers_ne2 (C : gCT) (n1 : Int32) : (m_answers C n1).1 ≠ 2 := ne_ite (by decide : (0 : Nat) ≠ 2) ((m_runAt_ne C n1).1)
theorem m_answers_ne3 (C : gCT) (n1 : Int32) : (m_answers C n1).1 ≠ 3 := ne_ite (by decide : (0 : Nat) ≠ 3) ((m_runAt_ne C n1).2)
set_option maxHeartbeats 4000000 in
set_option maxRecDepth 100000 in
theorem cw_answers : Cond.static yL_answers ∈ gwl ∧ Cond.codeWith yL_answers cL_answers 4 (some .int) [(0, 9, 12, 13)] ∈ gwl := ⟨gwl_of (by decide +kernel) rfl, gwl_of (by decide +kernel) rfl⟩
set_option maxHeartbeats 4000000 in
set_option maxRecDepth 100000 in
theorem c_w_answers (l : Launch) (hst : l.stackTraces = false) (G : gG) (C : gCT) (ad : gAd) (n1 : Int32) (hI : gInv C) : gMwi l yL_answers cL_answers 4 (some .int) [(0, 9, 12, 13)] (gRm 8 124 2 12) G [.ref (ad 0 0), .int n1, .ref (ad 22 0)] (gLvO C) ad (gF G C ad) (gYi G ad ((m_answers C n1).1) (w_out C (m_answers C n1))) := by
  refine w_met (own := RL) (by decide) rfl (Nat.le_of_ble_eq_true rfl) ?_
  intro p e s m below meth c ls X hw hr hlk ht hl
  have hx := X.1.1; have hb := X.1.2.1; have hml := X.1.2.2.1; have hown := X.1.2.2.2.1; have hts := X.1.2.2.2.2
  have hT := hI.top; have hRs := hI.runs; have hK0 : gAdK ad ad := ⟨rfl, rfl⟩
  have hl : lv_has ls 4 [(0, .ref (ad 0 0)), (1, .int n1), (2, .ref (ad 22 0))] := hl
  refine lv_aload_n hx hb dL_answers_0 rfl (lv_at hl 2 rfl) ?_
  refine lv_iconst (v := 0) hx hb dL_answers_1 (by decide) ?_
  refine lv_aload_n hx hb dL_answers_2 rfl (lv_at hl 0 rfl) ?_
  refine lv_iload_n hx hb dL_answers_3 rfl (lv_at hl 1 rfl) ?_
  refine x_ri X hw (x_runV X (c_m_answers l hst G _ _ _ _ _ _ hT hRs _) cy_X5_answers ml_RL_80 ⟨(Nat.le_of_ble_eq_true rfl), (Nat.le_of_ble_eq_true rfl)⟩ gP.blind (g_recv X hw 0 0 hT.1 rfl rfl) (gP_call X hw _) rfl hl.1 rfl (Nat.le_of_ble_eq_true rfl) dL_answers_4 ⟨(Nat.le_of_ble_eq_true rfl), (Nat.le_of_ble_eq_true rfl)⟩) (fun E ce q H locs hE hw q1 q2 q3 => ?_) (fun H locs h0 hw => ?_)
  · rcases hE with ⟨hk, rfl⟩ | ⟨hk, rfl⟩ | ⟨hk, rfl⟩
    · refine w_catch X [] ⟨0, 9, 12, 13⟩ [] ht rfl (fun _ hz => nomatch hz) rfl (by decide) cl_RL_13 x_ca_1 q1 q2 q3 ?_
      refine lv_astore_n (lv' := [(3, .ref q), (0, .ref (ad 0 0)), (1, .int n1), (2, .ref (ad 22 0))]) hx hb dL_answers_12 rfl hl (by decide) rfl (fun ls hl => ?_)
      refine lv_iconst (v := 1) hx hb dL_answers_13 (by decide) ?_
      exact w_iret X hw rfl (k := 1) rfl hr rfl hlk (Nat.le_of_ble_eq_true rfl) (Nat.le_of_ble_eq_true rfl) hK0 (by rw [hk]) (if_neg (by rw [hk]; decide)) dL_answers_14
    · exact absurd hk (m_answers_ne2 _ _)
    · exact absurd hk (m_answers_ne3 _ _)
  refine lv_i2l hx hb dL_answers_7 rfl ?_
  refine s_last X hw rfl dL_answers_8 (fun H locs hw => ?_)
  refine lv_goto (tgt := 15) hx hb dL_answers_9 (by decide) ?_
  refine lv_iconst (v := 0) hx hb dL_answers_15 (by decide) ?_
  exact w_iret X hw (((congrArg gLvO (m_answers_str C n1)).symm).trans (gLvO_22 _ _ _ _).symm) (k := 0) rfl hr rfl hlk (Nat.le_of_ble_eq_true rfl) (Nat.le_of_ble_eq_true rfl) hK0 (by rw [h0]) (if_pos h0) dL_answers_16
theorem m_answerAt_ne2 (C : gCT) (n1 n2 : Int32) : (m_answerAt C n1 n2).1 ≠ 2 := ne_ite (ne_ite (by decide : (1 : Nat) ≠ 2) (by decide : (0 : Nat) ≠ 2)) ((m_runAt_ne C n1).1)
theorem m_answerAt_ne3 (C : gCT) (n1 n2 : Int32) : (m_answerAt C n1 n2).1 ≠ 3 := ne_ite (ne_ite (by decide : (1 : Nat) ≠ 3) (by decide : (0 : Nat) ≠ 3)) ((m_runAt_ne C n1).2)
set_option maxHeartbeats 4000000 in
set_option maxRecDepth 100000 in
theorem cw_answerAt : Cond.static yL_answerAt ∈ gwl ∧ Cond.codeWith yL_answerAt cL_answerAt 5 (some .int) [(0, 10, 13, 13)] ∈ gwl := ⟨gwl_of (by decide +kernel) rfl, gwl_of (by decide +kernel) rfl⟩
set_option maxHeartbeats 4000000 in
set_option maxRecDepth 100000 in
theorem c_w_answerAt (l : Launch) (hst : l.stackTraces = false) (G : gG) (C : gCT) (ad : gAd) (n1 n2 : Int32) (hI : gInv C) : gMwi l yL_answerAt cL_answerAt 5 (some .int) [(0, 10, 13, 13)] (gRm 8 127 2 12) G [.ref (ad 0 0), .int n1, .int n2, .ref (ad 22 0)] (gLvO C) ad (gF G C ad) (gYi G ad ((m_answerAt C n1 n2).1) (w_out C (m_answerAt C n1 n2))) := by
  refine w_met (own := RL) (by decide) rfl (Nat.le_of_ble_eq_true rfl) ?_
  intro p e s m below meth c ls X hw hr hlk ht hl
  have hx := X.1.1; have hb := X.1.2.1; have hml := X.1.2.2.1; have hown := X.1.2.2.2.1; have hts := X.1.2.2.2.2
  have hT := hI.top; have hRs := hI.runs; have hK0 : gAdK ad ad := ⟨rfl, rfl⟩
  have hl : lv_has ls 5 [(0, .ref (ad 0 0)), (1, .int n1), (2, .int n2), (3, .ref (ad 22 0))] := hl
  refine lv_aload_n hx hb dL_answerAt_0 rfl (lv_at hl 3 rfl) ?_
  refine lv_iconst (v := 0) hx hb dL_answerAt_1 (by decide) ?_
  refine lv_aload_n hx hb dL_answerAt_2 rfl (lv_at hl 0 rfl) ?_
  refine lv_iload_n hx hb dL_answerAt_3 rfl (lv_at hl 1 rfl) ?_
  refine lv_iload_n hx hb dL_answerAt_4 rfl (lv_at hl 2 rfl) ?_
  refine x_ri X hw (x_runV X (c_m_answerAt l hst G _ _ _ _ _ _ _ hT hRs _) cy_X5_answerAt ml_RL_83 ⟨(Nat.le_of_ble_eq_true rfl), (Nat.le_of_ble_eq_true rfl)⟩ gP.blind (g_recv X hw 0 0 hT.1 rfl rfl) (gP_call X hw _) rfl hl.1 rfl (Nat.le_of_ble_eq_true rfl) dL_answerAt_5 ⟨(Nat.le_of_ble_eq_true rfl), (Nat.le_of_ble_eq_true rfl)⟩) (fun E ce q H locs hE hw q1 q2 q3 => ?_) (fun H locs h0 hw => ?_)
  · rcases hE with ⟨hk, rfl⟩ | ⟨hk, rfl⟩ | ⟨hk, rfl⟩
    · refine w_catch X [] ⟨0, 10, 13, 13⟩ [] ht rfl (fun _ hz => nomatch hz) rfl (by decide) cl_RL_13 x_ca_1 q1 q2 q3 ?_
      refine lv_astore (lv' := [(4, .ref q), (0, .ref (ad 0 0)), (1, .int n1), (2, .int n2), (3, .ref (ad 22 0))]) hx hb dL_answerAt_13 hl (by decide) rfl (fun ls hl => ?_)
      refine lv_iconst (v := 1) hx hb dL_answerAt_15 (by decide) ?_
      exact w_iret X hw rfl (k := 1) rfl hr rfl hlk (Nat.le_of_ble_eq_true rfl) (Nat.le_of_ble_eq_true rfl) hK0 (by rw [hk]) (if_neg (by rw [hk]; decide)) dL_answerAt_16
    · exact absurd hk (m_answerAt_ne2 _ _ _)
    · exact absurd hk (m_answerAt_ne3 _ _ _)
  refine lv_i2l hx hb dL_answerAt_8 rfl ?_
  refine s_last X hw rfl dL_answerAt_9 (fun H locs hw => ?_)
  refine lv_goto (tgt := 17) hx hb dL_answerAt_10 (by decide) ?_
  refine lv_iconst (v := 0) hx hb dL_answerAt_17 (by decide) ?_
  exact w_iret X hw (((congrArg gLvO (m_answerAt_str C n1 n2)).symm).trans (gLvO_22 _ _ _ _).symm) (k := 0) rfl hr rfl hlk (Nat.le_of_ble_eq_true rfl) (Nat.le_of_ble_eq_true rfl) hK0 (by rw [h0]) (if_pos h0) dL_answerAt_18
theorem m_reward_ne2 (C : gCT) (n1 : Int32) : (m_reward C n1).1 ≠ 2 := ne_ite (by decide : (1 : Nat) ≠ 2) (by decide : (0 : Nat) ≠ 2)
theorem m_reward_ne3 (C : gCT) (n1 : Int32) : (m_reward C n1).1 ≠ 3 := ne_ite (by decide : (1 : Nat) ≠ 3) (by decide : (0 : Nat) ≠ 3)
set_option maxHeartbeats 4000000 in
set_option maxRecDepth 100000 in
theorem cw_reward : Cond.static yL_reward ∈ gwl ∧ Cond.codeWith yL_reward cL_reward 4 (some .int) [(0, 9, 12, 13)] ∈ gwl := ⟨gwl_of (by decide +kernel) rfl, gwl_of (by decide +kernel) rfl⟩
set_option maxHeartbeats 4000000 in
set_option maxRecDepth 100000 in
theorem c_w_reward (l : Launch) (hst : l.stackTraces = false) (G : gG) (C : gCT) (ad : gAd) (n1 : Int32) (hI : gInv C) : gMwi l yL_reward cL_reward 4 (some .int) [(0, 9, 12, 13)] (gRm 7 103 1 6) G [.ref (ad 0 0), .int n1, .ref (ad 22 0)] (gLvO C) ad (gF G C ad) (gYi G ad ((m_reward C n1).1) (w_out C (m_reward C n1))) := by
  refine w_met (own := RL) (by decide) rfl (Nat.le_of_ble_eq_true rfl) ?_
  intro p e s m below meth c ls X hw hr hlk ht hl
  have hx := X.1.1; have hb := X.1.2.1; have hml := X.1.2.2.1; have hown := X.1.2.2.2.1; have hts := X.1.2.2.2.2
  have hT := hI.top; have hRs := hI.runs; have hK0 : gAdK ad ad := ⟨rfl, rfl⟩
  have hl : lv_has ls 4 [(0, .ref (ad 0 0)), (1, .int n1), (2, .ref (ad 22 0))] := hl
  refine lv_aload_n hx hb dL_reward_0 rfl (lv_at hl 2 rfl) ?_
  refine lv_iconst (v := 0) hx hb dL_reward_1 (by decide) ?_
  refine lv_aload_n hx hb dL_reward_2 rfl (lv_at hl 0 rfl) ?_
  refine lv_iload_n hx hb dL_reward_3 rfl (lv_at hl 1 rfl) ?_
  refine x_ri X hw (x_runV X (c_m_reward l hst G _ _ _ _ hT _) cy_X5_reward ml_RL_86 ⟨(Nat.le_of_ble_eq_true rfl), (Nat.le_of_ble_eq_true rfl)⟩ gP.blind (g_recv X hw 0 0 hT.1 rfl rfl) (gP_call X hw _) rfl hl.1 rfl (Nat.le_of_ble_eq_true rfl) dL_reward_4 ⟨(Nat.le_of_ble_eq_true rfl), (Nat.le_of_ble_eq_true rfl)⟩) (fun E ce q H locs hE hw q1 q2 q3 => ?_) (fun H locs h0 hw => ?_)
  · rcases hE with ⟨hk, rfl⟩ | ⟨hk, rfl⟩ | ⟨hk, rfl⟩
    · refine w_catch X [] ⟨0, 9, 12, 13⟩ [] ht rfl (fun _ hz => nomatch hz) rfl (by decide) cl_RL_13 x_ca_1 q1 q2 q3 ?_
      refine lv_astore_n (lv' := [(3, .ref q), (0, .ref (ad 0 0)), (1, .int n1), (2, .ref (ad 22 0))]) hx hb dL_reward_12 rfl hl (by decide) rfl (fun ls hl => ?_)
      refine lv_iconst (v := 1) hx hb dL_reward_13 (by decide) ?_
      exact w_iret X hw rfl (k := 1) rfl hr rfl hlk (Nat.le_of_ble_eq_true rfl) (Nat.le_of_ble_eq_true rfl) hK0 (by rw [hk]) (if_neg (by rw [hk]; decide)) dL_reward_14
    · exact absurd hk (m_reward_ne2 _ _)
    · exact absurd hk (m_reward_ne3 _ _)
  refine lv_i2l hx hb dL_reward_7 rfl ?_
  refine s_last X hw rfl dL_reward_8 (fun H locs hw => ?_)
  refine lv_goto (tgt := 15) hx hb dL_reward_9 (by decide) ?_
  refine lv_iconst (v := 0) hx hb dL_reward_15 (by decide) ?_
  exact w_iret X hw (((congrArg gLvO (m_reward_str C n1)).symm).trans (gLvO_22 _ _ _ _).symm) (k := 0) rfl hr rfl hlk (Nat.le_of_ble_eq_true rfl) (Nat.le_of_ble_eq_true rfl) hK0 (by rw [h0]) (if_pos h0) dL_reward_16
theorem m_budget_ne2 (C : gCT) (n1 : Int32) : (m_budget C n1).1 ≠ 2 := ne_ite (by decide : (0 : Nat) ≠ 2) ((m_formAt_ne C n1).1)
theorem m_budget_ne3 (C : gCT) (n1 : Int32) : (m_budget C n1).1 ≠ 3 := ne_ite (by decide : (0 : Nat) ≠ 3) ((m_formAt_ne C n1).2)
set_option maxHeartbeats 4000000 in
set_option maxRecDepth 100000 in
theorem cw_budget : Cond.static yL_budget ∈ gwl ∧ Cond.codeWith yL_budget cL_budget 4 (some .int) [(0, 9, 12, 13)] ∈ gwl := ⟨gwl_of (by decide +kernel) rfl, gwl_of (by decide +kernel) rfl⟩
set_option maxHeartbeats 4000000 in
set_option maxRecDepth 100000 in
theorem c_w_budget (l : Launch) (hst : l.stackTraces = false) (G : gG) (C : gCT) (ad : gAd) (n1 : Int32) (hI : gInv C) : gMwi l yL_budget cL_budget 4 (some .int) [(0, 9, 12, 13)] (gRm 8 124 2 12) G [.ref (ad 0 0), .int n1, .ref (ad 22 0)] (gLvO C) ad (gF G C ad) (gYi G ad ((m_budget C n1).1) (w_out C (m_budget C n1))) := by
  refine w_met (own := RL) (by decide) rfl (Nat.le_of_ble_eq_true rfl) ?_
  intro p e s m below meth c ls X hw hr hlk ht hl
  have hx := X.1.1; have hb := X.1.2.1; have hml := X.1.2.2.1; have hown := X.1.2.2.2.1; have hts := X.1.2.2.2.2
  have hT := hI.top; have hRs := hI.runs; have hK0 : gAdK ad ad := ⟨rfl, rfl⟩
  have hl : lv_has ls 4 [(0, .ref (ad 0 0)), (1, .int n1), (2, .ref (ad 22 0))] := hl
  refine lv_aload_n hx hb dL_budget_0 rfl (lv_at hl 2 rfl) ?_
  refine lv_iconst (v := 0) hx hb dL_budget_1 (by decide) ?_
  refine lv_aload_n hx hb dL_budget_2 rfl (lv_at hl 0 rfl) ?_
  refine lv_iload_n hx hb dL_budget_3 rfl (lv_at hl 1 rfl) ?_
  refine x_ri X hw (x_runV X (c_m_budget l hst G _ _ _ _ hT _) cy_X5_budget ml_RL_89 ⟨(Nat.le_of_ble_eq_true rfl), (Nat.le_of_ble_eq_true rfl)⟩ gP.blind (g_recv X hw 0 0 hT.1 rfl rfl) (gP_call X hw _) rfl hl.1 rfl (Nat.le_of_ble_eq_true rfl) dL_budget_4 ⟨(Nat.le_of_ble_eq_true rfl), (Nat.le_of_ble_eq_true rfl)⟩) (fun E ce q H locs hE hw q1 q2 q3 => ?_) (fun H locs h0 hw => ?_)
  · rcases hE with ⟨hk, rfl⟩ | ⟨hk, rfl⟩ | ⟨hk, rfl⟩
    · refine w_catch X [] ⟨0, 9, 12, 13⟩ [] ht rfl (fun _ hz => nomatch hz) rfl (by decide) cl_RL_13 x_ca_1 q1 q2 q3 ?_
      refine lv_astore_n (lv' := [(3, .ref q), (0, .ref (ad 0 0)), (1, .int n1), (2, .ref (ad 22 0))]) hx hb dL_budget_12 rfl hl (by decide) rfl (fun ls hl => ?_)
      refine lv_iconst (v := 1) hx hb dL_budget_13 (by decide) ?_
      exact w_iret X hw rfl (k := 1) rfl hr rfl hlk (Nat.le_of_ble_eq_true rfl) (Nat.le_of_ble_eq_true rfl) hK0 (by rw [hk]) (if_neg (by rw [hk]; decide)) dL_budget_14
    · exact absurd hk (m_budget_ne2 _ _)
    · exact absurd hk (m_budget_ne3 _ _)
  refine lv_i2l hx hb dL_budget_7 rfl ?_
  refine s_last X hw rfl dL_budget_8 (fun H locs hw => ?_)
  refine lv_goto (tgt := 15) hx hb dL_budget_9 (by decide) ?_
  refine lv_iconst (v := 0) hx hb dL_budget_15 (by decide) ?_
  exact w_iret X hw (((congrArg gLvO (m_budget_str C n1)).symm).trans (gLvO_22 _ _ _ _).symm) (k := 0) rfl hr rfl hlk (Nat.le_of_ble_eq_true rfl) (Nat.le_of_ble_eq_true rfl) hK0 (by rw [h0]) (if_pos h0) dL_budget_16
theorem m_done_ne2 (C : gCT) (n1 n2 : Int32) : (m_done C n1 n2).1 ≠ 2 := ne_ite (ne_ite (by decide : (1 : Nat) ≠ 2) (by decide : (0 : Nat) ≠ 2)) ((m_formAt_ne C n1).1)
theorem m_done_ne3 (C : gCT) (n1 n2 : Int32) : (m_done C n1 n2).1 ≠ 3 := ne_ite (ne_ite (by decide : (1 : Nat) ≠ 3) (by decide : (0 : Nat) ≠ 3)) ((m_formAt_ne C n1).2)
set_option maxHeartbeats 4000000 in
set_option maxRecDepth 100000 in
theorem cw_done : Cond.static yL_done ∈ gwl ∧ Cond.codeWith yL_done cL_done 5 (some .int) [(0, 10, 13, 13)] ∈ gwl := ⟨gwl_of (by decide +kernel) rfl, gwl_of (by decide +kernel) rfl⟩
set_option maxHeartbeats 4000000 in
set_option maxRecDepth 100000 in
theorem c_w_done (l : Launch) (hst : l.stackTraces = false) (G : gG) (C : gCT) (ad : gAd) (n1 n2 : Int32) (hI : gInv C) : gMwi l yL_done cL_done 5 (some .int) [(0, 10, 13, 13)] (gRm 8 126 2 12) G [.ref (ad 0 0), .int n1, .int n2, .ref (ad 22 0)] (gLvO C) ad (gF G C ad) (gYi G ad ((m_done C n1 n2).1) (w_out C (m_done C n1 n2))) := by
  refine w_met (own := RL) (by decide) rfl (Nat.le_of_ble_eq_true rfl) ?_
  intro p e s m below meth c ls X hw hr hlk ht hl
  have hx := X.1.1; have hb := X.1.2.1; have hml := X.1.2.2.1; have hown := X.1.2.2.2.1; have hts := X.1.2.2.2.2
  have hT := hI.top; have hRs := hI.runs; have hK0 : gAdK ad ad := ⟨rfl, rfl⟩
  have hl : lv_has ls 5 [(0, .ref (ad 0 0)), (1, .int n1), (2, .int n2), (3, .ref (ad 22 0))] := hl
  refine lv_aload_n hx hb dL_done_0 rfl (lv_at hl 3 rfl) ?_
  refine lv_iconst (v := 0) hx hb dL_done_1 (by decide) ?_
  refine lv_aload_n hx hb dL_done_2 rfl (lv_at hl 0 rfl) ?_
  refine lv_iload_n hx hb dL_done_3 rfl (lv_at hl 1 rfl) ?_
  refine lv_iload_n hx hb dL_done_4 rfl (lv_at hl 2 rfl) ?_
  refine x_ri X hw (x_runV X (c_m_done l hst G _ _ _ _ _ hT _) cy_X5_done ml_RL_92 ⟨(Nat.le_of_ble_eq_true rfl), (Nat.le_of_ble_eq_true rfl)⟩ gP.blind (g_recv X hw 0 0 hT.1 rfl rfl) (gP_call X hw _) rfl hl.1 rfl (Nat.le_of_ble_eq_true rfl) dL_done_5 ⟨(Nat.le_of_ble_eq_true rfl), (Nat.le_of_ble_eq_true rfl)⟩) (fun E ce q H locs hE hw q1 q2 q3 => ?_) (fun H locs h0 hw => ?_)
  · rcases hE with ⟨hk, rfl⟩ | ⟨hk, rfl⟩ | ⟨hk, rfl⟩
    · refine w_catch X [] ⟨0, 10, 13, 13⟩ [] ht rfl (fun _ hz => nomatch hz) rfl (by decide) cl_RL_13 x_ca_1 q1 q2 q3 ?_
      refine lv_astore (lv' := [(4, .ref q), (0, .ref (ad 0 0)), (1, .int n1), (2, .int n2), (3, .ref (ad 22 0))]) hx hb dL_done_13 hl (by decide) rfl (fun ls hl => ?_)
      refine lv_iconst (v := 1) hx hb dL_done_15 (by decide) ?_
      exact w_iret X hw rfl (k := 1) rfl hr rfl hlk (Nat.le_of_ble_eq_true rfl) (Nat.le_of_ble_eq_true rfl) hK0 (by rw [hk]) (if_neg (by rw [hk]; decide)) dL_done_16
    · exact absurd hk (m_done_ne2 _ _ _)
    · exact absurd hk (m_done_ne3 _ _ _)
  refine lv_i2l hx hb dL_done_8 rfl ?_
  refine s_last X hw rfl dL_done_9 (fun H locs hw => ?_)
  refine lv_goto (tgt := 17) hx hb dL_done_10 (by decide) ?_
  refine lv_iconst (v := 0) hx hb dL_done_17 (by decide) ?_
  exact w_iret X hw (((congrArg gLvO (m_done_str C n1 n2)).symm).trans (gLvO_22 _ _ _ _).symm) (k := 0) rfl hr rfl hlk (Nat.le_of_ble_eq_true rfl) (Nat.le_of_ble_eq_true rfl) hK0 (by rw [h0]) (if_pos h0) dL_done_18

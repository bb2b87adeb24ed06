theorem m_version_ne2 (C : gCT) (n1 : Int32) : (m_version C n1).1 ≠ 2 := ne_ite (by decide : (0 : Nat) ≠ 2) ((m_runAt_ne C n1).1)
theorem m_version_ne3 (C : gCT) (n1 : Int32) : (m_version C n1).1 ≠ 3 := ne_ite (by decide : (0 : Nat) ≠ 3) ((m_runAt_ne C n1).2)
set_option maxHeartbeats 4000000 in
set_option maxRecDepth 100000 in
theorem cw_version : Cond.static yL_version ∈ gwl ∧ Cond.codeWith yL_version cL_version 3 (some .int) [(0, 5, 6, 15)] ∈ gwl := ⟨gwl_of (by decide +kernel) rfl, gwl_of (by decide +kernel) rfl⟩
set_option maxHeartbeats 4000000 in
set_option maxRecDepth 100000 in
theorem c_w_version (l : Launch) (hst : l.stackTraces = false) (G : gG) (C : gCT) (ad : gAd) (n1 : Int32) (hI : gInv C) : gMwi l yL_version cL_version 3 (some .int) [(0, 5, 6, 15)] (gRm 8 124 2 12) G [.ref (ad 0 0), .int n1] (gLvO C) ad (gF G C ad) (gYi G ad (wv (m_version C n1)) (wd C (m_version C n1))) := by
  refine w_met (own := RL) (by decide) rfl (Nat.le_of_ble_eq_true rfl) ?_
  intro p e s m below meth c ls X hw hr hlk ht hl
  have hx := X.1.1; have hb := X.1.2.1; have hml := X.1.2.2.1; have hown := X.1.2.2.2.1; have hts := X.1.2.2.2.2
  have hT := hI.top; have hRs := hI.runs; have hK0 : gAdK ad ad := ⟨rfl, fun _ _ => rfl⟩
  have hl : lv_has ls 3 [(0, .ref (ad 0 0)), (1, .int n1)] := hl
  refine lv_aload_n hx hb dL_version_0 rfl (lv_at hl 0 rfl) ?_
  refine lv_iload_n hx hb dL_version_1 rfl (lv_at hl 1 rfl) ?_
  refine x_ri X hw (x_runV X (c_m_version l hst G _ _ _ _ _ _ hT hRs _) cy_X5_version ml_RL_64 ⟨(Nat.le_of_ble_eq_true rfl), (Nat.le_of_ble_eq_true rfl)⟩ gP.blind (g_recv X hw 0 0 hT.1 rfl rfl) (gP_call X hw _) rfl hl.1 rfl (Nat.le_of_ble_eq_true rfl) dL_version_2 ⟨(Nat.le_of_ble_eq_true rfl), (Nat.le_of_ble_eq_true rfl)⟩) (fun E ce q H locs hE hw q1 q2 q3 => ?_) (fun H locs h0 hw => ?_)
  · rcases hE with ⟨hk, rfl⟩ | ⟨hk, rfl⟩ | ⟨hk, rfl⟩
    · refine w_catch X [] ⟨0, 5, 6, 15⟩ [] ht rfl (fun _ hz => nomatch hz) rfl (by decide) cl_RL_15 x_ca_1 q1 q2 q3 ?_
      refine lv_astore_n (lv' := [(2, .ref q), (0, .ref (ad 0 0)), (1, .int n1)]) hx hb dL_version_6 rfl hl (by decide) rfl (fun ls hl => ?_)
      refine lv_bipush (v := (-101)) hx hb dL_version_7 (by decide) ?_
      exact w_iret X hw rfl hr rfl hlk (Nat.le_of_ble_eq_true rfl) (Nat.le_of_ble_eq_true rfl) hK0 (by rw [wv, hk]; rfl) (wd_n (by rw [hk]; decide)) dL_version_9
    · exact absurd hk (m_version_ne2 _ _)
    · exact absurd hk (m_version_ne3 _ _)
  exact w_iret X hw ((congrArg gLvO (m_version_str C n1)).symm) hr rfl hlk (Nat.le_of_ble_eq_true rfl) (Nat.le_of_ble_eq_true rfl) hK0 (wv_0 h0) (wd_0 h0) dL_version_5
theorem m_fuel_ne2 (C : gCT) (n1 : Int32) : (m_fuel C n1).1 ≠ 2 := ne_ite (by decide : (0 : Nat) ≠ 2) ((m_runAt_ne C n1).1)
theorem m_fuel_ne3 (C : gCT) (n1 : Int32) : (m_fuel C n1).1 ≠ 3 := ne_ite (by decide : (0 : Nat) ≠ 3) ((m_runAt_ne C n1).2)
set_option maxHeartbeats 4000000 in
set_option maxRecDepth 100000 in
theorem cw_fuel : Cond.static yL_fuel ∈ gwl ∧ Cond.codeWith yL_fuel cL_fuel 3 (some .int) [(0, 5, 6, 15)] ∈ gwl := ⟨gwl_of (by decide +kernel) rfl, gwl_of (by decide +kernel) rfl⟩
set_option maxHeartbeats 4000000 in
set_option maxRecDepth 100000 in
theorem c_w_fuel (l : Launch) (hst : l.stackTraces = false) (G : gG) (C : gCT) (ad : gAd) (n1 : Int32) (hI : gInv C) : gMwi l yL_fuel cL_fuel 3 (some .int) [(0, 5, 6, 15)] (gRm 8 124 2 12) G [.ref (ad 0 0), .int n1] (gLvO C) ad (gF G C ad) (gYi G ad (wv (m_fuel C n1)) (wd C (m_fuel C n1))) := by
  refine w_met (own := RL) (by decide) rfl (Nat.le_of_ble_eq_true rfl) ?_
  intro p e s m below meth c ls X hw hr hlk ht hl
  have hx := X.1.1; have hb := X.1.2.1; have hml := X.1.2.2.1; have hown := X.1.2.2.2.1; have hts := X.1.2.2.2.2
  have hT := hI.top; have hRs := hI.runs; have hK0 : gAdK ad ad := ⟨rfl, fun _ _ => rfl⟩
  have hl : lv_has ls 3 [(0, .ref (ad 0 0)), (1, .int n1)] := hl
  refine lv_aload_n hx hb dL_fuel_0 rfl (lv_at hl 0 rfl) ?_
  refine lv_iload_n hx hb dL_fuel_1 rfl (lv_at hl 1 rfl) ?_
  refine x_ri X hw (x_runV X (c_m_fuel l hst G _ _ _ _ _ _ hT hRs _) cy_X5_fuel ml_RL_67 ⟨(Nat.le_of_ble_eq_true rfl), (Nat.le_of_ble_eq_true rfl)⟩ gP.blind (g_recv X hw 0 0 hT.1 rfl rfl) (gP_call X hw _) rfl hl.1 rfl (Nat.le_of_ble_eq_true rfl) dL_fuel_2 ⟨(Nat.le_of_ble_eq_true rfl), (Nat.le_of_ble_eq_true rfl)⟩) (fun E ce q H locs hE hw q1 q2 q3 => ?_) (fun H locs h0 hw => ?_)
  · rcases hE with ⟨hk, rfl⟩ | ⟨hk, rfl⟩ | ⟨hk, rfl⟩
    · refine w_catch X [] ⟨0, 5, 6, 15⟩ [] ht rfl (fun _ hz => nomatch hz) rfl (by decide) cl_RL_15 x_ca_1 q1 q2 q3 ?_
      refine lv_astore_n (lv' := [(2, .ref q), (0, .ref (ad 0 0)), (1, .int n1)]) hx hb dL_fuel_6 rfl hl (by decide) rfl (fun ls hl => ?_)
      refine lv_bipush (v := (-101)) hx hb dL_fuel_7 (by decide) ?_
      exact w_iret X hw rfl hr rfl hlk (Nat.le_of_ble_eq_true rfl) (Nat.le_of_ble_eq_true rfl) hK0 (by rw [wv, hk]; rfl) (wd_n (by rw [hk]; decide)) dL_fuel_9
    · exact absurd hk (m_fuel_ne2 _ _)
    · exact absurd hk (m_fuel_ne3 _ _)
  exact w_iret X hw ((congrArg gLvO (m_fuel_str C n1)).symm) hr rfl hlk (Nat.le_of_ble_eq_true rfl) (Nat.le_of_ble_eq_true rfl) hK0 (wv_0 h0) (wd_0 h0) dL_fuel_5
theorem m_fuelAgain_ne2 (C : gCT) (n1 : Int32) : (m_fuelAgain C n1).1 ≠ 2 := ne_ite (by decide : (0 : Nat) ≠ 2) ((m_runAt_ne C n1).1)
theorem m_fuelAgain_ne3 (C : gCT) (n1 : Int32) : (m_fuelAgain C n1).1 ≠ 3 := ne_ite (by decide : (0 : Nat) ≠ 3) ((m_runAt_ne C n1).2)
set_option maxHeartbeats 4000000 in
set_option maxRecDepth 100000 in
theorem cw_fuelAgain : Cond.static yL_again ∈ gwl ∧ Cond.codeWith yL_again cL_again 3 (some .int) [(0, 5, 6, 15)] ∈ gwl := ⟨gwl_of (by decide +kernel) rfl, gwl_of (by decide +kernel) rfl⟩
set_option maxHeartbeats 4000000 in
set_option maxRecDepth 100000 in
theorem c_w_fuelAgain (l : Launch) (hst : l.stackTraces = false) (G : gG) (C : gCT) (ad : gAd) (n1 : Int32) (hI : gInv C) : gMwi l yL_again cL_again 3 (some .int) [(0, 5, 6, 15)] (gRm 9 202 2 12) G [.ref (ad 0 0), .int n1] (gLvO C) ad (gF G C ad) (gYi G ad (wv (m_fuelAgain C n1)) (wd C (m_fuelAgain C n1))) := by
  refine w_met (own := RL) (by decide) rfl (Nat.le_of_ble_eq_true rfl) ?_
  intro p e s m below meth c ls X hw hr hlk ht hl
  have hx := X.1.1; have hb := X.1.2.1; have hml := X.1.2.2.1; have hown := X.1.2.2.2.1; have hts := X.1.2.2.2.2
  have hT := hI.top; have hRs := hI.runs; have hK0 : gAdK ad ad := ⟨rfl, fun _ _ => rfl⟩
  have hl : lv_has ls 3 [(0, .ref (ad 0 0)), (1, .int n1)] := hl
  refine lv_aload_n hx hb dL_again_0 rfl (lv_at hl 0 rfl) ?_
  refine lv_iload_n hx hb dL_again_1 rfl (lv_at hl 1 rfl) ?_
  refine x_ri X hw (x_runV X (c_m_fuelAgain l hst G _ _ _ _ _ _ hT hRs _) cy_X5_fuelAgain ml_RL_70 ⟨(Nat.le_of_ble_eq_true rfl), (Nat.le_of_ble_eq_true rfl)⟩ gP.blind (g_recv X hw 0 0 hT.1 rfl rfl) (gP_call X hw _) rfl hl.1 rfl (Nat.le_of_ble_eq_true rfl) dL_again_2 ⟨(Nat.le_of_ble_eq_true rfl), (Nat.le_of_ble_eq_true rfl)⟩) (fun E ce q H locs hE hw q1 q2 q3 => ?_) (fun H locs h0 hw => ?_)
  · rcases hE with ⟨hk, rfl⟩ | ⟨hk, rfl⟩ | ⟨hk, rfl⟩
    · refine w_catch X [] ⟨0, 5, 6, 15⟩ [] ht rfl (fun _ hz => nomatch hz) rfl (by decide) cl_RL_15 x_ca_1 q1 q2 q3 ?_
      refine lv_astore_n (lv' := [(2, .ref q), (0, .ref (ad 0 0)), (1, .int n1)]) hx hb dL_again_6 rfl hl (by decide) rfl (fun ls hl => ?_)
      refine lv_bipush (v := (-101)) hx hb dL_again_7 (by decide) ?_
      exact w_iret X hw rfl hr rfl hlk (Nat.le_of_ble_eq_true rfl) (Nat.le_of_ble_eq_true rfl) hK0 (by rw [wv, hk]; rfl) (wd_n (by rw [hk]; decide)) dL_again_9
    · exact absurd hk (m_fuelAgain_ne2 _ _)
    · exact absurd hk (m_fuelAgain_ne3 _ _)
  exact w_iret X hw ((m_fuelAgain_str C n1).lv.symm) hr rfl hlk (Nat.le_of_ble_eq_true rfl) (Nat.le_of_ble_eq_true rfl) hK0 (wv_0 h0) (wd_0 h0) dL_again_5
theorem m_slot_ne2 (C : gCT) (n1 n2 : Int32) : (m_slot C n1 n2).1 ≠ 2 := ne_ite (ne_ite (by decide : (1 : Nat) ≠ 2) (by decide : (0 : Nat) ≠ 2)) ((m_runAt_ne C n1).1)
theorem m_slot_ne3 (C : gCT) (n1 n2 : Int32) : (m_slot C n1 n2).1 ≠ 3 := ne_ite (ne_ite (by decide : (1 : Nat) ≠ 3) (by decide : (0 : Nat) ≠ 3)) ((m_runAt_ne C n1).2)
set_option maxHeartbeats 4000000 in
set_option maxRecDepth 100000 in
theorem cw_slot : Cond.static yL_slot ∈ gwl ∧ Cond.codeWith yL_slot cL_slot 4 (some .int) [(0, 6, 7, 15)] ∈ gwl := ⟨gwl_of (by decide +kernel) rfl, gwl_of (by decide +kernel) rfl⟩
set_option maxHeartbeats 4000000 in
set_option maxRecDepth 100000 in
theorem c_w_slot (l : Launch) (hst : l.stackTraces = false) (G : gG) (C : gCT) (ad : gAd) (n1 n2 : Int32) (hI : gInv C) : gMwi l yL_slot cL_slot 4 (some .int) [(0, 6, 7, 15)] (gRm 8 126 2 12) G [.ref (ad 0 0), .int n1, .int n2] (gLvO C) ad (gF G C ad) (gYi G ad (wvs (m_slot C n1 n2)) (wd C (m_slot C n1 n2))) := by
  refine w_met (own := RL) (by decide) rfl (Nat.le_of_ble_eq_true rfl) ?_
  intro p e s m below meth c ls X hw hr hlk ht hl
  have hx := X.1.1; have hb := X.1.2.1; have hml := X.1.2.2.1; have hown := X.1.2.2.2.1; have hts := X.1.2.2.2.2
  have hT := hI.top; have hRs := hI.runs; have hK0 : gAdK ad ad := ⟨rfl, fun _ _ => rfl⟩
  have hl : lv_has ls 4 [(0, .ref (ad 0 0)), (1, .int n1), (2, .int n2)] := hl
  refine lv_aload_n hx hb dL_slot_0 rfl (lv_at hl 0 rfl) ?_
  refine lv_iload_n hx hb dL_slot_1 rfl (lv_at hl 1 rfl) ?_
  refine lv_iload_n hx hb dL_slot_2 rfl (lv_at hl 2 rfl) ?_
  refine x_ri X hw (x_runV X (c_m_slot l hst G _ _ _ _ _ _ _ hT hRs _) cy_X5_slot ml_RL_73 ⟨(Nat.le_of_ble_eq_true rfl), (Nat.le_of_ble_eq_true rfl)⟩ gP.blind (g_recv X hw 0 0 hT.1 rfl rfl) (gP_call X hw _) rfl hl.1 rfl (Nat.le_of_ble_eq_true rfl) dL_slot_3 ⟨(Nat.le_of_ble_eq_true rfl), (Nat.le_of_ble_eq_true rfl)⟩) (fun E ce q H locs hE hw q1 q2 q3 => ?_) (fun H locs h0 hw => ?_)
  · rcases hE with ⟨hk, rfl⟩ | ⟨hk, rfl⟩ | ⟨hk, rfl⟩
    · refine w_catch X [] ⟨0, 6, 7, 15⟩ [] ht rfl (fun _ hz => nomatch hz) rfl (by decide) cl_RL_15 x_ca_1 q1 q2 q3 ?_
      refine lv_astore_n (lv' := [(3, .ref q), (0, .ref (ad 0 0)), (1, .int n1), (2, .int n2)]) hx hb dL_slot_7 rfl hl (by decide) rfl (fun ls hl => ?_)
      refine lv_ldc (v := -100001) hx hb hown (hts _ lc_RL_76) dL_slot_8 ?_
      exact w_iret X hw rfl hr rfl hlk (Nat.le_of_ble_eq_true rfl) (Nat.le_of_ble_eq_true rfl) hK0 (by rw [wvs, hk]; rfl) (wd_n (by rw [hk]; decide)) dL_slot_10
    · exact absurd hk (m_slot_ne2 _ _ _)
    · exact absurd hk (m_slot_ne3 _ _ _)
  exact w_iret X hw ((congrArg gLvO (m_slot_str C n1 n2)).symm) hr rfl hlk (Nat.le_of_ble_eq_true rfl) (Nat.le_of_ble_eq_true rfl) hK0 (wvs_0 h0) (wd_0 h0) dL_slot_6
theorem m_slotAgain_ne2 (C : gCT) (n1 n2 : Int32) : (m_slotAgain C n1 n2).1 ≠ 2 := ne_ite (ne_ite (by decide : (1 : Nat) ≠ 2) (by decide : (0 : Nat) ≠ 2)) ((m_runAt_ne C n1).1)
theorem m_slotAgain_ne3 (C : gCT) (n1 n2 : Int32) : (m_slotAgain C n1 n2).1 ≠ 3 := ne_ite (ne_ite (by decide : (1 : Nat) ≠ 3) (by decide : (0 : Nat) ≠ 3)) ((m_runAt_ne C n1).2)
set_option maxHeartbeats 4000000 in
set_option maxRecDepth 100000 in
theorem cw_slotAgain : Cond.static yL_slotAgain ∈ gwl ∧ Cond.codeWith yL_slotAgain cL_slotAgain 4 (some .int) [(0, 6, 7, 15)] ∈ gwl := ⟨gwl_of (by decide +kernel) rfl, gwl_of (by decide +kernel) rfl⟩
set_option maxHeartbeats 4000000 in
set_option maxRecDepth 100000 in
theorem c_w_slotAgain (l : Launch) (hst : l.stackTraces = false) (G : gG) (C : gCT) (ad : gAd) (n1 n2 : Int32) (hI : gInv C) : gMwi l yL_slotAgain cL_slotAgain 4 (some .int) [(0, 6, 7, 15)] (gRm 9 204 2 12) G [.ref (ad 0 0), .int n1, .int n2] (gLvO C) ad (gF G C ad) (gYi G ad (wvs (m_slotAgain C n1 n2)) (wd C (m_slotAgain C n1 n2))) := by
  refine w_met (own := RL) (by decide) rfl (Nat.le_of_ble_eq_true rfl) ?_
  intro p e s m below meth c ls X hw hr hlk ht hl
  have hx := X.1.1; have hb := X.1.2.1; have hml := X.1.2.2.1; have hown := X.1.2.2.2.1; have hts := X.1.2.2.2.2
  have hT := hI.top; have hRs := hI.runs; have hK0 : gAdK ad ad := ⟨rfl, fun _ _ => rfl⟩
  have hl : lv_has ls 4 [(0, .ref (ad 0 0)), (1, .int n1), (2, .int n2)] := hl
  refine lv_aload_n hx hb dL_slotAgain_0 rfl (lv_at hl 0 rfl) ?_
  refine lv_iload_n hx hb dL_slotAgain_1 rfl (lv_at hl 1 rfl) ?_
  refine lv_iload_n hx hb dL_slotAgain_2 rfl (lv_at hl 2 rfl) ?_
  refine x_ri X hw (x_runV X (c_m_slotAgain l hst G _ _ _ _ _ _ _ hT hRs _) cy_X5_slotAgain ml_RL_77 ⟨(Nat.le_of_ble_eq_true rfl), (Nat.le_of_ble_eq_true rfl)⟩ gP.blind (g_recv X hw 0 0 hT.1 rfl rfl) (gP_call X hw _) rfl hl.1 rfl (Nat.le_of_ble_eq_true rfl) dL_slotAgain_3 ⟨(Nat.le_of_ble_eq_true rfl), (Nat.le_of_ble_eq_true rfl)⟩) (fun E ce q H locs hE hw q1 q2 q3 => ?_) (fun H locs h0 hw => ?_)
  · rcases hE with ⟨hk, rfl⟩ | ⟨hk, rfl⟩ | ⟨hk, rfl⟩
    · refine w_catch X [] ⟨0, 6, 7, 15⟩ [] ht rfl (fun _ hz => nomatch hz) rfl (by decide) cl_RL_15 x_ca_1 q1 q2 q3 ?_
      refine lv_astore_n (lv' := [(3, .ref q), (0, .ref (ad 0 0)), (1, .int n1), (2, .int n2)]) hx hb dL_slotAgain_7 rfl hl (by decide) rfl (fun ls hl => ?_)
      refine lv_ldc (v := -100001) hx hb hown (hts _ lc_RL_76) dL_slotAgain_8 ?_
      exact w_iret X hw rfl hr rfl hlk (Nat.le_of_ble_eq_true rfl) (Nat.le_of_ble_eq_true rfl) hK0 (by rw [wvs, hk]; rfl) (wd_n (by rw [hk]; decide)) dL_slotAgain_10
    · exact absurd hk (m_slotAgain_ne2 _ _ _)
    · exact absurd hk (m_slotAgain_ne3 _ _ _)
  exact w_iret X hw ((m_slotAgain_str C n1 n2).lv.symm) hr rfl hlk (Nat.le_of_ble_eq_true rfl) (Nat.le_of_ble_eq_true rfl) hK0 (wvs_0 h0) (wd_0 h0) dL_slotAgain_6
theorem m_depth_ne2 (C : gCT) (n1 : Int32) : (m_depth C n1).1 ≠ 2 := ne_ite (by decide : (0 : Nat) ≠ 2) ((m_runAt_ne C n1).1)
theorem m_depth_ne3 (C : gCT) (n1 : Int32) : (m_depth C n1).1 ≠ 3 := ne_ite (by decide : (0 : Nat) ≠ 3) ((m_runAt_ne C n1).2)
set_option maxHeartbeats 4000000 in
set_option maxRecDepth 100000 in
theorem cw_depth : Cond.static yL_depth ∈ gwl ∧ Cond.codeWith yL_depth cL_depth 3 (some .int) [(0, 5, 6, 15)] ∈ gwl := ⟨gwl_of (by decide +kernel) rfl, gwl_of (by decide +kernel) rfl⟩
set_option maxHeartbeats 4000000 in
set_option maxRecDepth 100000 in
theorem c_w_depth (l : Launch) (hst : l.stackTraces = false) (G : gG) (C : gCT) (ad : gAd) (n1 : Int32) (hI : gInv C) : gMwi l yL_depth cL_depth 3 (some .int) [(0, 5, 6, 15)] (gRm 8 124 2 12) G [.ref (ad 0 0), .int n1] (gLvO C) ad (gF G C ad) (gYi G ad (wv (m_depth C n1)) (wd C (m_depth C n1))) := by
  refine w_met (own := RL) (by decide) rfl (Nat.le_of_ble_eq_true rfl) ?_
  intro p e s m below meth c ls X hw hr hlk ht hl
  have hx := X.1.1; have hb := X.1.2.1; have hml := X.1.2.2.1; have hown := X.1.2.2.2.1; have hts := X.1.2.2.2.2
  have hT := hI.top; have hRs := hI.runs; have hK0 : gAdK ad ad := ⟨rfl, fun _ _ => rfl⟩
  have hl : lv_has ls 3 [(0, .ref (ad 0 0)), (1, .int n1)] := hl
  refine lv_aload_n hx hb dL_depth_0 rfl (lv_at hl 0 rfl) ?_
  refine lv_iload_n hx hb dL_depth_1 rfl (lv_at hl 1 rfl) ?_
  refine x_ri X hw (x_runV X (c_m_depth l hst G _ _ _ _ _ _ hT hRs _) cy_X5_depth ml_RL_80 ⟨(Nat.le_of_ble_eq_true rfl), (Nat.le_of_ble_eq_true rfl)⟩ gP.blind (g_recv X hw 0 0 hT.1 rfl rfl) (gP_call X hw _) rfl hl.1 rfl (Nat.le_of_ble_eq_true rfl) dL_depth_2 ⟨(Nat.le_of_ble_eq_true rfl), (Nat.le_of_ble_eq_true rfl)⟩) (fun E ce q H locs hE hw q1 q2 q3 => ?_) (fun H locs h0 hw => ?_)
  · rcases hE with ⟨hk, rfl⟩ | ⟨hk, rfl⟩ | ⟨hk, rfl⟩
    · refine w_catch X [] ⟨0, 5, 6, 15⟩ [] ht rfl (fun _ hz => nomatch hz) rfl (by decide) cl_RL_15 x_ca_1 q1 q2 q3 ?_
      refine lv_astore_n (lv' := [(2, .ref q), (0, .ref (ad 0 0)), (1, .int n1)]) hx hb dL_depth_6 rfl hl (by decide) rfl (fun ls hl => ?_)
      refine lv_bipush (v := (-101)) hx hb dL_depth_7 (by decide) ?_
      exact w_iret X hw rfl hr rfl hlk (Nat.le_of_ble_eq_true rfl) (Nat.le_of_ble_eq_true rfl) hK0 (by rw [wv, hk]; rfl) (wd_n (by rw [hk]; decide)) dL_depth_9
    · exact absurd hk (m_depth_ne2 _ _)
    · exact absurd hk (m_depth_ne3 _ _)
  exact w_iret X hw ((congrArg gLvO (m_depth_str C n1)).symm) hr rfl hlk (Nat.le_of_ble_eq_true rfl) (Nat.le_of_ble_eq_true rfl) hK0 (wv_0 h0) (wd_0 h0) dL_depth_5
theorem m_answers_ne2 (C : gCT) (n1 : Int32) : (m_answers C n1).1 ≠ 2 := ne_ite (by decide : (0 : Nat) ≠ 2) ((m_runAt_ne C n1).1)
theorem m_answers_ne3 (C : gCT) (n1 : Int32) : (m_answers C n1).1 ≠ 3 := ne_ite (by decide : (0 : Nat) ≠ 3) ((m_runAt_ne C n1).2)
set_option maxHeartbeats 4000000 in
set_option maxRecDepth 100000 in
theorem cw_answers : Cond.static yL_answers ∈ gwl ∧ Cond.codeWith yL_answers cL_answers 3 (some .int) [(0, 5, 6, 15)] ∈ gwl := ⟨gwl_of (by decide +kernel) rfl, gwl_of (by decide +kernel) rfl⟩
set_option maxHeartbeats 4000000 in
set_option maxRecDepth 100000 in
theorem c_w_answers (l : Launch) (hst : l.stackTraces = false) (G : gG) (C : gCT) (ad : gAd) (n1 : Int32) (hI : gInv C) : gMwi l yL_answers cL_answers 3 (some .int) [(0, 5, 6, 15)] (gRm 8 124 2 12) G [.ref (ad 0 0), .int n1] (gLvO C) ad (gF G C ad) (gYi G ad (wv (m_answers C n1)) (wd C (m_answers C n1))) := by
  refine w_met (own := RL) (by decide) rfl (Nat.le_of_ble_eq_true rfl) ?_
  intro p e s m below meth c ls X hw hr hlk ht hl
  have hx := X.1.1; have hb := X.1.2.1; have hml := X.1.2.2.1; have hown := X.1.2.2.2.1; have hts := X.1.2.2.2.2
  have hT := hI.top; have hRs := hI.runs; have hK0 : gAdK ad ad := ⟨rfl, fun _ _ => rfl⟩
  have hl : lv_has ls 3 [(0, .ref (ad 0 0)), (1, .int n1)] := hl
  refine lv_aload_n hx hb dL_answers_0 rfl (lv_at hl 0 rfl) ?_
  refine lv_iload_n hx hb dL_answers_1 rfl (lv_at hl 1 rfl) ?_
  refine x_ri X hw (x_runV X (c_m_answers l hst G _ _ _ _ _ _ hT hRs _) cy_X5_answers ml_RL_83 ⟨(Nat.le_of_ble_eq_true rfl), (Nat.le_of_ble_eq_true rfl)⟩ gP.blind (g_recv X hw 0 0 hT.1 rfl rfl) (gP_call X hw _) rfl hl.1 rfl (Nat.le_of_ble_eq_true rfl) dL_answers_2 ⟨(Nat.le_of_ble_eq_true rfl), (Nat.le_of_ble_eq_true rfl)⟩) (fun E ce q H locs hE hw q1 q2 q3 => ?_) (fun H locs h0 hw => ?_)
  · rcases hE with ⟨hk, rfl⟩ | ⟨hk, rfl⟩ | ⟨hk, rfl⟩
    · refine w_catch X [] ⟨0, 5, 6, 15⟩ [] ht rfl (fun _ hz => nomatch hz) rfl (by decide) cl_RL_15 x_ca_1 q1 q2 q3 ?_
      refine lv_astore_n (lv' := [(2, .ref q), (0, .ref (ad 0 0)), (1, .int n1)]) hx hb dL_answers_6 rfl hl (by decide) rfl (fun ls hl => ?_)
      refine lv_bipush (v := (-101)) hx hb dL_answers_7 (by decide) ?_
      exact w_iret X hw rfl hr rfl hlk (Nat.le_of_ble_eq_true rfl) (Nat.le_of_ble_eq_true rfl) hK0 (by rw [wv, hk]; rfl) (wd_n (by rw [hk]; decide)) dL_answers_9
    · exact absurd hk (m_answers_ne2 _ _)
    · exact absurd hk (m_answers_ne3 _ _)
  exact w_iret X hw ((congrArg gLvO (m_answers_str C n1)).symm) hr rfl hlk (Nat.le_of_ble_eq_true rfl) (Nat.le_of_ble_eq_true rfl) hK0 (wv_0 h0) (wd_0 h0) dL_answers_5
theorem m_answerAt_ne2 (C : gCT) (n1 n2 : Int32) : (m_answerAt C n1 n2).1 ≠ 2 := ne_ite (ne_ite (by decide : (1 : Nat) ≠ 2) (by decide : (0 : Nat) ≠ 2)) ((m_runAt_ne C n1).1)
theorem m_answerAt_ne3 (C : gCT) (n1 n2 : Int32) : (m_answerAt C n1 n2).1 ≠ 3 := ne_ite (ne_ite (by decide : (1 : Nat) ≠ 3) (by decide : (0 : Nat) ≠ 3)) ((m_runAt_ne C n1).2)
set_option maxHeartbeats 4000000 in
set_option maxRecDepth 100000 in
theorem cw_answerAt : Cond.static yL_answerAt ∈ gwl ∧ Cond.codeWith yL_answerAt cL_answerAt 4 (some .int) [(0, 6, 7, 15)] ∈ gwl := ⟨gwl_of (by decide +kernel) rfl, gwl_of (by decide +kernel) rfl⟩
set_option maxHeartbeats 4000000 in
set_option maxRecDepth 100000 in
theorem c_w_answerAt (l : Launch) (hst : l.stackTraces = false) (G : gG) (C : gCT) (ad : gAd) (n1 n2 : Int32) (hI : gInv C) : gMwi l yL_answerAt cL_answerAt 4 (some .int) [(0, 6, 7, 15)] (gRm 8 127 2 12) G [.ref (ad 0 0), .int n1, .int n2] (gLvO C) ad (gF G C ad) (gYi G ad (wv (m_answerAt C n1 n2)) (wd C (m_answerAt C n1 n2))) := by
  refine w_met (own := RL) (by decide) rfl (Nat.le_of_ble_eq_true rfl) ?_
  intro p e s m below meth c ls X hw hr hlk ht hl
  have hx := X.1.1; have hb := X.1.2.1; have hml := X.1.2.2.1; have hown := X.1.2.2.2.1; have hts := X.1.2.2.2.2
  have hT := hI.top; have hRs := hI.runs; have hK0 : gAdK ad ad := ⟨rfl, fun _ _ => rfl⟩
  have hl : lv_has ls 4 [(0, .ref (ad 0 0)), (1, .int n1), (2, .int n2)] := hl
  refine lv_aload_n hx hb dL_answerAt_0 rfl (lv_at hl 0 rfl) ?_
  refine lv_iload_n hx hb dL_answerAt_1 rfl (lv_at hl 1 rfl) ?_
  refine lv_iload_n hx hb dL_answerAt_2 rfl (lv_at hl 2 rfl) ?_
  refine x_ri X hw (x_runV X (c_m_answerAt l hst G _ _ _ _ _ _ _ hT hRs _) cy_X5_answerAt ml_RL_86 ⟨(Nat.le_of_ble_eq_true rfl), (Nat.le_of_ble_eq_true rfl)⟩ gP.blind (g_recv X hw 0 0 hT.1 rfl rfl) (gP_call X hw _) rfl hl.1 rfl (Nat.le_of_ble_eq_true rfl) dL_answerAt_3 ⟨(Nat.le_of_ble_eq_true rfl), (Nat.le_of_ble_eq_true rfl)⟩) (fun E ce q H locs hE hw q1 q2 q3 => ?_) (fun H locs h0 hw => ?_)
  · rcases hE with ⟨hk, rfl⟩ | ⟨hk, rfl⟩ | ⟨hk, rfl⟩
    · refine w_catch X [] ⟨0, 6, 7, 15⟩ [] ht rfl (fun _ hz => nomatch hz) rfl (by decide) cl_RL_15 x_ca_1 q1 q2 q3 ?_
      refine lv_astore_n (lv' := [(3, .ref q), (0, .ref (ad 0 0)), (1, .int n1), (2, .int n2)]) hx hb dL_answerAt_7 rfl hl (by decide) rfl (fun ls hl => ?_)
      refine lv_bipush (v := (-101)) hx hb dL_answerAt_8 (by decide) ?_
      exact w_iret X hw rfl hr rfl hlk (Nat.le_of_ble_eq_true rfl) (Nat.le_of_ble_eq_true rfl) hK0 (by rw [wv, hk]; rfl) (wd_n (by rw [hk]; decide)) dL_answerAt_10
    · exact absurd hk (m_answerAt_ne2 _ _ _)
    · exact absurd hk (m_answerAt_ne3 _ _ _)
  exact w_iret X hw ((congrArg gLvO (m_answerAt_str C n1 n2)).symm) hr rfl hlk (Nat.le_of_ble_eq_true rfl) (Nat.le_of_ble_eq_true rfl) hK0 (wv_0 h0) (wd_0 h0) dL_answerAt_6
theorem m_reward_ne2 (C : gCT) (n1 : Int32) : (m_reward C n1).1 ≠ 2 := ne_ite (by decide : (1 : Nat) ≠ 2) (by decide : (0 : Nat) ≠ 2)
theorem m_reward_ne3 (C : gCT) (n1 : Int32) : (m_reward C n1).1 ≠ 3 := ne_ite (by decide : (1 : Nat) ≠ 3) (by decide : (0 : Nat) ≠ 3)
set_option maxHeartbeats 4000000 in
set_option maxRecDepth 100000 in
theorem cw_reward : Cond.static yL_reward ∈ gwl ∧ Cond.codeWith yL_reward cL_reward 3 (some .int) [(0, 5, 6, 15)] ∈ gwl := ⟨gwl_of (by decide +kernel) rfl, gwl_of (by decide +kernel) rfl⟩
set_option maxHeartbeats 4000000 in
set_option maxRecDepth 100000 in
theorem c_w_reward (l : Launch) (hst : l.stackTraces = false) (G : gG) (C : gCT) (ad : gAd) (n1 : Int32) (hI : gInv C) : gMwi l yL_reward cL_reward 3 (some .int) [(0, 5, 6, 15)] (gRm 7 103 1 6) G [.ref (ad 0 0), .int n1] (gLvO C) ad (gF G C ad) (gYi G ad (wv (m_reward C n1)) (wd C (m_reward C n1))) := by
  refine w_met (own := RL) (by decide) rfl (Nat.le_of_ble_eq_true rfl) ?_
  intro p e s m below meth c ls X hw hr hlk ht hl
  have hx := X.1.1; have hb := X.1.2.1; have hml := X.1.2.2.1; have hown := X.1.2.2.2.1; have hts := X.1.2.2.2.2
  have hT := hI.top; have hRs := hI.runs; have hK0 : gAdK ad ad := ⟨rfl, fun _ _ => rfl⟩
  have hl : lv_has ls 3 [(0, .ref (ad 0 0)), (1, .int n1)] := hl
  refine lv_aload_n hx hb dL_reward_0 rfl (lv_at hl 0 rfl) ?_
  refine lv_iload_n hx hb dL_reward_1 rfl (lv_at hl 1 rfl) ?_
  refine x_ri X hw (x_runV X (c_m_reward l hst G _ _ _ _ hT _) cy_X5_reward ml_RL_89 ⟨(Nat.le_of_ble_eq_true rfl), (Nat.le_of_ble_eq_true rfl)⟩ gP.blind (g_recv X hw 0 0 hT.1 rfl rfl) (gP_call X hw _) rfl hl.1 rfl (Nat.le_of_ble_eq_true rfl) dL_reward_2 ⟨(Nat.le_of_ble_eq_true rfl), (Nat.le_of_ble_eq_true rfl)⟩) (fun E ce q H locs hE hw q1 q2 q3 => ?_) (fun H locs h0 hw => ?_)
  · rcases hE with ⟨hk, rfl⟩ | ⟨hk, rfl⟩ | ⟨hk, rfl⟩
    · refine w_catch X [] ⟨0, 5, 6, 15⟩ [] ht rfl (fun _ hz => nomatch hz) rfl (by decide) cl_RL_15 x_ca_1 q1 q2 q3 ?_
      refine lv_astore_n (lv' := [(2, .ref q), (0, .ref (ad 0 0)), (1, .int n1)]) hx hb dL_reward_6 rfl hl (by decide) rfl (fun ls hl => ?_)
      refine lv_bipush (v := (-101)) hx hb dL_reward_7 (by decide) ?_
      exact w_iret X hw rfl hr rfl hlk (Nat.le_of_ble_eq_true rfl) (Nat.le_of_ble_eq_true rfl) hK0 (by rw [wv, hk]; rfl) (wd_n (by rw [hk]; decide)) dL_reward_9
    · exact absurd hk (m_reward_ne2 _ _)
    · exact absurd hk (m_reward_ne3 _ _)
  exact w_iret X hw ((congrArg gLvO (m_reward_str C n1)).symm) hr rfl hlk (Nat.le_of_ble_eq_true rfl) (Nat.le_of_ble_eq_true rfl) hK0 (wv_0 h0) (wd_0 h0) dL_reward_5
theorem m_budget_ne2 (C : gCT) (n1 : Int32) : (m_budget C n1).1 ≠ 2 := ne_ite (by decide : (0 : Nat) ≠ 2) ((m_formAt_ne C n1).1)
theorem m_budget_ne3 (C : gCT) (n1 : Int32) : (m_budget C n1).1 ≠ 3 := ne_ite (by decide : (0 : Nat) ≠ 3) ((m_formAt_ne C n1).2)
set_option maxHeartbeats 4000000 in
set_option maxRecDepth 100000 in
theorem cw_budget : Cond.static yL_budget ∈ gwl ∧ Cond.codeWith yL_budget cL_budget 3 (some .int) [(0, 5, 6, 15)] ∈ gwl := ⟨gwl_of (by decide +kernel) rfl, gwl_of (by decide +kernel) rfl⟩
set_option maxHeartbeats 4000000 in
set_option maxRecDepth 100000 in
theorem c_w_budget (l : Launch) (hst : l.stackTraces = false) (G : gG) (C : gCT) (ad : gAd) (n1 : Int32) (hI : gInv C) : gMwi l yL_budget cL_budget 3 (some .int) [(0, 5, 6, 15)] (gRm 8 124 2 12) G [.ref (ad 0 0), .int n1] (gLvO C) ad (gF G C ad) (gYi G ad (wv (m_budget C n1)) (wd C (m_budget C n1))) := by
  refine w_met (own := RL) (by decide) rfl (Nat.le_of_ble_eq_true rfl) ?_
  intro p e s m below meth c ls X hw hr hlk ht hl
  have hx := X.1.1; have hb := X.1.2.1; have hml := X.1.2.2.1; have hown := X.1.2.2.2.1; have hts := X.1.2.2.2.2
  have hT := hI.top; have hRs := hI.runs; have hK0 : gAdK ad ad := ⟨rfl, fun _ _ => rfl⟩
  have hl : lv_has ls 3 [(0, .ref (ad 0 0)), (1, .int n1)] := hl
  refine lv_aload_n hx hb dL_budget_0 rfl (lv_at hl 0 rfl) ?_
  refine lv_iload_n hx hb dL_budget_1 rfl (lv_at hl 1 rfl) ?_
  refine x_ri X hw (x_runV X (c_m_budget l hst G _ _ _ _ hT _) cy_X5_budget ml_RL_92 ⟨(Nat.le_of_ble_eq_true rfl), (Nat.le_of_ble_eq_true rfl)⟩ gP.blind (g_recv X hw 0 0 hT.1 rfl rfl) (gP_call X hw _) rfl hl.1 rfl (Nat.le_of_ble_eq_true rfl) dL_budget_2 ⟨(Nat.le_of_ble_eq_true rfl), (Nat.le_of_ble_eq_true rfl)⟩) (fun E ce q H locs hE hw q1 q2 q3 => ?_) (fun H locs h0 hw => ?_)
  · rcases hE with ⟨hk, rfl⟩ | ⟨hk, rfl⟩ | ⟨hk, rfl⟩
    · refine w_catch X [] ⟨0, 5, 6, 15⟩ [] ht rfl (fun _ hz => nomatch hz) rfl (by decide) cl_RL_15 x_ca_1 q1 q2 q3 ?_
      refine lv_astore_n (lv' := [(2, .ref q), (0, .ref (ad 0 0)), (1, .int n1)]) hx hb dL_budget_6 rfl hl (by decide) rfl (fun ls hl => ?_)
      refine lv_bipush (v := (-101)) hx hb dL_budget_7 (by decide) ?_
      exact w_iret X hw rfl hr rfl hlk (Nat.le_of_ble_eq_true rfl) (Nat.le_of_ble_eq_true rfl) hK0 (by rw [wv, hk]; rfl) (wd_n (by rw [hk]; decide)) dL_budget_9
    · exact absurd hk (m_budget_ne2 _ _)
    · exact absurd hk (m_budget_ne3 _ _)
  exact w_iret X hw ((congrArg gLvO (m_budget_str C n1)).symm) hr rfl hlk (Nat.le_of_ble_eq_true rfl) (Nat.le_of_ble_eq_true rfl) hK0 (wv_0 h0) (wd_0 h0) dL_budget_5
theorem m_done_ne2 (C : gCT) (n1 n2 : Int32) : (m_done C n1 n2).1 ≠ 2 := ne_ite (ne_ite (by decide : (1 : Nat) ≠ 2) (by decide : (0 : Nat) ≠ 2)) ((m_formAt_ne C n1).1)
theorem m_done_ne3 (C : gCT) (n1 n2 : Int32) : (m_done C n1 n2).1 ≠ 3 := ne_ite (ne_ite (by decide : (1 : Nat) ≠ 3) (by decide : (0 : Nat) ≠ 3)) ((m_formAt_ne C n1).2)
set_option maxHeartbeats 4000000 in
set_option maxRecDepth 100000 in
theorem cw_done : Cond.static yL_done ∈ gwl ∧ Cond.codeWith yL_done cL_done 4 (some .int) [(0, 6, 7, 15)] ∈ gwl := ⟨gwl_of (by decide +kernel) rfl, gwl_of (by decide +kernel) rfl⟩
set_option maxHeartbeats 4000000 in
set_option maxRecDepth 100000 in
theorem c_w_done (l : Launch) (hst : l.stackTraces = false) (G : gG) (C : gCT) (ad : gAd) (n1 n2 : Int32) (hI : gInv C) : gMwi l yL_done cL_done 4 (some .int) [(0, 6, 7, 15)] (gRm 8 126 2 12) G [.ref (ad 0 0), .int n1, .int n2] (gLvO C) ad (gF G C ad) (gYi G ad (wv (m_done C n1 n2)) (wd C (m_done C n1 n2))) := by
  refine w_met (own := RL) (by decide) rfl (Nat.le_of_ble_eq_true rfl) ?_
  intro p e s m below meth c ls X hw hr hlk ht hl
  have hx := X.1.1; have hb := X.1.2.1; have hml := X.1.2.2.1; have hown := X.1.2.2.2.1; have hts := X.1.2.2.2.2
  have hT := hI.top; have hRs := hI.runs; have hK0 : gAdK ad ad := ⟨rfl, fun _ _ => rfl⟩
  have hl : lv_has ls 4 [(0, .ref (ad 0 0)), (1, .int n1), (2, .int n2)] := hl
  refine lv_aload_n hx hb dL_done_0 rfl (lv_at hl 0 rfl) ?_
  refine lv_iload_n hx hb dL_done_1 rfl (lv_at hl 1 rfl) ?_
  refine lv_iload_n hx hb dL_done_2 rfl (lv_at hl 2 rfl) ?_
  refine x_ri X hw (x_runV X (c_m_done l hst G _ _ _ _ _ hT _) cy_X5_done ml_RL_95 ⟨(Nat.le_of_ble_eq_true rfl), (Nat.le_of_ble_eq_true rfl)⟩ gP.blind (g_recv X hw 0 0 hT.1 rfl rfl) (gP_call X hw _) rfl hl.1 rfl (Nat.le_of_ble_eq_true rfl) dL_done_3 ⟨(Nat.le_of_ble_eq_true rfl), (Nat.le_of_ble_eq_true rfl)⟩) (fun E ce q H locs hE hw q1 q2 q3 => ?_) (fun H locs h0 hw => ?_)
  · rcases hE with ⟨hk, rfl⟩ | ⟨hk, rfl⟩ | ⟨hk, rfl⟩
    · refine w_catch X [] ⟨0, 6, 7, 15⟩ [] ht rfl (fun _ hz => nomatch hz) rfl (by decide) cl_RL_15 x_ca_1 q1 q2 q3 ?_
      refine lv_astore_n (lv' := [(3, .ref q), (0, .ref (ad 0 0)), (1, .int n1), (2, .int n2)]) hx hb dL_done_7 rfl hl (by decide) rfl (fun ls hl => ?_)
      refine lv_bipush (v := (-101)) hx hb dL_done_8 (by decide) ?_
      exact w_iret X hw rfl hr rfl hlk (Nat.le_of_ble_eq_true rfl) (Nat.le_of_ble_eq_true rfl) hK0 (by rw [wv, hk]; rfl) (wd_n (by rw [hk]; decide)) dL_done_10
    · exact absurd hk (m_done_ne2 _ _ _)
    · exact absurd hk (m_done_ne3 _ _ _)
  exact w_iret X hw ((congrArg gLvO (m_done_str C n1 n2)).symm) hr rfl hlk (Nat.le_of_ble_eq_true rfl) (Nat.le_of_ble_eq_true rfl) hK0 (wv_0 h0) (wd_0 h0) dL_done_6

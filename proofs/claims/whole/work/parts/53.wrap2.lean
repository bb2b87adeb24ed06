theorem m_fund_ne3 (C : gCT) (n1 n2 : Int32) : (m_fund C n1 n2).1 ≠ 3 := ne_ite (ne_ite (by decide : (2 : Nat) ≠ 3) (by decide : (0 : Nat) ≠ 3)) ((m_formAt_ne C n1).2)
set_option maxHeartbeats 4000000 in
set_option maxRecDepth 100000 in
theorem cw_fund : Cond.static yL_fund ∈ gwl ∧ Cond.codeWith yL_fund cL_fund 5 (some .int) [(0, 10, 13, 13), (0, 10, 17, 15)] ∈ gwl := ⟨gwl_of (by decide +kernel) rfl, gwl_of (by decide +kernel) rfl⟩
set_option maxHeartbeats 4000000 in
set_option maxRecDepth 100000 in
theorem c_w_fund (l : Launch) (hst : l.stackTraces = false) (G : gG) (C : gCT) (ad : gAd) (n1 n2 : Int32) (hI : gInv C) : gMwi l yL_fund cL_fund 5 (some .int) [(0, 10, 13, 13), (0, 10, 17, 15)] (gRm 8 126 2 12) G [.ref (ad 0 0), .int n1, .int n2, .ref (ad 22 0)] (gLvO C) ad (gF G C ad) (gYi G ad ((m_fund C n1 n2).1) (w_out C (m_fund C n1 n2))) := by
  refine w_met (own := RL) (by decide) rfl (Nat.le_of_ble_eq_true rfl) ?_
  intro p e s m below meth c ls X hw hr hlk ht hl
  have hx := X.1.1; have hb := X.1.2.1; have hml := X.1.2.2.1; have hown := X.1.2.2.2.1; have hts := X.1.2.2.2.2
  have hT := hI.top; have hRs := hI.runs; have hK0 : gAdK ad ad := ⟨rfl, rfl⟩
  have hl : lv_has ls 5 [(0, .ref (ad 0 0)), (1, .int n1), (2, .int n2), (3, .ref (ad 22 0))] := hl
  refine lv_aload_n hx hb dL_fund_0 rfl (lv_at hl 3 rfl) ?_
  refine lv_iconst (v := 0) hx hb dL_fund_1 (by decide) ?_
  refine lv_aload_n hx hb dL_fund_2 rfl (lv_at hl 0 rfl) ?_
  refine lv_iload_n hx hb dL_fund_3 rfl (lv_at hl 1 rfl) ?_
  refine lv_iload_n hx hb dL_fund_4 rfl (lv_at hl 2 rfl) ?_
  refine x_ri X hw (x_runV X (c_m_fund l hst G _ _ _ _ _ hT _) cy_X5_fund ml_RL_27 ⟨(Nat.le_of_ble_eq_true rfl), (Nat.le_of_ble_eq_true rfl)⟩ gP.blind (g_recv X hw 0 0 hT.1 rfl rfl) (gP_call X hw _) rfl hl.1 rfl (Nat.le_of_ble_eq_true rfl) dL_fund_5 ⟨(Nat.le_of_ble_eq_true rfl), (Nat.le_of_ble_eq_true rfl)⟩) (fun E ce q H locs hE hw q1 q2 q3 => ?_) (fun H locs h0 hw => ?_)
  · rcases hE with ⟨hk, rfl⟩ | ⟨hk, rfl⟩ | ⟨hk, rfl⟩
    · refine w_catch X [] ⟨0, 10, 13, 13⟩ [⟨0, 10, 17, 15⟩] ht rfl (fun _ hz => nomatch hz) rfl (by decide) cl_RL_13 x_ca_1 q1 q2 q3 ?_
      refine lv_astore (lv' := [(4, .ref q), (0, .ref (ad 0 0)), (1, .int n1), (2, .int n2), (3, .ref (ad 22 0))]) hx hb dL_fund_13 hl (by decide) rfl (fun ls hl => ?_)
      refine lv_iconst (v := 1) hx hb dL_fund_15 (by decide) ?_
      exact w_iret X hw rfl (k := 1) rfl hr rfl hlk (Nat.le_of_ble_eq_true rfl) (Nat.le_of_ble_eq_true rfl) hK0 (by rw [hk]) (if_neg (by rw [hk]; decide)) dL_fund_16
    · refine w_catch X [⟨0, 10, 13, 13⟩] ⟨0, 10, 17, 15⟩ [] ht rfl (fun z hz => by rcases List.mem_cons.mp hz with rfl | hz; exact ⟨by decide, _, cl_RL_13, x_no_21⟩; exact nomatch hz) rfl (by decide) cl_RL_15 x_ca_2 q1 q2 q3 ?_
      refine lv_astore (lv' := [(4, .ref q), (0, .ref (ad 0 0)), (1, .int n1), (2, .int n2), (3, .ref (ad 22 0))]) hx hb dL_fund_17 hl (by decide) rfl (fun ls hl => ?_)
      refine lv_iconst (v := 2) hx hb dL_fund_19 (by decide) ?_
      exact w_iret X hw rfl (k := 2) rfl hr rfl hlk (Nat.le_of_ble_eq_true rfl) (Nat.le_of_ble_eq_true rfl) hK0 (by rw [hk]) (if_neg (by rw [hk]; decide)) dL_fund_20
    · exact absurd hk (m_fund_ne3 _ _ _)
  refine lv_i2l hx hb dL_fund_8 rfl ?_
  refine s_last X hw rfl dL_fund_9 (fun H locs hw => ?_)
  refine lv_goto (tgt := 21) hx hb dL_fund_10 (by decide) ?_
  refine lv_iconst (v := 0) hx hb dL_fund_21 (by decide) ?_
  exact w_iret X hw (((m_fund_str C n1 n2).lv.symm).trans (gLvO_22 _ _ _ _).symm) (k := 0) rfl hr rfl hlk (Nat.le_of_ble_eq_true rfl) (Nat.le_of_ble_eq_true rfl) hK0 (by rw [h0]) (if_pos h0) dL_fund_22
theorem m_setQuota_ne3 (C : gCT) (n1 n2 n3 : Int32) : (m_setQuota C n1 n2 n3).1 ≠ 3 := ne_ite (ne_ite (by decide : (1 : Nat) ≠ 3) (ne_ite (by decide : (2 : Nat) ≠ 3) (by decide : (0 : Nat) ≠ 3))) ((m_formAt_ne C n1).2)
set_option maxHeartbeats 4000000 in
set_option maxRecDepth 100000 in
theorem cw_setQuota : Cond.static yL_setQuota ∈ gwl ∧ Cond.codeWith yL_setQuota cL_setQuota 6 (some .int) [(0, 12, 15, 13), (0, 12, 19, 15)] ∈ gwl := ⟨gwl_of (by decide +kernel) rfl, gwl_of (by decide +kernel) rfl⟩
set_option maxHeartbeats 4000000 in
set_option maxRecDepth 100000 in
theorem c_w_setQuota (l : Launch) (hst : l.stackTraces = false) (G : gG) (C : gCT) (ad : gAd) (n1 n2 n3 : Int32) (hI : gInv C) : gMwi l yL_setQuota cL_setQuota 6 (some .int) [(0, 12, 15, 13), (0, 12, 19, 15)] (gRm 8 128 2 12) G [.ref (ad 0 0), .int n1, .int n2, .int n3, .ref (ad 22 0)] (gLvO C) ad (gF G C ad) (gYi G ad ((m_setQuota C n1 n2 n3).1) (w_out C (m_setQuota C n1 n2 n3))) := by
  refine w_met (own := RL) (by decide) rfl (Nat.le_of_ble_eq_true rfl) ?_
  intro p e s m below meth c ls X hw hr hlk ht hl
  have hx := X.1.1; have hb := X.1.2.1; have hml := X.1.2.2.1; have hown := X.1.2.2.2.1; have hts := X.1.2.2.2.2
  have hT := hI.top; have hRs := hI.runs; have hK0 : gAdK ad ad := ⟨rfl, rfl⟩
  have hl : lv_has ls 6 [(0, .ref (ad 0 0)), (1, .int n1), (2, .int n2), (3, .int n3), (4, .ref (ad 22 0))] := hl
  refine lv_aload hx hb dL_setQuota_0 (lv_at hl 4 rfl) ?_
  refine lv_iconst (v := 0) hx hb dL_setQuota_2 (by decide) ?_
  refine lv_aload_n hx hb dL_setQuota_3 rfl (lv_at hl 0 rfl) ?_
  refine lv_iload_n hx hb dL_setQuota_4 rfl (lv_at hl 1 rfl) ?_
  refine lv_iload_n hx hb dL_setQuota_5 rfl (lv_at hl 2 rfl) ?_
  refine lv_iload_n hx hb dL_setQuota_6 rfl (lv_at hl 3 rfl) ?_
  refine x_ri X hw (x_runV X (c_m_setQuota l hst G _ _ _ _ _ _ hT _) cy_X5_setQuota ml_RL_30 ⟨(Nat.le_of_ble_eq_true rfl), (Nat.le_of_ble_eq_true rfl)⟩ gP.blind (g_recv X hw 0 0 hT.1 rfl rfl) (gP_call X hw _) rfl hl.1 rfl (Nat.le_of_ble_eq_true rfl) dL_setQuota_7 ⟨(Nat.le_of_ble_eq_true rfl), (Nat.le_of_ble_eq_true rfl)⟩) (fun E ce q H locs hE hw q1 q2 q3 => ?_) (fun H locs h0 hw => ?_)
  · rcases hE with ⟨hk, rfl⟩ | ⟨hk, rfl⟩ | ⟨hk, rfl⟩
    · refine w_catch X [] ⟨0, 12, 15, 13⟩ [⟨0, 12, 19, 15⟩] ht rfl (fun _ hz => nomatch hz) rfl (by decide) cl_RL_13 x_ca_1 q1 q2 q3 ?_
      refine lv_astore (lv' := [(5, .ref q), (0, .ref (ad 0 0)), (1, .int n1), (2, .int n2), (3, .int n3), (4, .ref (ad 22 0))]) hx hb dL_setQuota_15 hl (by decide) rfl (fun ls hl => ?_)
      refine lv_iconst (v := 1) hx hb dL_setQuota_17 (by decide) ?_
      exact w_iret X hw rfl (k := 1) rfl hr rfl hlk (Nat.le_of_ble_eq_true rfl) (Nat.le_of_ble_eq_true rfl) hK0 (by rw [hk]) (if_neg (by rw [hk]; decide)) dL_setQuota_18
    · refine w_catch X [⟨0, 12, 15, 13⟩] ⟨0, 12, 19, 15⟩ [] ht rfl (fun z hz => by rcases List.mem_cons.mp hz with rfl | hz; exact ⟨by decide, _, cl_RL_13, x_no_21⟩; exact nomatch hz) rfl (by decide) cl_RL_15 x_ca_2 q1 q2 q3 ?_
      refine lv_astore (lv' := [(5, .ref q), (0, .ref (ad 0 0)), (1, .int n1), (2, .int n2), (3, .int n3), (4, .ref (ad 22 0))]) hx hb dL_setQuota_19 hl (by decide) rfl (fun ls hl => ?_)
      refine lv_iconst (v := 2) hx hb dL_setQuota_21 (by decide) ?_
      exact w_iret X hw rfl (k := 2) rfl hr rfl hlk (Nat.le_of_ble_eq_true rfl) (Nat.le_of_ble_eq_true rfl) hK0 (by rw [hk]) (if_neg (by rw [hk]; decide)) dL_setQuota_22
    · exact absurd hk (m_setQuota_ne3 _ _ _ _)
  refine lv_i2l hx hb dL_setQuota_10 rfl ?_
  refine s_last X hw rfl dL_setQuota_11 (fun H locs hw => ?_)
  refine lv_goto (tgt := 23) hx hb dL_setQuota_12 (by decide) ?_
  refine lv_iconst (v := 0) hx hb dL_setQuota_23 (by decide) ?_
  exact w_iret X hw (((m_setQuota_str C n1 n2 n3).lv.symm).trans (gLvO_22 _ _ _ _).symm) (k := 0) rfl hr rfl hlk (Nat.le_of_ble_eq_true rfl) (Nat.le_of_ble_eq_true rfl) hK0 (by rw [h0]) (if_pos h0) dL_setQuota_24
theorem m_setPrice_ne3 (C : gCT) (n1 n2 : Int32) : (m_setPrice C n1 n2).1 ≠ 3 := ne_ite (by decide : (1 : Nat) ≠ 3) (ne_ite (by decide : (2 : Nat) ≠ 3) (by decide : (0 : Nat) ≠ 3))
set_option maxHeartbeats 4000000 in
set_option maxRecDepth 100000 in
theorem cw_setPrice : Cond.static yL_setPrice ∈ gwl ∧ Cond.codeWith yL_setPrice cL_setPrice 5 (some .int) [(0, 10, 13, 13), (0, 10, 17, 15)] ∈ gwl := ⟨gwl_of (by decide +kernel) rfl, gwl_of (by decide +kernel) rfl⟩
set_option maxHeartbeats 4000000 in
set_option maxRecDepth 100000 in
theorem c_w_setPrice (l : Launch) (hst : l.stackTraces = false) (G : gG) (C : gCT) (ad : gAd) (n1 n2 : Int32) (hI : gInv C) : gMwi l yL_setPrice cL_setPrice 5 (some .int) [(0, 10, 13, 13), (0, 10, 17, 15)] (gRm 7 105 1 6) G [.ref (ad 0 0), .int n1, .int n2, .ref (ad 22 0)] (gLvO C) ad (gF G C ad) (gYi G ad ((m_setPrice C n1 n2).1) (w_out C (m_setPrice C n1 n2))) := by
  refine w_met (own := RL) (by decide) rfl (Nat.le_of_ble_eq_true rfl) ?_
  intro p e s m below meth c ls X hw hr hlk ht hl
  have hx := X.1.1; have hb := X.1.2.1; have hml := X.1.2.2.1; have hown := X.1.2.2.2.1; have hts := X.1.2.2.2.2
  have hT := hI.top; have hRs := hI.runs; have hK0 : gAdK ad ad := ⟨rfl, rfl⟩
  have hl : lv_has ls 5 [(0, .ref (ad 0 0)), (1, .int n1), (2, .int n2), (3, .ref (ad 22 0))] := hl
  refine lv_aload_n hx hb dL_setPrice_0 rfl (lv_at hl 3 rfl) ?_
  refine lv_iconst (v := 0) hx hb dL_setPrice_1 (by decide) ?_
  refine lv_aload_n hx hb dL_setPrice_2 rfl (lv_at hl 0 rfl) ?_
  refine lv_iload_n hx hb dL_setPrice_3 rfl (lv_at hl 1 rfl) ?_
  refine lv_iload_n hx hb dL_setPrice_4 rfl (lv_at hl 2 rfl) ?_
  refine x_ri X hw (x_runV X (c_m_setPrice l hst G _ _ _ _ _ hT _) cy_X5_setPrice ml_RL_33 ⟨(Nat.le_of_ble_eq_true rfl), (Nat.le_of_ble_eq_true rfl)⟩ gP.blind (g_recv X hw 0 0 hT.1 rfl rfl) (gP_call X hw _) rfl hl.1 rfl (Nat.le_of_ble_eq_true rfl) dL_setPrice_5 ⟨(Nat.le_of_ble_eq_true rfl), (Nat.le_of_ble_eq_true rfl)⟩) (fun E ce q H locs hE hw q1 q2 q3 => ?_) (fun H locs h0 hw => ?_)
  · rcases hE with ⟨hk, rfl⟩ | ⟨hk, rfl⟩ | ⟨hk, rfl⟩
    · refine w_catch X [] ⟨0, 10, 13, 13⟩ [⟨0, 10, 17, 15⟩] ht rfl (fun _ hz => nomatch hz) rfl (by decide) cl_RL_13 x_ca_1 q1 q2 q3 ?_
      refine lv_astore (lv' := [(4, .ref q), (0, .ref (ad 0 0)), (1, .int n1), (2, .int n2), (3, .ref (ad 22 0))]) hx hb dL_setPrice_13 hl (by decide) rfl (fun ls hl => ?_)
      refine lv_iconst (v := 1) hx hb dL_setPrice_15 (by decide) ?_
      exact w_iret X hw rfl (k := 1) rfl hr rfl hlk (Nat.le_of_ble_eq_true rfl) (Nat.le_of_ble_eq_true rfl) hK0 (by rw [hk]) (if_neg (by rw [hk]; decide)) dL_setPrice_16
    · refine w_catch X [⟨0, 10, 13, 13⟩] ⟨0, 10, 17, 15⟩ [] ht rfl (fun z hz => by rcases List.mem_cons.mp hz with rfl | hz; exact ⟨by decide, _, cl_RL_13, x_no_21⟩; exact nomatch hz) rfl (by decide) cl_RL_15 x_ca_2 q1 q2 q3 ?_
      refine lv_astore (lv' := [(4, .ref q), (0, .ref (ad 0 0)), (1, .int n1), (2, .int n2), (3, .ref (ad 22 0))]) hx hb dL_setPrice_17 hl (by decide) rfl (fun ls hl => ?_)
      refine lv_iconst (v := 2) hx hb dL_setPrice_19 (by decide) ?_
      exact w_iret X hw rfl (k := 2) rfl hr rfl hlk (Nat.le_of_ble_eq_true rfl) (Nat.le_of_ble_eq_true rfl) hK0 (by rw [hk]) (if_neg (by rw [hk]; decide)) dL_setPrice_20
    · exact absurd hk (m_setPrice_ne3 _ _ _)
  refine lv_i2l hx hb dL_setPrice_8 rfl ?_
  refine s_last X hw rfl dL_setPrice_9 (fun H locs hw => ?_)
  refine lv_goto (tgt := 21) hx hb dL_setPrice_10 (by decide) ?_
  refine lv_iconst (v := 0) hx hb dL_setPrice_21 (by decide) ?_
  exact w_iret X hw (((m_setPrice_str C n1 n2).lv.symm).trans (gLvO_22 _ _ _ _).symm) (k := 0) rfl hr rfl hlk (Nat.le_of_ble_eq_true rfl) (Nat.le_of_ble_eq_true rfl) hK0 (by rw [h0]) (if_pos h0) dL_setPrice_22
theorem m_reword_ne2 (C : gCT) (n1 : Int32) : (m_reword C n1).1 ≠ 2 := ne_ite (by decide : (1 : Nat) ≠ 2) (by decide : (0 : Nat) ≠ 2)
theorem m_reword_ne3 (C : gCT) (n1 : Int32) : (m_reword C n1).1 ≠ 3 := ne_ite (by decide : (1 : Nat) ≠ 3) (by decide : (0 : Nat) ≠ 3)
set_option maxHeartbeats 4000000 in
set_option maxRecDepth 100000 in
theorem cw_reword : Cond.static yL_reword ∈ gwl ∧ Cond.codeWith yL_reword cL_reword 4 (some .int) [(0, 9, 12, 13)] ∈ gwl := ⟨gwl_of (by decide +kernel) rfl, gwl_of (by decide +kernel) rfl⟩
set_option maxHeartbeats 4000000 in
set_option maxRecDepth 100000 in
theorem c_w_reword (l : Launch) (hst : l.stackTraces = false) (G : gG) (C : gCT) (ad : gAd) (n1 : Int32) (hI : gInv C) : gMwi l yL_reword cL_reword 4 (some .int) [(0, 9, 12, 13)] (gRm 7 103 1 6) G [.ref (ad 0 0), .int n1, .ref (ad 22 0)] (gLvO C) ad (gF G C ad) (gYi G ad ((m_reword C n1).1) (w_out C (m_reword C n1))) := by
  refine w_met (own := RL) (by decide) rfl (Nat.le_of_ble_eq_true rfl) ?_
  intro p e s m below meth c ls X hw hr hlk ht hl
  have hx := X.1.1; have hb := X.1.2.1; have hml := X.1.2.2.1; have hown := X.1.2.2.2.1; have hts := X.1.2.2.2.2
  have hT := hI.top; have hRs := hI.runs; have hK0 : gAdK ad ad := ⟨rfl, rfl⟩
  have hl : lv_has ls 4 [(0, .ref (ad 0 0)), (1, .int n1), (2, .ref (ad 22 0))] := hl
  refine lv_aload_n hx hb dL_reword_0 rfl (lv_at hl 2 rfl) ?_
  refine lv_iconst (v := 0) hx hb dL_reword_1 (by decide) ?_
  refine lv_aload_n hx hb dL_reword_2 rfl (lv_at hl 0 rfl) ?_
  refine lv_iload_n hx hb dL_reword_3 rfl (lv_at hl 1 rfl) ?_
  refine x_ri X hw (x_runV X (c_m_reword l hst G _ _ _ _ hT _) cy_X5_reword ml_RL_36 ⟨(Nat.le_of_ble_eq_true rfl), (Nat.le_of_ble_eq_true rfl)⟩ gP.blind (g_recv X hw 0 0 hT.1 rfl rfl) (gP_call X hw _) rfl hl.1 rfl (Nat.le_of_ble_eq_true rfl) dL_reword_4 ⟨(Nat.le_of_ble_eq_true rfl), (Nat.le_of_ble_eq_true rfl)⟩) (fun E ce q H locs hE hw q1 q2 q3 => ?_) (fun H locs h0 hw => ?_)
  · rcases hE with ⟨hk, rfl⟩ | ⟨hk, rfl⟩ | ⟨hk, rfl⟩
    · refine w_catch X [] ⟨0, 9, 12, 13⟩ [] ht rfl (fun _ hz => nomatch hz) rfl (by decide) cl_RL_13 x_ca_1 q1 q2 q3 ?_
      refine lv_astore_n (lv' := [(3, .ref q), (0, .ref (ad 0 0)), (1, .int n1), (2, .ref (ad 22 0))]) hx hb dL_reword_12 rfl hl (by decide) rfl (fun ls hl => ?_)
      refine lv_iconst (v := 1) hx hb dL_reword_13 (by decide) ?_
      exact w_iret X hw rfl (k := 1) rfl hr rfl hlk (Nat.le_of_ble_eq_true rfl) (Nat.le_of_ble_eq_true rfl) hK0 (by rw [hk]) (if_neg (by rw [hk]; decide)) dL_reword_14
    · exact absurd hk (m_reword_ne2 _ _)
    · exact absurd hk (m_reword_ne3 _ _)
  refine lv_i2l hx hb dL_reword_7 rfl ?_
  refine s_last X hw rfl dL_reword_8 (fun H locs hw => ?_)
  refine lv_goto (tgt := 15) hx hb dL_reword_9 (by decide) ?_
  refine lv_iconst (v := 0) hx hb dL_reword_15 (by decide) ?_
  exact w_iret X hw (((m_reword_str C n1).lv.symm).trans (gLvO_22 _ _ _ _).symm) (k := 0) rfl hr rfl hlk (Nat.le_of_ble_eq_true rfl) (Nat.le_of_ble_eq_true rfl) hK0 (by rw [h0]) (if_pos h0) dL_reword_16
theorem m_begin_ne2 (C : gCT) (n1 n2 : Int32) : (m_begin C n1 n2).1 ≠ 2 := ne_ite (by decide : (1 : Nat) ≠ 2) (ne_ite (ne_ite (by decide : (3 : Nat) ≠ 2) (ne_ite (ne_ite (by decide : (0 : Nat) ≠ 2) (by decide : (3 : Nat) ≠ 2)) (by decide : (3 : Nat) ≠ 2))) ((m_formAt_ne C n2).1))
set_option maxHeartbeats 4000000 in
set_option maxRecDepth 100000 in
theorem cw_begin : Cond.static yL_begin ∈ gwl ∧ Cond.codeWith yL_begin cL_begin 5 (some .int) [(0, 10, 13, 13), (0, 10, 17, 17)] ∈ gwl := ⟨gwl_of (by decide +kernel) rfl, gwl_of (by decide +kernel) rfl⟩
set_option maxHeartbeats 4000000 in
set_option maxRecDepth 100000 in
theorem c_w_begin (l : Launch) (hst : l.stackTraces = false) (G : gG) (C : gCT) (ad : gAd) (n1 n2 : Int32) (hI : gInv C) : gMwi l yL_begin cL_begin 5 (some .int) [(0, 10, 13, 13), (0, 10, 17, 17)] (gRm 11 304 12 2220) G [.ref (ad 0 0), .int n1, .int n2, .ref (ad 22 0)] (gLvO C) ad (gF G C ad) (gYi G ad (w_two (m_begin C n1 n2).1) (w_out C (m_begin C n1 n2))) := by
  refine w_met (own := RL) (by decide) rfl (Nat.le_of_ble_eq_true rfl) ?_
  intro p e s m below meth c ls X hw hr hlk ht hl
  have hx := X.1.1; have hb := X.1.2.1; have hml := X.1.2.2.1; have hown := X.1.2.2.2.1; have hts := X.1.2.2.2.2
  have hT := hI.top; have hRs := hI.runs; have hK0 : gAdK ad ad := ⟨rfl, rfl⟩
  have hl : lv_has ls 5 [(0, .ref (ad 0 0)), (1, .int n1), (2, .int n2), (3, .ref (ad 22 0))] := hl
  refine lv_aload_n hx hb dL_begin_0 rfl (lv_at hl 3 rfl) ?_
  refine lv_iconst (v := 0) hx hb dL_begin_1 (by decide) ?_
  refine lv_aload_n hx hb dL_begin_2 rfl (lv_at hl 0 rfl) ?_
  refine lv_iload_n hx hb dL_begin_3 rfl (lv_at hl 1 rfl) ?_
  refine lv_iload_n hx hb dL_begin_4 rfl (lv_at hl 2 rfl) ?_
  refine x_zi X hw (x_runV X (c_m_begin l hst G _ _ _ hI ad _) cy_X5_begin ml_RL_39 ⟨(Nat.le_of_ble_eq_true rfl), (Nat.le_of_ble_eq_true rfl)⟩ gP.blind (g_recv X hw 0 0 hT.1 rfl rfl) (gP_call X hw _) rfl hl.1 rfl (Nat.le_of_ble_eq_true rfl) dL_begin_5 ⟨(Nat.le_of_ble_eq_true rfl), (Nat.le_of_ble_eq_true rfl)⟩) (fun E ce q H locs hE hw q1 q2 q3 => ?_) (fun H locs ad1 h0 hK hw => ?_)
  · rcases hE with ⟨hk, rfl⟩ | ⟨hk, rfl⟩ | ⟨hk, rfl⟩
    · refine w_catch X [] ⟨0, 10, 13, 13⟩ [⟨0, 10, 17, 17⟩] ht rfl (fun _ hz => nomatch hz) rfl (by decide) cl_RL_13 x_ca_1 q1 q2 q3 ?_
      refine lv_astore (lv' := [(4, .ref q), (0, .ref (ad 0 0)), (1, .int n1), (2, .int n2), (3, .ref (ad 22 0))]) hx hb dL_begin_13 hl (by decide) rfl (fun ls hl => ?_)
      refine lv_iconst (v := 1) hx hb dL_begin_15 (by decide) ?_
      exact w_iret X hw rfl (k := 1) rfl hr rfl hlk (Nat.le_of_ble_eq_true rfl) (Nat.le_of_ble_eq_true rfl) hK0 (by rw [hk]; rfl) (if_neg (by rw [hk]; decide)) dL_begin_16
    · exact absurd hk (m_begin_ne2 _ _ _)
    · refine w_catch X [⟨0, 10, 13, 13⟩] ⟨0, 10, 17, 17⟩ [] ht rfl (fun z hz => by rcases List.mem_cons.mp hz with rfl | hz; exact ⟨by decide, _, cl_RL_13, x_no_31⟩; exact nomatch hz) rfl (by decide) cl_RL_17 x_ca_3 q1 q2 q3 ?_
      refine lv_astore (lv' := [(4, .ref q), (0, .ref (ad 0 0)), (1, .int n1), (2, .int n2), (3, .ref (ad 22 0))]) hx hb dL_begin_17 hl (by decide) rfl (fun ls hl => ?_)
      refine lv_iconst (v := 2) hx hb dL_begin_19 (by decide) ?_
      exact w_iret X hw rfl (k := 2) rfl hr rfl hlk (Nat.le_of_ble_eq_true rfl) (Nat.le_of_ble_eq_true rfl) hK0 (by rw [hk]; rfl) (if_neg (by rw [hk]; decide)) dL_begin_20
  refine W.eq (g2 := F0 m 8 ls [.int (m_begin C n1 n2).2.1, .int 0, .ref (ad1 22 0)]) (by rw [hK.2]) ?_
  refine lv_i2l hx hb dL_begin_8 rfl ?_
  refine s_last X hw rfl dL_begin_9 (fun H locs hw => ?_)
  refine lv_goto (tgt := 21) hx hb dL_begin_10 (by decide) ?_
  refine lv_iconst (v := 0) hx hb dL_begin_21 (by decide) ?_
  exact w_iret X hw (gLvO_22 _ _ _ _).symm (k := 0) rfl hr rfl hlk (Nat.le_of_ble_eq_true rfl) (Nat.le_of_ble_eq_true rfl) hK (by rw [h0]; rfl) (if_pos h0) dL_begin_22
set_option maxHeartbeats 4000000 in
set_option maxRecDepth 100000 in
theorem cw_answer : Cond.static yL_answer ∈ gwl ∧ Cond.codeWith yL_answer cL_answer 5 (some .int) [(0, 10, 13, 13), (0, 10, 17, 15), (0, 10, 21, 17)] ∈ gwl := ⟨gwl_of (by decide +kernel) rfl, gwl_of (by decide +kernel) rfl⟩
set_option maxHeartbeats 4000000 in
set_option maxRecDepth 100000 in
theorem c_w_answer (l : Launch) (hst : l.stackTraces = false) (G : gG) (C : gCT) (ad : gAd) (n1 n2 : Int32) (hI : gInv C) : gMwi l yL_answer cL_answer 5 (some .int) [(0, 10, 13, 13), (0, 10, 17, 15), (0, 10, 21, 17)] (gRm 11 244 4 2120) G [.ref (ad 0 0), .int n1, .int n2, .ref (ad 22 0)] (gLvO C) ad (gF G C ad) (gYi G ad ((m_answer C n1 n2).1) (w_out C (m_answer C n1 n2))) := by
  refine w_met (own := RL) (by decide) rfl (Nat.le_of_ble_eq_true rfl) ?_
  intro p e s m below meth c ls X hw hr hlk ht hl
  have hx := X.1.1; have hb := X.1.2.1; have hml := X.1.2.2.1; have hown := X.1.2.2.2.1; have hts := X.1.2.2.2.2
  have hT := hI.top; have hRs := hI.runs; have hK0 : gAdK ad ad := ⟨rfl, rfl⟩
  have hl : lv_has ls 5 [(0, .ref (ad 0 0)), (1, .int n1), (2, .int n2), (3, .ref (ad 22 0))] := hl
  refine lv_aload_n hx hb dL_answer_0 rfl (lv_at hl 3 rfl) ?_
  refine lv_iconst (v := 0) hx hb dL_answer_1 (by decide) ?_
  refine lv_aload_n hx hb dL_answer_2 rfl (lv_at hl 0 rfl) ?_
  refine lv_iload_n hx hb dL_answer_3 rfl (lv_at hl 1 rfl) ?_
  refine lv_iload_n hx hb dL_answer_4 rfl (lv_at hl 2 rfl) ?_
  refine x_zi X hw (x_runV X (c_m_answer l hst G _ _ _ hI ad _) cy_X5_answer ml_RL_42 ⟨(Nat.le_of_ble_eq_true rfl), (Nat.le_of_ble_eq_true rfl)⟩ gP.blind (g_recv X hw 0 0 hT.1 rfl rfl) (gP_call X hw _) rfl hl.1 rfl (Nat.le_of_ble_eq_true rfl) dL_answer_5 ⟨(Nat.le_of_ble_eq_true rfl), (Nat.le_of_ble_eq_true rfl)⟩) (fun E ce q H locs hE hw q1 q2 q3 => ?_) (fun H locs ad1 h0 hK hw => ?_)
  · rcases hE with ⟨hk, rfl⟩ | ⟨hk, rfl⟩ | ⟨hk, rfl⟩
    · refine w_catch X [] ⟨0, 10, 13, 13⟩ [⟨0, 10, 17, 15⟩, ⟨0, 10, 21, 17⟩] ht rfl (fun _ hz => nomatch hz) rfl (by decide) cl_RL_13 x_ca_1 q1 q2 q3 ?_
      refine lv_astore (lv' := [(4, .ref q), (0, .ref (ad 0 0)), (1, .int n1), (2, .int n2), (3, .ref (ad 22 0))]) hx hb dL_answer_13 hl (by decide) rfl (fun ls hl => ?_)
      refine lv_iconst (v := 1) hx hb dL_answer_15 (by decide) ?_
      exact w_iret X hw rfl (k := 1) rfl hr rfl hlk (Nat.le_of_ble_eq_true rfl) (Nat.le_of_ble_eq_true rfl) hK0 (by rw [hk]) (if_neg (by rw [hk]; decide)) dL_answer_16
    · refine w_catch X [⟨0, 10, 13, 13⟩] ⟨0, 10, 17, 15⟩ [⟨0, 10, 21, 17⟩] ht rfl (fun z hz => by rcases List.mem_cons.mp hz with rfl | hz; exact ⟨by decide, _, cl_RL_13, x_no_21⟩; exact nomatch hz) rfl (by decide) cl_RL_15 x_ca_2 q1 q2 q3 ?_
      refine lv_astore (lv' := [(4, .ref q), (0, .ref (ad 0 0)), (1, .int n1), (2, .int n2), (3, .ref (ad 22 0))]) hx hb dL_answer_17 hl (by decide) rfl (fun ls hl => ?_)
      refine lv_iconst (v := 2) hx hb dL_answer_19 (by decide) ?_
      exact w_iret X hw rfl (k := 2) rfl hr rfl hlk (Nat.le_of_ble_eq_true rfl) (Nat.le_of_ble_eq_true rfl) hK0 (by rw [hk]) (if_neg (by rw [hk]; decide)) dL_answer_20
    · refine w_catch X [⟨0, 10, 13, 13⟩, ⟨0, 10, 17, 15⟩] ⟨0, 10, 21, 17⟩ [] ht rfl (fun z hz => by rcases List.mem_cons.mp hz with rfl | hz; exact ⟨by decide, _, cl_RL_13, x_no_31⟩; rcases List.mem_cons.mp hz with rfl | hz; exact ⟨by decide, _, cl_RL_15, x_no_32⟩; exact nomatch hz) rfl (by decide) cl_RL_17 x_ca_3 q1 q2 q3 ?_
      refine lv_astore (lv' := [(4, .ref q), (0, .ref (ad 0 0)), (1, .int n1), (2, .int n2), (3, .ref (ad 22 0))]) hx hb dL_answer_21 hl (by decide) rfl (fun ls hl => ?_)
      refine lv_iconst (v := 3) hx hb dL_answer_23 (by decide) ?_
      exact w_iret X hw rfl (k := 3) rfl hr rfl hlk (Nat.le_of_ble_eq_true rfl) (Nat.le_of_ble_eq_true rfl) hK0 (by rw [hk]) (if_neg (by rw [hk]; decide)) dL_answer_24
  refine W.eq (g2 := F0 m 8 ls [.int (m_answer C n1 n2).2.1, .int 0, .ref (ad1 22 0)]) (by rw [hK.2]) ?_
  refine lv_i2l hx hb dL_answer_8 rfl ?_
  refine s_last X hw rfl dL_answer_9 (fun H locs hw => ?_)
  refine lv_goto (tgt := 25) hx hb dL_answer_10 (by decide) ?_
  refine lv_iconst (v := 0) hx hb dL_answer_25 (by decide) ?_
  exact w_iret X hw (gLvO_22 _ _ _ _).symm (k := 0) rfl hr rfl hlk (Nat.le_of_ble_eq_true rfl) (Nat.le_of_ble_eq_true rfl) hK (by rw [h0]) (if_pos h0) dL_answer_26
theorem m_save_ne2 (C : gCT) (n1 : Int32) : (m_save C n1).1 ≠ 2 := ne_ite (ne_ite (by decide : (0 : Nat) ≠ 2) (by decide : (3 : Nat) ≠ 2)) ((m_runAt_ne C n1).1)
def w_outv (C : gCT) (r : Nat × Int32 × gCT) : gCT := if r.1 = 0 then r.2.2 else C
set_option maxHeartbeats 4000000 in
set_option maxRecDepth 100000 in
theorem cw_save : Cond.static yL_save ∈ gwl ∧ Cond.codeWith yL_save cL_save 3 (some .int) [(0, 5, 8, 13), (0, 5, 11, 17)] ∈ gwl := ⟨gwl_of (by decide +kernel) rfl, gwl_of (by decide +kernel) rfl⟩
set_option maxHeartbeats 4000000 in
set_option maxRecDepth 100000 in
theorem c_w_save (l : Launch) (hst : l.stackTraces = false) (G : gG) (C : gCT) (ad : gAd) (n1 : Int32) (hI : gInv C) : gMwi l yL_save cL_save 3 (some .int) [(0, 5, 8, 13), (0, 5, 11, 17)] (gRm 8 125 2 12) G [.ref (ad 0 0), .int n1] (gLvO C) ad (gF G C ad) (gYi G ad (w_two (m_save C n1).1) (w_outv C (m_save C n1))) := by
  refine w_met (own := RL) (by decide) rfl (Nat.le_of_ble_eq_true rfl) ?_
  intro p e s m below meth c ls X hw hr hlk ht hl
  have hx := X.1.1; have hb := X.1.2.1; have hml := X.1.2.2.1; have hown := X.1.2.2.2.1; have hts := X.1.2.2.2.2
  have hT := hI.top; have hRs := hI.runs; have hK0 : gAdK ad ad := ⟨rfl, rfl⟩
  have hl : lv_has ls 3 [(0, .ref (ad 0 0)), (1, .int n1)] := hl
  refine lv_aload_n hx hb dL_save_0 rfl (lv_at hl 0 rfl) ?_
  refine lv_iload_n hx hb dL_save_1 rfl (lv_at hl 1 rfl) ?_
  refine x_rv X hw (x_runV X (c_m_save l hst G _ _ _ _ _ _ hT hRs _) cy_X5_save ml_RL_45 ⟨(Nat.le_of_ble_eq_true rfl), (Nat.le_of_ble_eq_true rfl)⟩ gP.blind (g_recv X hw 0 0 hT.1 rfl rfl) (gP_call X hw _) rfl hl.1 rfl (Nat.le_of_ble_eq_true rfl) dL_save_2 ⟨(Nat.le_of_ble_eq_true rfl), (Nat.le_of_ble_eq_true rfl)⟩) (fun E ce q H locs hE hw q1 q2 q3 => ?_) (fun H locs h0 hw => ?_)
  · rcases hE with ⟨hk, rfl⟩ | ⟨hk, rfl⟩ | ⟨hk, rfl⟩
    · refine w_catch X [] ⟨0, 5, 8, 13⟩ [⟨0, 5, 11, 17⟩] ht rfl (fun _ hz => nomatch hz) rfl (by decide) cl_RL_13 x_ca_1 q1 q2 q3 ?_
      refine lv_astore_n (lv' := [(2, .ref q), (0, .ref (ad 0 0)), (1, .int n1)]) hx hb dL_save_8 rfl hl (by decide) rfl (fun ls hl => ?_)
      refine lv_iconst (v := 1) hx hb dL_save_9 (by decide) ?_
      exact w_iret X hw rfl (k := 1) rfl hr rfl hlk (Nat.le_of_ble_eq_true rfl) (Nat.le_of_ble_eq_true rfl) hK0 (by rw [hk]; rfl) (if_neg (by rw [hk]; decide)) dL_save_10
    · exact absurd hk (m_save_ne2 _ _)
    · refine w_catch X [⟨0, 5, 8, 13⟩] ⟨0, 5, 11, 17⟩ [] ht rfl (fun z hz => by rcases List.mem_cons.mp hz with rfl | hz; exact ⟨by decide, _, cl_RL_13, x_no_31⟩; exact nomatch hz) rfl (by decide) cl_RL_17 x_ca_3 q1 q2 q3 ?_
      refine lv_astore_n (lv' := [(2, .ref q), (0, .ref (ad 0 0)), (1, .int n1)]) hx hb dL_save_11 rfl hl (by decide) rfl (fun ls hl => ?_)
      refine lv_iconst (v := 2) hx hb dL_save_12 (by decide) ?_
      exact w_iret X hw rfl (k := 2) rfl hr rfl hlk (Nat.le_of_ble_eq_true rfl) (Nat.le_of_ble_eq_true rfl) hK0 (by rw [hk]; rfl) (if_neg (by rw [hk]; decide)) dL_save_13
  refine lv_goto (tgt := 14) hx hb dL_save_5 (by decide) ?_
  refine lv_iconst (v := 0) hx hb dL_save_14 (by decide) ?_
  exact w_iret X hw ((m_save_str C n1).lv.symm) (k := 0) rfl hr rfl hlk (Nat.le_of_ble_eq_true rfl) (Nat.le_of_ble_eq_true rfl) hK0 (by rw [h0]; rfl) (if_pos h0) dL_save_15
theorem m_wake_ne2 (C : gCT) (n1 : Int32) : (m_wake C n1).1 ≠ 2 := ne_ite (ne_ite (ne_ite (by decide : (0 : Nat) ≠ 2) (by decide : (0 : Nat) ≠ 2)) (by decide : (3 : Nat) ≠ 2)) ((m_runAt_ne C n1).1)
def w_outw (C : gCT) (r : Nat × Int32 × gCT) : gCT := if r.1 = 0 then cs r.2.2 22 0 0 (if r.2.1 = 0 then 0 else 1) else C
set_option maxHeartbeats 4000000 in
set_option maxRecDepth 100000 in
theorem cw_wake : Cond.static yL_wake ∈ gwl ∧ Cond.codeWith yL_wake cL_wake 4 (some .int) [(0, 16, 19, 13), (0, 16, 22, 17)] ∈ gwl := ⟨gwl_of (by decide +kernel) rfl, gwl_of (by decide +kernel) rfl⟩
set_option maxHeartbeats 4000000 in
set_option maxRecDepth 100000 in
theorem c_w_wake (l : Launch) (hst : l.stackTraces = false) (G : gG) (C : gCT) (ad : gAd) (n1 : Int32) (hI : gInv C) : gMwi l yL_wake cL_wake 4 (some .int) [(0, 16, 19, 13), (0, 16, 22, 17)] (gRm 9 203 2 12) G [.ref (ad 0 0), .int n1, .ref (ad 22 0)] (gLvO C) ad (gF G C ad) (gYi G ad (w_two (m_wake C n1).1) (w_outw C (m_wake C n1))) := by
  refine w_met (own := RL) (by decide) rfl (Nat.le_of_ble_eq_true rfl) ?_
  intro p e s m below meth c ls X hw hr hlk ht hl
  have hx := X.1.1; have hb := X.1.2.1; have hml := X.1.2.2.1; have hown := X.1.2.2.2.1; have hts := X.1.2.2.2.2
  have hT := hI.top; have hRs := hI.runs; have hK0 : gAdK ad ad := ⟨rfl, rfl⟩
  have hl : lv_has ls 4 [(0, .ref (ad 0 0)), (1, .int n1), (2, .ref (ad 22 0))] := hl
  refine lv_aload_n hx hb dL_wake_0 rfl (lv_at hl 2 rfl) ?_
  refine lv_iconst (v := 0) hx hb dL_wake_1 (by decide) ?_
  refine lv_aload_n hx hb dL_wake_2 rfl (lv_at hl 0 rfl) ?_
  refine lv_iload_n hx hb dL_wake_3 rfl (lv_at hl 1 rfl) ?_
  refine x_ri X hw (x_runV X (c_m_wake l hst G _ _ _ _ _ _ hT hRs _) cy_X5_wake ml_RL_49 ⟨(Nat.le_of_ble_eq_true rfl), (Nat.le_of_ble_eq_true rfl)⟩ gP.blind (g_recv X hw 0 0 hT.1 rfl rfl) (gP_call X hw _) rfl hl.1 rfl (Nat.le_of_ble_eq_true rfl) dL_wake_4 ⟨(Nat.le_of_ble_eq_true rfl), (Nat.le_of_ble_eq_true rfl)⟩) (fun E ce q H locs hE hw q1 q2 q3 => ?_) (fun H locs h0 hw => ?_)
  · rcases hE with ⟨hk, rfl⟩ | ⟨hk, rfl⟩ | ⟨hk, rfl⟩
    · refine w_catch X [] ⟨0, 16, 19, 13⟩ [⟨0, 16, 22, 17⟩] ht rfl (fun _ hz => nomatch hz) rfl (by decide) cl_RL_13 x_ca_1 q1 q2 q3 ?_
      refine lv_astore_n (lv' := [(3, .ref q), (0, .ref (ad 0 0)), (1, .int n1), (2, .ref (ad 22 0))]) hx hb dL_wake_19 rfl hl (by decide) rfl (fun ls hl => ?_)
      refine lv_iconst (v := 1) hx hb dL_wake_20 (by decide) ?_
      exact w_iret X hw rfl (k := 1) rfl hr rfl hlk (Nat.le_of_ble_eq_true rfl) (Nat.le_of_ble_eq_true rfl) hK0 (by rw [hk]; rfl) (if_neg (by rw [hk]; decide)) dL_wake_21
    · exact absurd hk (m_wake_ne2 _ _)
    · refine w_catch X [⟨0, 16, 19, 13⟩] ⟨0, 16, 22, 17⟩ [] ht rfl (fun z hz => by rcases List.mem_cons.mp hz with rfl | hz; exact ⟨by decide, _, cl_RL_13, x_no_31⟩; exact nomatch hz) rfl (by decide) cl_RL_17 x_ca_3 q1 q2 q3 ?_
      refine lv_astore_n (lv' := [(3, .ref q), (0, .ref (ad 0 0)), (1, .int n1), (2, .ref (ad 22 0))]) hx hb dL_wake_22 rfl hl (by decide) rfl (fun ls hl => ?_)
      refine lv_iconst (v := 2) hx hb dL_wake_23 (by decide) ?_
      exact w_iret X hw rfl (k := 2) rfl hr rfl hlk (Nat.le_of_ble_eq_true rfl) (Nat.le_of_ble_eq_true rfl) hK0 (by rw [hk]; rfl) (if_neg (by rw [hk]; decide)) dL_wake_24
  refine lv_if_eq (tgt := 14) hx hb dL_wake_7 (by decide) (fun hz => ?_) (fun hz => ?_)
  · refine lv_lconst (v := (0 : Int32).toInt64) hx hb dL_wake_14 (by decide) ?_
    refine s_last X hw rfl dL_wake_15 (fun H locs hw => ?_)
    refine lv_goto (tgt := 25) hx hb dL_wake_16 (by decide) ?_
    refine lv_iconst (v := 0) hx hb dL_wake_25 (by decide) ?_
    exact w_iret X hw (((m_wake_inv hI).2.symm).trans (gLvO_22 _ _ _ _).symm) (k := 0) rfl hr rfl hlk (Nat.le_of_ble_eq_true rfl) (Nat.le_of_ble_eq_true rfl) hK0 (by rw [h0]; rfl) ((if_pos h0).trans (by rw [if_pos hz])) dL_wake_26
  · refine lv_lconst (v := (1 : Int32).toInt64) hx hb dL_wake_10 (by decide) ?_
    refine lv_goto (tgt := 15) hx hb dL_wake_11 (by decide) ?_
    refine s_last X hw rfl dL_wake_15 (fun H locs hw => ?_)
    refine lv_goto (tgt := 25) hx hb dL_wake_16 (by decide) ?_
    refine lv_iconst (v := 0) hx hb dL_wake_25 (by decide) ?_
    exact w_iret X hw (((m_wake_inv hI).2.symm).trans (gLvO_22 _ _ _ _).symm) (k := 0) rfl hr rfl hlk (Nat.le_of_ble_eq_true rfl) (Nat.le_of_ble_eq_true rfl) hK0 (by rw [h0]; rfl) ((if_pos h0).trans (by rw [if_neg hz])) dL_wake_26

theorem m_fund_ne3 (C : gCT) (n1 n2 : Int32) : (m_fund C n1 n2).1 ≠ 3 := ne_ite (ne_ite (by decide : (2 : Nat) ≠ 3) (by decide : (0 : Nat) ≠ 3)) ((m_formAt_ne C n1).2)
set_option maxHeartbeats 4000000 in
set_option maxRecDepth 100000 in
theorem cw_fund : Cond.static yL_fund ∈ gwl ∧ Cond.codeWith yL_fund cL_fund 4 (some .int) [(0, 6, 7, 15), (0, 6, 11, 17)] ∈ gwl := ⟨gwl_of (by decide +kernel) rfl, gwl_of (by decide +kernel) rfl⟩
set_option maxHeartbeats 4000000 in
set_option maxRecDepth 100000 in
theorem c_w_fund (l : Launch) (hst : l.stackTraces = false) (G : gG) (C : gCT) (ad : gAd) (n1 n2 : Int32) (hI : gInv C) : gMwi l yL_fund cL_fund 4 (some .int) [(0, 6, 7, 15), (0, 6, 11, 17)] (gRm 8 126 2 12) G [.ref (ad 0 0), .int n1, .int n2] (gLvO C) ad (gF G C ad) (gYi G ad (wv (m_fund C n1 n2)) (wd C (m_fund C n1 n2))) := by
  refine w_met (own := RL) (by decide) rfl (Nat.le_of_ble_eq_true rfl) ?_
  intro p e s m below meth c ls X hw hr hlk ht hl
  have hx := X.1.1; have hb := X.1.2.1; have hml := X.1.2.2.1; have hown := X.1.2.2.2.1; have hts := X.1.2.2.2.2
  have hT := hI.top; have hRs := hI.runs; have hK0 : gAdK ad ad := ⟨rfl, fun _ _ => rfl⟩
  have hl : lv_has ls 4 [(0, .ref (ad 0 0)), (1, .int n1), (2, .int n2)] := hl
  refine lv_aload_n hx hb dL_fund_0 rfl (lv_at hl 0 rfl) ?_
  refine lv_iload_n hx hb dL_fund_1 rfl (lv_at hl 1 rfl) ?_
  refine lv_iload_n hx hb dL_fund_2 rfl (lv_at hl 2 rfl) ?_
  refine x_ri X hw (x_runV X (c_m_fund l hst G _ _ _ _ _ hT _) cy_X5_fund ml_RL_29 ⟨(Nat.le_of_ble_eq_true rfl), (Nat.le_of_ble_eq_true rfl)⟩ gP.blind (g_recv X hw 0 0 hT.1 rfl rfl) (gP_call X hw _) rfl hl.1 rfl (Nat.le_of_ble_eq_true rfl) dL_fund_3 ⟨(Nat.le_of_ble_eq_true rfl), (Nat.le_of_ble_eq_true rfl)⟩) (fun E ce q H locs hE hw q1 q2 q3 => ?_) (fun H locs h0 hw => ?_)
  · rcases hE with ⟨hk, rfl⟩ | ⟨hk, rfl⟩ | ⟨hk, rfl⟩
    · refine w_catch X [] ⟨0, 6, 7, 15⟩ [⟨0, 6, 11, 17⟩] ht rfl (fun _ hz => nomatch hz) rfl (by decide) cl_RL_15 x_ca_1 q1 q2 q3 ?_
      refine lv_astore_n (lv' := [(3, .ref q), (0, .ref (ad 0 0)), (1, .int n1), (2, .int n2)]) hx hb dL_fund_7 rfl hl (by decide) rfl (fun ls hl => ?_)
      refine lv_bipush (v := (-101)) hx hb dL_fund_8 (by decide) ?_
      exact w_iret X hw rfl hr rfl hlk (Nat.le_of_ble_eq_true rfl) (Nat.le_of_ble_eq_true rfl) hK0 (by rw [wv, hk]; rfl) (wd_n (by rw [hk]; decide)) dL_fund_10
    · refine w_catch X [⟨0, 6, 7, 15⟩] ⟨0, 6, 11, 17⟩ [] ht rfl (fun z hz => by rcases List.mem_cons.mp hz with rfl | hz; exact ⟨by decide, _, cl_RL_15, x_no_21⟩; exact nomatch hz) rfl (by decide) cl_RL_17 x_ca_2 q1 q2 q3 ?_
      refine lv_astore_n (lv' := [(3, .ref q), (0, .ref (ad 0 0)), (1, .int n1), (2, .int n2)]) hx hb dL_fund_11 rfl hl (by decide) rfl (fun ls hl => ?_)
      refine lv_bipush (v := (-102)) hx hb dL_fund_12 (by decide) ?_
      exact w_iret X hw rfl hr rfl hlk (Nat.le_of_ble_eq_true rfl) (Nat.le_of_ble_eq_true rfl) hK0 (by rw [wv, hk]; rfl) (wd_n (by rw [hk]; decide)) dL_fund_14
    · exact absurd hk (m_fund_ne3 _ _ _)
  exact w_iret X hw ((m_fund_str C n1 n2).lv.symm) hr rfl hlk (Nat.le_of_ble_eq_true rfl) (Nat.le_of_ble_eq_true rfl) hK0 (wv_0 h0) (wd_0 h0) dL_fund_6
theorem m_setQuota_ne3 (C : gCT) (n1 n2 n3 : Int32) : (m_setQuota C n1 n2 n3).1 ≠ 3 := ne_ite (ne_ite (by decide : (1 : Nat) ≠ 3) (ne_ite (by decide : (2 : Nat) ≠ 3) (by decide : (0 : Nat) ≠ 3))) ((m_formAt_ne C n1).2)
set_option maxHeartbeats 4000000 in
set_option maxRecDepth 100000 in
theorem cw_setQuota : Cond.static yL_quota ∈ gwl ∧ Cond.codeWith yL_quota cL_quota 5 (some .int) [(0, 7, 8, 15), (0, 7, 13, 17)] ∈ gwl := ⟨gwl_of (by decide +kernel) rfl, gwl_of (by decide +kernel) rfl⟩
set_option maxHeartbeats 4000000 in
set_option maxRecDepth 100000 in
theorem c_w_setQuota (l : Launch) (hst : l.stackTraces = false) (G : gG) (C : gCT) (ad : gAd) (n1 n2 n3 : Int32) (hI : gInv C) : gMwi l yL_quota cL_quota 5 (some .int) [(0, 7, 8, 15), (0, 7, 13, 17)] (gRm 8 128 2 12) G [.ref (ad 0 0), .int n1, .int n2, .int n3] (gLvO C) ad (gF G C ad) (gYi G ad (wv (m_setQuota C n1 n2 n3)) (wd C (m_setQuota C n1 n2 n3))) := by
  refine w_met (own := RL) (by decide) rfl (Nat.le_of_ble_eq_true rfl) ?_
  intro p e s m below meth c ls X hw hr hlk ht hl
  have hx := X.1.1; have hb := X.1.2.1; have hml := X.1.2.2.1; have hown := X.1.2.2.2.1; have hts := X.1.2.2.2.2
  have hT := hI.top; have hRs := hI.runs; have hK0 : gAdK ad ad := ⟨rfl, fun _ _ => rfl⟩
  have hl : lv_has ls 5 [(0, .ref (ad 0 0)), (1, .int n1), (2, .int n2), (3, .int n3)] := hl
  refine lv_aload_n hx hb dL_quota_0 rfl (lv_at hl 0 rfl) ?_
  refine lv_iload_n hx hb dL_quota_1 rfl (lv_at hl 1 rfl) ?_
  refine lv_iload_n hx hb dL_quota_2 rfl (lv_at hl 2 rfl) ?_
  refine lv_iload_n hx hb dL_quota_3 rfl (lv_at hl 3 rfl) ?_
  refine x_ri X hw (x_runV X (c_m_setQuota l hst G _ _ _ _ _ _ hT _) cy_X5_setQuota ml_RL_32 ⟨(Nat.le_of_ble_eq_true rfl), (Nat.le_of_ble_eq_true rfl)⟩ gP.blind (g_recv X hw 0 0 hT.1 rfl rfl) (gP_call X hw _) rfl hl.1 rfl (Nat.le_of_ble_eq_true rfl) dL_quota_4 ⟨(Nat.le_of_ble_eq_true rfl), (Nat.le_of_ble_eq_true rfl)⟩) (fun E ce q H locs hE hw q1 q2 q3 => ?_) (fun H locs h0 hw => ?_)
  · rcases hE with ⟨hk, rfl⟩ | ⟨hk, rfl⟩ | ⟨hk, rfl⟩
    · refine w_catch X [] ⟨0, 7, 8, 15⟩ [⟨0, 7, 13, 17⟩] ht rfl (fun _ hz => nomatch hz) rfl (by decide) cl_RL_15 x_ca_1 q1 q2 q3 ?_
      refine lv_astore (lv' := [(4, .ref q), (0, .ref (ad 0 0)), (1, .int n1), (2, .int n2), (3, .int n3)]) hx hb dL_quota_8 hl (by decide) rfl (fun ls hl => ?_)
      refine lv_bipush (v := (-101)) hx hb dL_quota_10 (by decide) ?_
      exact w_iret X hw rfl hr rfl hlk (Nat.le_of_ble_eq_true rfl) (Nat.le_of_ble_eq_true rfl) hK0 (by rw [wv, hk]; rfl) (wd_n (by rw [hk]; decide)) dL_quota_12
    · refine w_catch X [⟨0, 7, 8, 15⟩] ⟨0, 7, 13, 17⟩ [] ht rfl (fun z hz => by rcases List.mem_cons.mp hz with rfl | hz; exact ⟨by decide, _, cl_RL_15, x_no_21⟩; exact nomatch hz) rfl (by decide) cl_RL_17 x_ca_2 q1 q2 q3 ?_
      refine lv_astore (lv' := [(4, .ref q), (0, .ref (ad 0 0)), (1, .int n1), (2, .int n2), (3, .int n3)]) hx hb dL_quota_13 hl (by decide) rfl (fun ls hl => ?_)
      refine lv_bipush (v := (-102)) hx hb dL_quota_15 (by decide) ?_
      exact w_iret X hw rfl hr rfl hlk (Nat.le_of_ble_eq_true rfl) (Nat.le_of_ble_eq_true rfl) hK0 (by rw [wv, hk]; rfl) (wd_n (by rw [hk]; decide)) dL_quota_17
    · exact absurd hk (m_setQuota_ne3 _ _ _ _)
  exact w_iret X hw ((m_setQuota_str C n1 n2 n3).lv.symm) hr rfl hlk (Nat.le_of_ble_eq_true rfl) (Nat.le_of_ble_eq_true rfl) hK0 (wv_0 h0) (wd_0 h0) dL_quota_7
theorem m_setPrice_ne3 (C : gCT) (n1 n2 : Int32) : (m_setPrice C n1 n2).1 ≠ 3 := ne_ite (by decide : (1 : Nat) ≠ 3) (ne_ite (by decide : (2 : Nat) ≠ 3) (by decide : (0 : Nat) ≠ 3))
set_option maxHeartbeats 4000000 in
set_option maxRecDepth 100000 in
theorem cw_setPrice : Cond.static yL_price ∈ gwl ∧ Cond.codeWith yL_price cL_price 4 (some .int) [(0, 6, 7, 15), (0, 6, 11, 17)] ∈ gwl := ⟨gwl_of (by decide +kernel) rfl, gwl_of (by decide +kernel) rfl⟩
set_option maxHeartbeats 4000000 in
set_option maxRecDepth 100000 in
theorem c_w_setPrice (l : Launch) (hst : l.stackTraces = false) (G : gG) (C : gCT) (ad : gAd) (n1 n2 : Int32) (hI : gInv C) : gMwi l yL_price cL_price 4 (some .int) [(0, 6, 7, 15), (0, 6, 11, 17)] (gRm 7 105 1 6) G [.ref (ad 0 0), .int n1, .int n2] (gLvO C) ad (gF G C ad) (gYi G ad (wv (m_setPrice C n1 n2)) (wd C (m_setPrice C n1 n2))) := by
  refine w_met (own := RL) (by decide) rfl (Nat.le_of_ble_eq_true rfl) ?_
  intro p e s m below meth c ls X hw hr hlk ht hl
  have hx := X.1.1; have hb := X.1.2.1; have hml := X.1.2.2.1; have hown := X.1.2.2.2.1; have hts := X.1.2.2.2.2
  have hT := hI.top; have hRs := hI.runs; have hK0 : gAdK ad ad := ⟨rfl, fun _ _ => rfl⟩
  have hl : lv_has ls 4 [(0, .ref (ad 0 0)), (1, .int n1), (2, .int n2)] := hl
  refine lv_aload_n hx hb dL_price_0 rfl (lv_at hl 0 rfl) ?_
  refine lv_iload_n hx hb dL_price_1 rfl (lv_at hl 1 rfl) ?_
  refine lv_iload_n hx hb dL_price_2 rfl (lv_at hl 2 rfl) ?_
  refine x_ri X hw (x_runV X (c_m_setPrice l hst G _ _ _ _ _ hT _) cy_X5_setPrice ml_RL_35 ⟨(Nat.le_of_ble_eq_true rfl), (Nat.le_of_ble_eq_true rfl)⟩ gP.blind (g_recv X hw 0 0 hT.1 rfl rfl) (gP_call X hw _) rfl hl.1 rfl (Nat.le_of_ble_eq_true rfl) dL_price_3 ⟨(Nat.le_of_ble_eq_true rfl), (Nat.le_of_ble_eq_true rfl)⟩) (fun E ce q H locs hE hw q1 q2 q3 => ?_) (fun H locs h0 hw => ?_)
  · rcases hE with ⟨hk, rfl⟩ | ⟨hk, rfl⟩ | ⟨hk, rfl⟩
    · refine w_catch X [] ⟨0, 6, 7, 15⟩ [⟨0, 6, 11, 17⟩] ht rfl (fun _ hz => nomatch hz) rfl (by decide) cl_RL_15 x_ca_1 q1 q2 q3 ?_
      refine lv_astore_n (lv' := [(3, .ref q), (0, .ref (ad 0 0)), (1, .int n1), (2, .int n2)]) hx hb dL_price_7 rfl hl (by decide) rfl (fun ls hl => ?_)
      refine lv_bipush (v := (-101)) hx hb dL_price_8 (by decide) ?_
      exact w_iret X hw rfl hr rfl hlk (Nat.le_of_ble_eq_true rfl) (Nat.le_of_ble_eq_true rfl) hK0 (by rw [wv, hk]; rfl) (wd_n (by rw [hk]; decide)) dL_price_10
    · refine w_catch X [⟨0, 6, 7, 15⟩] ⟨0, 6, 11, 17⟩ [] ht rfl (fun z hz => by rcases List.mem_cons.mp hz with rfl | hz; exact ⟨by decide, _, cl_RL_15, x_no_21⟩; exact nomatch hz) rfl (by decide) cl_RL_17 x_ca_2 q1 q2 q3 ?_
      refine lv_astore_n (lv' := [(3, .ref q), (0, .ref (ad 0 0)), (1, .int n1), (2, .int n2)]) hx hb dL_price_11 rfl hl (by decide) rfl (fun ls hl => ?_)
      refine lv_bipush (v := (-102)) hx hb dL_price_12 (by decide) ?_
      exact w_iret X hw rfl hr rfl hlk (Nat.le_of_ble_eq_true rfl) (Nat.le_of_ble_eq_true rfl) hK0 (by rw [wv, hk]; rfl) (wd_n (by rw [hk]; decide)) dL_price_14
    · exact absurd hk (m_setPrice_ne3 _ _ _)
  exact w_iret X hw ((m_setPrice_str C n1 n2).lv.symm) hr rfl hlk (Nat.le_of_ble_eq_true rfl) (Nat.le_of_ble_eq_true rfl) hK0 (wv_0 h0) (wd_0 h0) dL_price_6
theorem m_reword_ne2 (C : gCT) (n1 : Int32) : (m_reword C n1).1 ≠ 2 := ne_ite (by decide : (1 : Nat) ≠ 2) (by decide : (0 : Nat) ≠ 2)
theorem m_reword_ne3 (C : gCT) (n1 : Int32) : (m_reword C n1).1 ≠ 3 := ne_ite (by decide : (1 : Nat) ≠ 3) (by decide : (0 : Nat) ≠ 3)
set_option maxHeartbeats 4000000 in
set_option maxRecDepth 100000 in
theorem cw_reword : Cond.static yL_reword ∈ gwl ∧ Cond.codeWith yL_reword cL_reword 3 (some .int) [(0, 5, 6, 15)] ∈ gwl := ⟨gwl_of (by decide +kernel) rfl, gwl_of (by decide +kernel) rfl⟩
set_option maxHeartbeats 4000000 in
set_option maxRecDepth 100000 in
theorem c_w_reword (l : Launch) (hst : l.stackTraces = false) (G : gG) (C : gCT) (ad : gAd) (n1 : Int32) (hI : gInv C) : gMwi l yL_reword cL_reword 3 (some .int) [(0, 5, 6, 15)] (gRm 7 103 1 6) G [.ref (ad 0 0), .int n1] (gLvO C) ad (gF G C ad) (gYi G ad (wv (m_reword C n1)) (wd C (m_reword C n1))) := by
  refine w_met (own := RL) (by decide) rfl (Nat.le_of_ble_eq_true rfl) ?_
  intro p e s m below meth c ls X hw hr hlk ht hl
  have hx := X.1.1; have hb := X.1.2.1; have hml := X.1.2.2.1; have hown := X.1.2.2.2.1; have hts := X.1.2.2.2.2
  have hT := hI.top; have hRs := hI.runs; have hK0 : gAdK ad ad := ⟨rfl, fun _ _ => rfl⟩
  have hl : lv_has ls 3 [(0, .ref (ad 0 0)), (1, .int n1)] := hl
  refine lv_aload_n hx hb dL_reword_0 rfl (lv_at hl 0 rfl) ?_
  refine lv_iload_n hx hb dL_reword_1 rfl (lv_at hl 1 rfl) ?_
  refine x_ri X hw (x_runV X (c_m_reword l hst G _ _ _ _ hT _) cy_X5_reword ml_RL_38 ⟨(Nat.le_of_ble_eq_true rfl), (Nat.le_of_ble_eq_true rfl)⟩ gP.blind (g_recv X hw 0 0 hT.1 rfl rfl) (gP_call X hw _) rfl hl.1 rfl (Nat.le_of_ble_eq_true rfl) dL_reword_2 ⟨(Nat.le_of_ble_eq_true rfl), (Nat.le_of_ble_eq_true rfl)⟩) (fun E ce q H locs hE hw q1 q2 q3 => ?_) (fun H locs h0 hw => ?_)
  · rcases hE with ⟨hk, rfl⟩ | ⟨hk, rfl⟩ | ⟨hk, rfl⟩
    · refine w_catch X [] ⟨0, 5, 6, 15⟩ [] ht rfl (fun _ hz => nomatch hz) rfl (by decide) cl_RL_15 x_ca_1 q1 q2 q3 ?_
      refine lv_astore_n (lv' := [(2, .ref q), (0, .ref (ad 0 0)), (1, .int n1)]) hx hb dL_reword_6 rfl hl (by decide) rfl (fun ls hl => ?_)
      refine lv_bipush (v := (-101)) hx hb dL_reword_7 (by decide) ?_
      exact w_iret X hw rfl hr rfl hlk (Nat.le_of_ble_eq_true rfl) (Nat.le_of_ble_eq_true rfl) hK0 (by rw [wv, hk]; rfl) (wd_n (by rw [hk]; decide)) dL_reword_9
    · exact absurd hk (m_reword_ne2 _ _)
    · exact absurd hk (m_reword_ne3 _ _)
  exact w_iret X hw ((m_reword_str C n1).lv.symm) hr rfl hlk (Nat.le_of_ble_eq_true rfl) (Nat.le_of_ble_eq_true rfl) hK0 (wv_0 h0) (wd_0 h0) dL_reword_5
theorem m_begin_ne2 (C : gCT) (n1 n2 : Int32) : (m_begin C n1 n2).1 ≠ 2 := ne_ite (by decide : (1 : Nat) ≠ 2) (ne_ite (ne_ite (by decide : (3 : Nat) ≠ 2) (ne_ite (ne_ite (by decide : (0 : Nat) ≠ 2) (by decide : (3 : Nat) ≠ 2)) (by decide : (3 : Nat) ≠ 2))) ((m_formAt_ne C n2).1))
set_option maxHeartbeats 4000000 in
set_option maxRecDepth 100000 in
theorem cw_begin : Cond.static yL_begin ∈ gwl ∧ Cond.codeWith yL_begin cL_begin 4 (some .int) [(0, 6, 7, 15), (0, 6, 11, 19)] ∈ gwl := ⟨gwl_of (by decide +kernel) rfl, gwl_of (by decide +kernel) rfl⟩
set_option maxHeartbeats 4000000 in
set_option maxRecDepth 100000 in
theorem c_w_begin (l : Launch) (hst : l.stackTraces = false) (G : gG) (C : gCT) (ad : gAd) (n1 n2 : Int32) (hI : gInv C) : gMwi l yL_begin cL_begin 4 (some .int) [(0, 6, 7, 15), (0, 6, 11, 19)] (gRm 11 304 12 2220) G [.ref (ad 0 0), .int n1, .int n2] (gLvO C) ad (gF G C ad) (gYi G ad (wv (m_begin C n1 n2)) (wd C (m_begin C n1 n2))) := by
  refine w_met (own := RL) (by decide) rfl (Nat.le_of_ble_eq_true rfl) ?_
  intro p e s m below meth c ls X hw hr hlk ht hl
  have hx := X.1.1; have hb := X.1.2.1; have hml := X.1.2.2.1; have hown := X.1.2.2.2.1; have hts := X.1.2.2.2.2
  have hT := hI.top; have hRs := hI.runs; have hK0 : gAdK ad ad := ⟨rfl, fun _ _ => rfl⟩
  have hl : lv_has ls 4 [(0, .ref (ad 0 0)), (1, .int n1), (2, .int n2)] := hl
  refine lv_aload_n hx hb dL_begin_0 rfl (lv_at hl 0 rfl) ?_
  refine lv_iload_n hx hb dL_begin_1 rfl (lv_at hl 1 rfl) ?_
  refine lv_iload_n hx hb dL_begin_2 rfl (lv_at hl 2 rfl) ?_
  refine x_zi X hw (x_runV X (c_m_begin l hst G _ _ _ hI ad _) cy_X5_begin ml_RL_41 ⟨(Nat.le_of_ble_eq_true rfl), (Nat.le_of_ble_eq_true rfl)⟩ gP.blind (g_recv X hw 0 0 hT.1 rfl rfl) (gP_call X hw _) rfl hl.1 rfl (Nat.le_of_ble_eq_true rfl) dL_begin_3 ⟨(Nat.le_of_ble_eq_true rfl), (Nat.le_of_ble_eq_true rfl)⟩) (fun E ce q H locs hE hw q1 q2 q3 => ?_) (fun H locs ad1 h0 hK hw => ?_)
  · rcases hE with ⟨hk, rfl⟩ | ⟨hk, rfl⟩ | ⟨hk, rfl⟩
    · refine w_catch X [] ⟨0, 6, 7, 15⟩ [⟨0, 6, 11, 19⟩] ht rfl (fun _ hz => nomatch hz) rfl (by decide) cl_RL_15 x_ca_1 q1 q2 q3 ?_
      refine lv_astore_n (lv' := [(3, .ref q), (0, .ref (ad 0 0)), (1, .int n1), (2, .int n2)]) hx hb dL_begin_7 rfl hl (by decide) rfl (fun ls hl => ?_)
      refine lv_bipush (v := (-101)) hx hb dL_begin_8 (by decide) ?_
      exact w_iret X hw rfl hr rfl hlk (Nat.le_of_ble_eq_true rfl) (Nat.le_of_ble_eq_true rfl) hK0 (by rw [wv, hk]; rfl) (wd_n (by rw [hk]; decide)) dL_begin_10
    · exact absurd hk (m_begin_ne2 _ _ _)
    · refine w_catch X [⟨0, 6, 7, 15⟩] ⟨0, 6, 11, 19⟩ [] ht rfl (fun z hz => by rcases List.mem_cons.mp hz with rfl | hz; exact ⟨by decide, _, cl_RL_15, x_no_31⟩; exact nomatch hz) rfl (by decide) cl_RL_19 x_ca_3 q1 q2 q3 ?_
      refine lv_astore_n (lv' := [(3, .ref q), (0, .ref (ad 0 0)), (1, .int n1), (2, .int n2)]) hx hb dL_begin_11 rfl hl (by decide) rfl (fun ls hl => ?_)
      refine lv_bipush (v := (-103)) hx hb dL_begin_12 (by decide) ?_
      exact w_iret X hw rfl hr rfl hlk (Nat.le_of_ble_eq_true rfl) (Nat.le_of_ble_eq_true rfl) hK0 (by rw [wv, hk]; rfl) (wd_n (by rw [hk]; decide)) dL_begin_14
  exact w_iret X hw rfl hr rfl hlk (Nat.le_of_ble_eq_true rfl) (Nat.le_of_ble_eq_true rfl) hK (wv_0 h0) (wd_0 h0) dL_begin_6
set_option maxHeartbeats 4000000 in
set_option maxRecDepth 100000 in
theorem cw_answer : Cond.static yL_answer ∈ gwl ∧ Cond.codeWith yL_answer cL_answer 4 (some .int) [(0, 6, 7, 15), (0, 6, 11, 17), (0, 6, 15, 19)] ∈ gwl := ⟨gwl_of (by decide +kernel) rfl, gwl_of (by decide +kernel) rfl⟩
set_option maxHeartbeats 4000000 in
set_option maxRecDepth 100000 in
theorem c_w_answer (l : Launch) (hst : l.stackTraces = false) (G : gG) (C : gCT) (ad : gAd) (n1 n2 : Int32) (hI : gInv C) : gMwi l yL_answer cL_answer 4 (some .int) [(0, 6, 7, 15), (0, 6, 11, 17), (0, 6, 15, 19)] (gRm 11 244 4 2120) G [.ref (ad 0 0), .int n1, .int n2] (gLvO C) ad (gF G C ad) (gYi G ad (wv (m_answer C n1 n2)) (wd C (m_answer C n1 n2))) := by
  refine w_met (own := RL) (by decide) rfl (Nat.le_of_ble_eq_true rfl) ?_
  intro p e s m below meth c ls X hw hr hlk ht hl
  have hx := X.1.1; have hb := X.1.2.1; have hml := X.1.2.2.1; have hown := X.1.2.2.2.1; have hts := X.1.2.2.2.2
  have hT := hI.top; have hRs := hI.runs; have hK0 : gAdK ad ad := ⟨rfl, fun _ _ => rfl⟩
  have hl : lv_has ls 4 [(0, .ref (ad 0 0)), (1, .int n1), (2, .int n2)] := hl
  refine lv_aload_n hx hb dL_answer_0 rfl (lv_at hl 0 rfl) ?_
  refine lv_iload_n hx hb dL_answer_1 rfl (lv_at hl 1 rfl) ?_
  refine lv_iload_n hx hb dL_answer_2 rfl (lv_at hl 2 rfl) ?_
  refine x_zi X hw (x_runV X (c_m_answer l hst G _ _ _ hI ad _) cy_X5_answer ml_RL_44 ⟨(Nat.le_of_ble_eq_true rfl), (Nat.le_of_ble_eq_true rfl)⟩ gP.blind (g_recv X hw 0 0 hT.1 rfl rfl) (gP_call X hw _) rfl hl.1 rfl (Nat.le_of_ble_eq_true rfl) dL_answer_3 ⟨(Nat.le_of_ble_eq_true rfl), (Nat.le_of_ble_eq_true rfl)⟩) (fun E ce q H locs hE hw q1 q2 q3 => ?_) (fun H locs ad1 h0 hK hw => ?_)
  · rcases hE with ⟨hk, rfl⟩ | ⟨hk, rfl⟩ | ⟨hk, rfl⟩
    · refine w_catch X [] ⟨0, 6, 7, 15⟩ [⟨0, 6, 11, 17⟩, ⟨0, 6, 15, 19⟩] ht rfl (fun _ hz => nomatch hz) rfl (by decide) cl_RL_15 x_ca_1 q1 q2 q3 ?_
      refine lv_astore_n (lv' := [(3, .ref q), (0, .ref (ad 0 0)), (1, .int n1), (2, .int n2)]) hx hb dL_answer_7 rfl hl (by decide) rfl (fun ls hl => ?_)
      refine lv_bipush (v := (-101)) hx hb dL_answer_8 (by decide) ?_
      exact w_iret X hw rfl hr rfl hlk (Nat.le_of_ble_eq_true rfl) (Nat.le_of_ble_eq_true rfl) hK0 (by rw [wv, hk]; rfl) (wd_n (by rw [hk]; decide)) dL_answer_10
    · refine w_catch X [⟨0, 6, 7, 15⟩] ⟨0, 6, 11, 17⟩ [⟨0, 6, 15, 19⟩] ht rfl (fun z hz => by rcases List.mem_cons.mp hz with rfl | hz; exact ⟨by decide, _, cl_RL_15, x_no_21⟩; exact nomatch hz) rfl (by decide) cl_RL_17 x_ca_2 q1 q2 q3 ?_
      refine lv_astore_n (lv' := [(3, .ref q), (0, .ref (ad 0 0)), (1, .int n1), (2, .int n2)]) hx hb dL_answer_11 rfl hl (by decide) rfl (fun ls hl => ?_)
      refine lv_bipush (v := (-102)) hx hb dL_answer_12 (by decide) ?_
      exact w_iret X hw rfl hr rfl hlk (Nat.le_of_ble_eq_true rfl) (Nat.le_of_ble_eq_true rfl) hK0 (by rw [wv, hk]; rfl) (wd_n (by rw [hk]; decide)) dL_answer_14
    · refine w_catch X [⟨0, 6, 7, 15⟩, ⟨0, 6, 11, 17⟩] ⟨0, 6, 15, 19⟩ [] ht rfl (fun z hz => by rcases List.mem_cons.mp hz with rfl | hz; exact ⟨by decide, _, cl_RL_15, x_no_31⟩; rcases List.mem_cons.mp hz with rfl | hz; exact ⟨by decide, _, cl_RL_17, x_no_32⟩; exact nomatch hz) rfl (by decide) cl_RL_19 x_ca_3 q1 q2 q3 ?_
      refine lv_astore_n (lv' := [(3, .ref q), (0, .ref (ad 0 0)), (1, .int n1), (2, .int n2)]) hx hb dL_answer_15 rfl hl (by decide) rfl (fun ls hl => ?_)
      refine lv_bipush (v := (-103)) hx hb dL_answer_16 (by decide) ?_
      exact w_iret X hw rfl hr rfl hlk (Nat.le_of_ble_eq_true rfl) (Nat.le_of_ble_eq_true rfl) hK0 (by rw [wv, hk]; rfl) (wd_n (by rw [hk]; decide)) dL_answer_18
  exact w_iret X hw rfl hr rfl hlk (Nat.le_of_ble_eq_true rfl) (Nat.le_of_ble_eq_true rfl) hK (wv_0 h0) (wd_0 h0) dL_answer_6
theorem m_save_ne2 (C : gCT) (n1 : Int32) : (m_save C n1).1 ≠ 2 := ne_ite (ne_ite (by decide : (0 : Nat) ≠ 2) (by decide : (3 : Nat) ≠ 2)) ((m_runAt_ne C n1).1)
set_option maxHeartbeats 4000000 in
set_option maxRecDepth 100000 in
theorem cw_save : Cond.static yL_save ∈ gwl ∧ Cond.codeWith yL_save cL_save 3 (some .int) [(0, 5, 8, 15), (0, 5, 12, 19)] ∈ gwl := ⟨gwl_of (by decide +kernel) rfl, gwl_of (by decide +kernel) rfl⟩
set_option maxHeartbeats 4000000 in
set_option maxRecDepth 100000 in
theorem c_w_save (l : Launch) (hst : l.stackTraces = false) (G : gG) (C : gCT) (ad : gAd) (n1 : Int32) (hI : gInv C) : gMwi l yL_save cL_save 3 (some .int) [(0, 5, 8, 15), (0, 5, 12, 19)] (gRm 8 125 2 12) G [.ref (ad 0 0), .int n1] (gLvO C) ad (gF G C ad) (gYi G ad (wvv (m_save C n1)) (wd C (m_save C n1))) := by
  refine w_met (own := RL) (by decide) rfl (Nat.le_of_ble_eq_true rfl) ?_
  intro p e s m below meth c ls X hw hr hlk ht hl
  have hx := X.1.1; have hb := X.1.2.1; have hml := X.1.2.2.1; have hown := X.1.2.2.2.1; have hts := X.1.2.2.2.2
  have hT := hI.top; have hRs := hI.runs; have hK0 : gAdK ad ad := ⟨rfl, fun _ _ => rfl⟩
  have hl : lv_has ls 3 [(0, .ref (ad 0 0)), (1, .int n1)] := hl
  refine lv_aload_n hx hb dL_save_0 rfl (lv_at hl 0 rfl) ?_
  refine lv_iload_n hx hb dL_save_1 rfl (lv_at hl 1 rfl) ?_
  refine x_rv X hw (x_runV X (c_m_save l hst G _ _ _ _ _ _ hT hRs _) cy_X5_save ml_RL_47 ⟨(Nat.le_of_ble_eq_true rfl), (Nat.le_of_ble_eq_true rfl)⟩ gP.blind (g_recv X hw 0 0 hT.1 rfl rfl) (gP_call X hw _) rfl hl.1 rfl (Nat.le_of_ble_eq_true rfl) dL_save_2 ⟨(Nat.le_of_ble_eq_true rfl), (Nat.le_of_ble_eq_true rfl)⟩) (fun E ce q H locs hE hw q1 q2 q3 => ?_) (fun H locs h0 hw => ?_)
  · rcases hE with ⟨hk, rfl⟩ | ⟨hk, rfl⟩ | ⟨hk, rfl⟩
    · refine w_catch X [] ⟨0, 5, 8, 15⟩ [⟨0, 5, 12, 19⟩] ht rfl (fun _ hz => nomatch hz) rfl (by decide) cl_RL_15 x_ca_1 q1 q2 q3 ?_
      refine lv_astore_n (lv' := [(2, .ref q), (0, .ref (ad 0 0)), (1, .int n1)]) hx hb dL_save_8 rfl hl (by decide) rfl (fun ls hl => ?_)
      refine lv_bipush (v := (-101)) hx hb dL_save_9 (by decide) ?_
      exact w_iret X hw rfl hr rfl hlk (Nat.le_of_ble_eq_true rfl) (Nat.le_of_ble_eq_true rfl) hK0 (by rw [wvv, hk]; rfl) (wd_n (by rw [hk]; decide)) dL_save_11
    · exact absurd hk (m_save_ne2 _ _)
    · refine w_catch X [⟨0, 5, 8, 15⟩] ⟨0, 5, 12, 19⟩ [] ht rfl (fun z hz => by rcases List.mem_cons.mp hz with rfl | hz; exact ⟨by decide, _, cl_RL_15, x_no_31⟩; exact nomatch hz) rfl (by decide) cl_RL_19 x_ca_3 q1 q2 q3 ?_
      refine lv_astore_n (lv' := [(2, .ref q), (0, .ref (ad 0 0)), (1, .int n1)]) hx hb dL_save_12 rfl hl (by decide) rfl (fun ls hl => ?_)
      refine lv_bipush (v := (-103)) hx hb dL_save_13 (by decide) ?_
      exact w_iret X hw rfl hr rfl hlk (Nat.le_of_ble_eq_true rfl) (Nat.le_of_ble_eq_true rfl) hK0 (by rw [wvv, hk]; rfl) (wd_n (by rw [hk]; decide)) dL_save_15
  refine lv_goto (tgt := 16) hx hb dL_save_5 (by decide) ?_
  refine lv_iconst (v := 0) hx hb dL_save_16 (by decide) ?_
  exact w_iret X hw ((m_save_str C n1).lv.symm) hr rfl hlk (Nat.le_of_ble_eq_true rfl) (Nat.le_of_ble_eq_true rfl) hK0 (wvv_0 h0) (wd_0 h0) dL_save_17
theorem m_wake_ne2 (C : gCT) (n1 : Int32) : (m_wake C n1).1 ≠ 2 := ne_ite (ne_ite (ne_ite (by decide : (0 : Nat) ≠ 2) (by decide : (0 : Nat) ≠ 2)) (by decide : (3 : Nat) ≠ 2)) ((m_runAt_ne C n1).1)
set_option maxHeartbeats 4000000 in
set_option maxRecDepth 100000 in
theorem cw_wake : Cond.static yL_wake ∈ gwl ∧ Cond.codeWith yL_wake cL_wake 3 (some .int) [(0, 13, 14, 15), (0, 13, 18, 19)] ∈ gwl := ⟨gwl_of (by decide +kernel) rfl, gwl_of (by decide +kernel) rfl⟩
set_option maxHeartbeats 4000000 in
set_option maxRecDepth 100000 in
theorem c_w_wake (l : Launch) (hst : l.stackTraces = false) (G : gG) (C : gCT) (ad : gAd) (n1 : Int32) (hI : gInv C) : gMwi l yL_wake cL_wake 3 (some .int) [(0, 13, 14, 15), (0, 13, 18, 19)] (gRm 9 203 2 12) G [.ref (ad 0 0), .int n1] (gLvO C) ad (gF G C ad) (gYi G ad (wvw (m_wake C n1)) (wd C (m_wake C n1))) := by
  refine w_met (own := RL) (by decide) rfl (Nat.le_of_ble_eq_true rfl) ?_
  intro p e s m below meth c ls X hw hr hlk ht hl
  have hx := X.1.1; have hb := X.1.2.1; have hml := X.1.2.2.1; have hown := X.1.2.2.2.1; have hts := X.1.2.2.2.2
  have hT := hI.top; have hRs := hI.runs; have hK0 : gAdK ad ad := ⟨rfl, fun _ _ => rfl⟩
  have hl : lv_has ls 3 [(0, .ref (ad 0 0)), (1, .int n1)] := hl
  refine lv_aload_n hx hb dL_wake_0 rfl (lv_at hl 0 rfl) ?_
  refine lv_iload_n hx hb dL_wake_1 rfl (lv_at hl 1 rfl) ?_
  refine x_ri X hw (x_runV X (c_m_wake l hst G _ _ _ _ _ _ hT hRs _) cy_X5_wake ml_RL_51 ⟨(Nat.le_of_ble_eq_true rfl), (Nat.le_of_ble_eq_true rfl)⟩ gP.blind (g_recv X hw 0 0 hT.1 rfl rfl) (gP_call X hw _) rfl hl.1 rfl (Nat.le_of_ble_eq_true rfl) dL_wake_2 ⟨(Nat.le_of_ble_eq_true rfl), (Nat.le_of_ble_eq_true rfl)⟩) (fun E ce q H locs hE hw q1 q2 q3 => ?_) (fun H locs h0 hw => ?_)
  · rcases hE with ⟨hk, rfl⟩ | ⟨hk, rfl⟩ | ⟨hk, rfl⟩
    · refine w_catch X [] ⟨0, 13, 14, 15⟩ [⟨0, 13, 18, 19⟩] ht rfl (fun _ hz => nomatch hz) rfl (by decide) cl_RL_15 x_ca_1 q1 q2 q3 ?_
      refine lv_astore_n (lv' := [(2, .ref q), (0, .ref (ad 0 0)), (1, .int n1)]) hx hb dL_wake_14 rfl hl (by decide) rfl (fun ls hl => ?_)
      refine lv_bipush (v := (-101)) hx hb dL_wake_15 (by decide) ?_
      exact w_iret X hw rfl hr rfl hlk (Nat.le_of_ble_eq_true rfl) (Nat.le_of_ble_eq_true rfl) hK0 (by rw [wvw, hk]; rfl) (wd_n (by rw [hk]; decide)) dL_wake_17
    · exact absurd hk (m_wake_ne2 _ _)
    · refine w_catch X [⟨0, 13, 14, 15⟩] ⟨0, 13, 18, 19⟩ [] ht rfl (fun z hz => by rcases List.mem_cons.mp hz with rfl | hz; exact ⟨by decide, _, cl_RL_15, x_no_31⟩; exact nomatch hz) rfl (by decide) cl_RL_19 x_ca_3 q1 q2 q3 ?_
      refine lv_astore_n (lv' := [(2, .ref q), (0, .ref (ad 0 0)), (1, .int n1)]) hx hb dL_wake_18 rfl hl (by decide) rfl (fun ls hl => ?_)
      refine lv_bipush (v := (-103)) hx hb dL_wake_19 (by decide) ?_
      exact w_iret X hw rfl hr rfl hlk (Nat.le_of_ble_eq_true rfl) (Nat.le_of_ble_eq_true rfl) hK0 (by rw [wvw, hk]; rfl) (wd_n (by rw [hk]; decide)) dL_wake_21
  refine lv_if_eq (tgt := 12) hx hb dL_wake_5 (by decide) (fun hz => ?_) (fun hz => ?_)
  · refine lv_iconst (v := 0) hx hb dL_wake_12 (by decide) ?_
    exact w_iret X hw ((m_wake_inv hI).2.symm) hr rfl hlk (Nat.le_of_ble_eq_true rfl) (Nat.le_of_ble_eq_true rfl) hK0 ((if_pos h0).trans (if_pos hz)) (wd_0 h0) dL_wake_13
  · refine lv_iconst (v := 1) hx hb dL_wake_8 (by decide) ?_
    refine lv_goto (tgt := 13) hx hb dL_wake_9 (by decide) ?_
    exact w_iret X hw ((m_wake_inv hI).2.symm) hr rfl hlk (Nat.le_of_ble_eq_true rfl) (Nat.le_of_ble_eq_true rfl) hK0 ((if_pos h0).trans (if_neg hz)) (wd_0 h0) dL_wake_13

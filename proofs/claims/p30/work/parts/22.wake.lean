theorem m_so_top {lv : gLv} {C : gCT} {r : Nat} (hT : gTop lv C) : gTop lv (m_startOver C r) := hT.cong (m_startOver_k C r (by decide) (by decide) (by decide) (by decide) (by decide) (by decide))
theorem m_so_run {lv : gLv} {C : gCT} {r cnt cap : Nat} (hR : gRun lv C r cnt cap) : gRun lv (m_startOver C r) r cnt cap := hR.cong (m_startOver_k C r (by decide) (by decide) (by decide) (by decide) (by decide) (by decide)) (m_startOver_k C r (by decide) (by decide) (by decide) (by decide) (by decide) (by decide))
theorem m_so_code {lv : gLv} {C : gCT} {r : Nat} (hT : gTop lv C) (hf4 : (C 11 r 6).toNatClampNeg < 4) : gCode lv (m_startOver C r 11 r 7).toNatClampNeg := by
  have hF := hT.2.2.2.2.2.2 _ hf4
  have hv := hF.v6
  rw [(m_startOver_11 C r).2, nI_clamp (by omega)]
  exact hF.2.2.2.1
def m_wake (C : gCT) (n1 : Int32) : Nat × Int32 × gCT :=
  if (m_runAt C n1) = 0 then (
    let x2 : Int32 := C 11 n1.toNatClampNeg 4;
    if x2 = 1 then (
      let x4 : Int32 := (m_isOutdated C n1.toNatClampNeg).1;
      if x4 = 0 then (
        let C8 : gCT := cs C 11 n1.toNatClampNeg 4 0;
        (0, 0, C8)
      ) else (
        let C6 : gCT := m_startOver C n1.toNatClampNeg;
        let C7 : gCT := m_go C6 n1.toNatClampNeg;
        (0, 1, C7)
      )
    ) else (
      (3, 0, C)
    )
  ) else ((m_runAt C n1), 0, C)
set_option maxHeartbeats 4000000 in
set_option maxRecDepth 100000 in
theorem c_m_wake (l : Launch) (hst : l.stackTraces = false) (G : gG) (lv : gLv) (ad : gAd) (C : gCT) (n1 : Int32) (rc bcap : Nat) (hT : gTop lv C) (hRs : gRuns lv C rc bcap) : gMxi l yX5_wake cX5_wake 3 (some .boolean) (gRm 8 181 2 12) G [.ref (ad 0 0), .int n1] lv ad C (m_wake C n1) := by
  refine x_met (own := RX5) (XC := fun sz => gXC G (gA lv ad sz) lv ad (gF G C ad) _) (by decide) rfl (Nat.le_of_ble_eq_true rfl) ?_
  intro p e s m below meth c ls X hw hr hlk ht hl
  have hx := X.1.1; have hb := X.1.2.1; have hml := X.1.2.2.1; have hown := X.1.2.2.2.1; have hts := X.1.2.2.2.2
  have hl : lv_has ls 3 [(0, .ref (ad 0 0)), (1, .int n1)] := hl
  refine lv_aload_n hx hb dX5_wake_0 rfl (lv_at hl 0 rfl) ?_
  refine lv_iload_n hx hb dX5_wake_1 rfl (lv_at hl 1 rfl) ?_
  refine x_rr X hw (x_runV X (c_m_runAt l hst G lv ad _ _ _ _ hT hRs _) cy_X5_runAt ml_RX5_154 ⟨(Nat.le_of_ble_eq_true rfl), (Nat.le_of_ble_eq_true rfl)⟩ gP.blind (g_recv X hw 0 _ (hT.1) rfl rfl) (gP_call X hw _) rfl hl.1 rfl (Nat.le_of_ble_eq_true rfl) dX5_wake_2 ⟨(Nat.le_of_ble_eq_true rfl), (Nat.le_of_ble_eq_true rfl)⟩) (fun E ce q H locs hE hw q1 q2 q3 => ?_) (fun H locs h1 hw => ?_)
  · exact x_on X hw hE ht hlk q1 q2 q3 (Nat.le_of_ble_eq_true rfl) (Nat.le_of_ble_eq_true rfl) (congrArg Prod.fst ((if_neg (gExc_ne hE)).trans rfl))
  obtain ⟨cnt, cap, hR, hM, hf4, hC⟩ := hRs.2.2 _ (m_runAt_lt hRs h1)
  refine lv_astore_n (lv' := [(2, .ref (ad 11 n1.toNatClampNeg)), (0, .ref (ad 0 0)), (1, .int n1)]) hx hb dX5_wake_5 rfl hl (by decide) rfl (fun ls hl => ?_)
  refine lv_aload_n hx hb dX5_wake_6 rfl (lv_at hl 0 rfl) ?_
  refine r_get X hw 11 _ 9 (hR.2.1) rfl rfl k_X4 (by decide) fl_RX5_160 dX5_wake_7 ?_
  refine lv_topi (fun x2 ex2 => ?_)
  refine lv_iconst (v := 1) hx hb dX5_wake_10 (by decide) ?_
  refine lv_icmp_eq (tgt := 24) hx hb dX5_wake_11 (by decide) (fun h3 => ?_) (fun h3 => ?_)
  · refine lv_aload_n hx hb dX5_wake_24 rfl (lv_at hl 1 rfl) ?_
    refine lv_aload_n hx hb dX5_wake_25 rfl (lv_at hl 0 rfl) ?_
    refine r_rix X hw (r_runV X (c_m_isOutdated_ro l G lv ad _ _ _ _ hT hR hM hf4 hC _) cy_X5_isOutdated ml_RX5_196 ⟨(Nat.le_of_ble_eq_true rfl), (Nat.le_of_ble_eq_true rfl)⟩ gP.blind (g_recv X hw 0 _ (hT.1) rfl rfl) (gP_call X hw _) rfl hl.1 rfl (Nat.le_of_ble_eq_true rfl) dX5_wake_26 ⟨(Nat.le_of_ble_eq_true rfl), (Nat.le_of_ble_eq_true rfl)⟩) (fun H locs hw => ?_)
    refine lv_topi (fun x4 ex4 => ?_)
    refine lv_if_ne (tgt := 39) hx hb dX5_wake_29 (by decide) (fun h5 => ?_) (fun h5 => ?_)
    · refine lv_aload_n hx hb dX5_wake_39 rfl (lv_at hl 1 rfl) ?_
      refine lv_aload_n hx hb dX5_wake_40 rfl (lv_at hl 0 rfl) ?_
      refine r_rvx X hw (r_runV X (c_m_startOver l G lv ad _ _ _ _ hT hR hM hf4 hC _) cy_X5_startOver ml_RX5_147 ⟨(Nat.le_of_ble_eq_true rfl), (Nat.le_of_ble_eq_true rfl)⟩ gP.blind (g_recv X hw 0 _ (hT.1) rfl rfl) (gP_call X hw _) rfl hl.1 rfl (Nat.le_of_ble_eq_true rfl) dX5_wake_41 ⟨(Nat.le_of_ble_eq_true rfl), (Nat.le_of_ble_eq_true rfl)⟩) (fun H locs hw => ?_)
      subst ex4 ex2
      have hT' := m_so_top (r := n1.toNatClampNeg) hT; have hR' := m_so_run hR; have hC' := m_so_code hT hf4
      have hf4' : (m_startOver C n1.toNatClampNeg 11 n1.toNatClampNeg 6).toNatClampNeg < 4 := by rw [(m_startOver_11 _ _).1]; exact hf4
      refine lv_aload_n hx hb dX5_wake_44 rfl (lv_at hl 1 rfl) ?_
      refine lv_aload_n hx hb dX5_wake_45 rfl (lv_at hl 0 rfl) ?_
      refine r_rvx X hw (r_runV X (c_m_go l G lv ad _ _ _ _ hT' hR' hM hf4' hC' _) cy_X5_goOn ml_RX5_151 ⟨(Nat.le_of_ble_eq_true rfl), (Nat.le_of_ble_eq_true rfl)⟩ gP.blind (g_recv X hw 0 _ (hT.1) rfl rfl) (gP_call X hw _) rfl hl.1 rfl (Nat.le_of_ble_eq_true rfl) dX5_wake_46 ⟨(Nat.le_of_ble_eq_true rfl), (Nat.le_of_ble_eq_true rfl)⟩) (fun H locs hw => ?_)
      refine lv_iconst (v := 1) hx hb dX5_wake_49 (by decide) ?_
      exact x_iret X hw hr nar_b1 hlk (Nat.le_of_ble_eq_true rfl) (Nat.le_of_ble_eq_true rfl) ((if_pos h1).trans ((if_pos h3).trans ((if_neg h5).trans rfl))) dX5_wake_50
    · refine lv_aload_n hx hb dX5_wake_32 rfl (lv_at hl 0 rfl) ?_
      refine lv_iconst (v := 0) hx hb dX5_wake_33 (by decide) ?_
      refine s_put X hw 11 _ 9 4 (hR.2.1) rfl rfl k_X4 (by decide) (Nat.le_of_ble_eq_true rfl) fl_RX5_160 rfl rfl dX5_wake_34 (fun H locs hw => ?_)
      refine lv_iconst (v := 0) hx hb dX5_wake_37 (by decide) ?_
      subst ex4 ex2
      exact x_iret X hw hr nar_b0 hlk (Nat.le_of_ble_eq_true rfl) (Nat.le_of_ble_eq_true rfl) ((if_pos h1).trans ((if_pos h3).trans ((if_pos h5).trans rfl))) dX5_wake_38
  · subst ex2
    exact r_throw X hst hw 3 (Or.inr (Or.inr ⟨rfl, rfl⟩)) (by decide) cl_RX5_77 ini_IllegalStateException sx_194 x_at_3 x_gd_3 hl.1 dX5_wake_14 dX5_wake_17 dX5_wake_18 dX5_wake_20 dX5_wake_23 ht (Nat.le_of_ble_eq_true rfl) (Nat.le_of_ble_eq_true rfl) (Nat.le_of_ble_eq_true rfl) (Nat.le_of_ble_eq_true rfl) hlk (Nat.le_of_ble_eq_true rfl) (Nat.le_of_ble_eq_true rfl) (congrArg Prod.fst ((if_pos h1).trans ((if_neg h3).trans rfl)))

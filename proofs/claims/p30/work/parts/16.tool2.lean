def m_setFuel (C : gCT) (n1 n2 : Int32) : Nat × Int32 × gCT :=
  if (m_formAt C n1) = 0 then (
    let x2 : Int32 := m_isWithin n2 1 200;
    if x2 = 0 then (
      (2, 0, C)
    ) else (
      let x4 : Int32 := C 4 n1.toNatClampNeg 1;
      let C5 : gCT := cs C 4 n1.toNatClampNeg 1 n2;
      (0, x4, C5)
    )
  ) else ((m_formAt C n1), 0, C)
set_option maxHeartbeats 4000000 in
set_option maxRecDepth 100000 in
theorem c_m_setFuel (l : Launch) (hst : l.stackTraces = false) (G : gG) (lv : gLv) (ad : gAd) (C : gCT) (n1 n2 : Int32) (hT : gTop lv C) : gMxi l yX5_setFuel cX5_setFuel 5 (some .int) (gRm 7 103 2 12) G [.ref (ad 0 0), .int n1, .int n2] lv ad C (m_setFuel C n1 n2) := by
  refine x_met (own := RX5) (XC := fun sz => gXC G (gA lv ad sz) lv ad (gF G C ad) _) (by decide) rfl (Nat.le_of_ble_eq_true rfl) ?_
  intro p e s m below meth c ls X hw hr hlk ht hl
  have hx := X.1.1; have hb := X.1.2.1; have hml := X.1.2.2.1; have hown := X.1.2.2.2.1; have hts := X.1.2.2.2.2
  have hl : lv_has ls 5 [(0, .ref (ad 0 0)), (1, .int n1), (2, .int n2)] := hl
  refine lv_aload_n hx hb dX5_setFuel_0 rfl (lv_at hl 0 rfl) ?_
  refine lv_iload_n hx hb dX5_setFuel_1 rfl (lv_at hl 1 rfl) ?_
  refine x_rr X hw (x_runV X (c_m_formAt l hst G lv ad _ _ hT _) cy_X5_formAt ml_RX5_40 ⟨(Nat.le_of_ble_eq_true rfl), (Nat.le_of_ble_eq_true rfl)⟩ gP.blind (g_recv X hw 0 _ (hT.1) rfl rfl) (gP_call X hw _) rfl hl.1 rfl (Nat.le_of_ble_eq_true rfl) dX5_setFuel_2 ⟨(Nat.le_of_ble_eq_true rfl), (Nat.le_of_ble_eq_true rfl)⟩) (fun E ce q H locs hE hw q1 q2 q3 => ?_) (fun H locs h1 hw => ?_)
  · exact x_on X hw hE ht hlk q1 q2 q3 (Nat.le_of_ble_eq_true rfl) (Nat.le_of_ble_eq_true rfl) (congrArg Prod.fst ((if_neg (gExc_ne hE)).trans rfl))
  have hf := m_formAt_lt _ h1; have hF := hT.2.2.2.2.2.2 _ hf
  refine lv_astore_n (lv' := [(3, .ref (ad 4 n1.toNatClampNeg)), (0, .ref (ad 0 0)), (1, .int n1), (2, .int n2)]) hx hb dX5_setFuel_5 rfl hl (by decide) rfl (fun ls hl => ?_)
  refine lv_iload_n hx hb dX5_setFuel_6 rfl (lv_at hl 3 rfl) ?_
  refine lv_iconst (v := 1) hx hb dX5_setFuel_7 (by decide) ?_
  refine lv_sipush (v := 200) hx hb dX5_setFuel_8 (by decide) ?_
  refine r_rp (r_runS X (c_m_isWithin l n2 1 200) cy_X5_isWithin ml_RX5_44 ⟨(Nat.le_of_ble_eq_true rfl), (Nat.le_of_ble_eq_true rfl)⟩ gPc_blind (fun _ _ _ => ⟨rfl, trivial⟩) rfl hl.1 rfl (Nat.le_of_ble_eq_true rfl) dX5_setFuel_11 ⟨(Nat.le_of_ble_eq_true rfl), (Nat.le_of_ble_eq_true rfl)⟩) ?_
  refine lv_topi (fun x2 ex2 => ?_)
  refine lv_if_ne (tgt := 27) hx hb dX5_setFuel_14 (by decide) (fun h3 => ?_) (fun h3 => ?_)
  · refine lv_aload_n hx hb dX5_setFuel_27 rfl (lv_at hl 0 rfl) ?_
    refine r_get X hw 4 _ 3 (hF.1) rfl rfl k_X2 (by decide) fl_RX5_104 dX5_setFuel_28 ?_
    refine lv_topi (fun x4 ex4 => ?_)
    refine lv_istore (lv' := [(4, .int x4), (3, .ref (ad 4 n1.toNatClampNeg)), (0, .ref (ad 0 0)), (1, .int n1), (2, .int n2)]) hx hb dX5_setFuel_31 hl (by decide) rfl (fun ls hl => ?_)
    refine lv_aload_n hx hb dX5_setFuel_33 rfl (lv_at hl 1 rfl) ?_
    refine lv_iload_n hx hb dX5_setFuel_34 rfl (lv_at hl 4 rfl) ?_
    refine s_put X hw 4 _ 3 1 (hF.1) rfl rfl k_X2 (by decide) (Nat.le_of_ble_eq_true rfl) fl_RX5_104 rfl rfl dX5_setFuel_35 (fun H locs hw => ?_)
    refine lv_iload hx hb dX5_setFuel_38 (lv_at hl 0 rfl) ?_
    subst ex4 ex2
    exact x_iret X hw hr rfl hlk (Nat.le_of_ble_eq_true rfl) (Nat.le_of_ble_eq_true rfl) ((if_pos h1).trans ((if_neg h3).trans rfl)) dX5_setFuel_40
  · subst ex2
    exact r_throw X hst hw 2 (Or.inr (Or.inl ⟨rfl, rfl⟩)) (by decide) cl_RX5_48 ini_IllegalArgumentException sx_102 x_at_2 x_gd_2 hl.1 dX5_setFuel_17 dX5_setFuel_20 dX5_setFuel_21 dX5_setFuel_23 dX5_setFuel_26 ht (Nat.le_of_ble_eq_true rfl) (Nat.le_of_ble_eq_true rfl) (Nat.le_of_ble_eq_true rfl) (Nat.le_of_ble_eq_true rfl) hlk (Nat.le_of_ble_eq_true rfl) (Nat.le_of_ble_eq_true rfl) (congrArg Prod.fst ((if_pos h1).trans ((if_pos h3).trans rfl)))
def m_fund (C : gCT) (n1 n2 : Int32) : Nat × Int32 × gCT :=
  if (m_formAt C n1) = 0 then (
    let x2 : Int32 := m_isWithin n2 1 100000;
    if x2 = 0 then (
      (2, 0, C)
    ) else (
      let x4 : Int32 := C 4 n1.toNatClampNeg 2;
      let x5 : Int32 := x4 + n2;
      let C6 : gCT := cs C 4 n1.toNatClampNeg 2 x5;
      let x7 : Int32 := C6 4 n1.toNatClampNeg 2;
      (0, x7, C6)
    )
  ) else ((m_formAt C n1), 0, C)
set_option maxHeartbeats 4000000 in
set_option maxRecDepth 100000 in
theorem c_m_fund (l : Launch) (hst : l.stackTraces = false) (G : gG) (lv : gLv) (ad : gAd) (C : gCT) (n1 n2 : Int32) (hT : gTop lv C) : gMxi l yX5_fund cX5_fund 4 (some .int) (gRm 7 103 2 12) G [.ref (ad 0 0), .int n1, .int n2] lv ad C (m_fund C n1 n2) := by
  refine x_met (own := RX5) (XC := fun sz => gXC G (gA lv ad sz) lv ad (gF G C ad) _) (by decide) rfl (Nat.le_of_ble_eq_true rfl) ?_
  intro p e s m below meth c ls X hw hr hlk ht hl
  have hx := X.1.1; have hb := X.1.2.1; have hml := X.1.2.2.1; have hown := X.1.2.2.2.1; have hts := X.1.2.2.2.2
  have hl : lv_has ls 4 [(0, .ref (ad 0 0)), (1, .int n1), (2, .int n2)] := hl
  refine lv_aload_n hx hb dX5_fund_0 rfl (lv_at hl 0 rfl) ?_
  refine lv_iload_n hx hb dX5_fund_1 rfl (lv_at hl 1 rfl) ?_
  refine x_rr X hw (x_runV X (c_m_formAt l hst G lv ad _ _ hT _) cy_X5_formAt ml_RX5_40 ⟨(Nat.le_of_ble_eq_true rfl), (Nat.le_of_ble_eq_true rfl)⟩ gP.blind (g_recv X hw 0 _ (hT.1) rfl rfl) (gP_call X hw _) rfl hl.1 rfl (Nat.le_of_ble_eq_true rfl) dX5_fund_2 ⟨(Nat.le_of_ble_eq_true rfl), (Nat.le_of_ble_eq_true rfl)⟩) (fun E ce q H locs hE hw q1 q2 q3 => ?_) (fun H locs h1 hw => ?_)
  · exact x_on X hw hE ht hlk q1 q2 q3 (Nat.le_of_ble_eq_true rfl) (Nat.le_of_ble_eq_true rfl) (congrArg Prod.fst ((if_neg (gExc_ne hE)).trans rfl))
  have hf := m_formAt_lt _ h1; have hF := hT.2.2.2.2.2.2 _ hf
  refine lv_astore_n (lv' := [(3, .ref (ad 4 n1.toNatClampNeg)), (0, .ref (ad 0 0)), (1, .int n1), (2, .int n2)]) hx hb dX5_fund_5 rfl hl (by decide) rfl (fun ls hl => ?_)
  refine lv_iload_n hx hb dX5_fund_6 rfl (lv_at hl 3 rfl) ?_
  refine lv_iconst (v := 1) hx hb dX5_fund_7 (by decide) ?_
  refine lv_ldc (v := 100000) hx hb hown (hts _ lc_RX5_107) dX5_fund_8 ?_
  refine r_rp (r_runS X (c_m_isWithin l n2 1 100000) cy_X5_isWithin ml_RX5_44 ⟨(Nat.le_of_ble_eq_true rfl), (Nat.le_of_ble_eq_true rfl)⟩ gPc_blind (fun _ _ _ => ⟨rfl, trivial⟩) rfl hl.1 rfl (Nat.le_of_ble_eq_true rfl) dX5_fund_10 ⟨(Nat.le_of_ble_eq_true rfl), (Nat.le_of_ble_eq_true rfl)⟩) ?_
  refine lv_topi (fun x2 ex2 => ?_)
  refine lv_if_ne (tgt := 26) hx hb dX5_fund_13 (by decide) (fun h3 => ?_) (fun h3 => ?_)
  · refine lv_aload_n hx hb dX5_fund_26 rfl (lv_at hl 0 rfl) ?_
    refine lv_dup hx hb dX5_fund_27 rfl ?_
    refine r_get X hw 4 _ 4 (hF.1) rfl rfl k_X2 (by decide) fl_RX5_110 dX5_fund_28 ?_
    refine lv_topi (fun x4 ex4 => ?_)
    refine lv_iload_n hx hb dX5_fund_31 rfl (lv_at hl 3 rfl) ?_
    refine lv_iadd hx hb dX5_fund_32 ?_
    refine lv_topi (fun x5 ex5 => ?_)
    refine s_put X hw 4 _ 4 2 (hF.1) rfl rfl k_X2 (by decide) (Nat.le_of_ble_eq_true rfl) fl_RX5_110 rfl rfl dX5_fund_33 (fun H locs hw => ?_)
    refine lv_aload_n hx hb dX5_fund_36 rfl (lv_at hl 0 rfl) ?_
    refine r_get X hw 4 _ 4 (hF.1) rfl rfl k_X2 (by decide) fl_RX5_110 dX5_fund_37 ?_
    refine lv_topi (fun x7 ex7 => ?_)
    subst ex7 ex5 ex4 ex2
    exact x_iret X hw hr rfl hlk (Nat.le_of_ble_eq_true rfl) (Nat.le_of_ble_eq_true rfl) ((if_pos h1).trans ((if_neg h3).trans rfl)) dX5_fund_40
  · subst ex2
    exact r_throw X hst hw 2 (Or.inr (Or.inl ⟨rfl, rfl⟩)) (by decide) cl_RX5_48 ini_IllegalArgumentException sx_108 x_at_2 x_gd_2 hl.1 dX5_fund_16 dX5_fund_19 dX5_fund_20 dX5_fund_22 dX5_fund_25 ht (Nat.le_of_ble_eq_true rfl) (Nat.le_of_ble_eq_true rfl) (Nat.le_of_ble_eq_true rfl) (Nat.le_of_ble_eq_true rfl) hlk (Nat.le_of_ble_eq_true rfl) (Nat.le_of_ble_eq_true rfl) (congrArg Prod.fst ((if_pos h1).trans ((if_pos h3).trans rfl)))
def m_setQuota (C : gCT) (n1 n2 n3 : Int32) : Nat × Int32 × gCT :=
  if (m_formAt C n1) = 0 then (
    let x2 : Int32 := m_isWithin n2 0 3;
    if x2 = 0 then (
      (1, 0, C)
    ) else (
      let x4 : Int32 := m_isWithin n3 0 20;
      if x4 = 0 then (
        (2, 0, C)
      ) else (
        let x6 : Int32 := C 5 n1.toNatClampNeg n2.toNatClampNeg;
        let C7 : gCT := cs C 5 n1.toNatClampNeg n2.toNatClampNeg n3;
        (0, x6, C7)
      )
    )
  ) else ((m_formAt C n1), 0, C)
set_option maxHeartbeats 4000000 in
set_option maxRecDepth 100000 in
theorem c_m_setQuota (l : Launch) (hst : l.stackTraces = false) (G : gG) (lv : gLv) (ad : gAd) (C : gCT) (n1 n2 n3 : Int32) (hT : gTop lv C) : gMxi l yX5_setQuota cX5_setQuota 6 (some .int) (gRm 7 103 2 12) G [.ref (ad 0 0), .int n1, .int n2, .int n3] lv ad C (m_setQuota C n1 n2 n3) := by
  refine x_met (own := RX5) (XC := fun sz => gXC G (gA lv ad sz) lv ad (gF G C ad) _) (by decide) rfl (Nat.le_of_ble_eq_true rfl) ?_
  intro p e s m below meth c ls X hw hr hlk ht hl
  have hx := X.1.1; have hb := X.1.2.1; have hml := X.1.2.2.1; have hown := X.1.2.2.2.1; have hts := X.1.2.2.2.2
  have hl : lv_has ls 6 [(0, .ref (ad 0 0)), (1, .int n1), (2, .int n2), (3, .int n3)] := hl
  refine lv_aload_n hx hb dX5_setQuota_0 rfl (lv_at hl 0 rfl) ?_
  refine lv_iload_n hx hb dX5_setQuota_1 rfl (lv_at hl 1 rfl) ?_
  refine x_rr X hw (x_runV X (c_m_formAt l hst G lv ad _ _ hT _) cy_X5_formAt ml_RX5_40 ⟨(Nat.le_of_ble_eq_true rfl), (Nat.le_of_ble_eq_true rfl)⟩ gP.blind (g_recv X hw 0 _ (hT.1) rfl rfl) (gP_call X hw _) rfl hl.1 rfl (Nat.le_of_ble_eq_true rfl) dX5_setQuota_2 ⟨(Nat.le_of_ble_eq_true rfl), (Nat.le_of_ble_eq_true rfl)⟩) (fun E ce q H locs hE hw q1 q2 q3 => ?_) (fun H locs h1 hw => ?_)
  · exact x_on X hw hE ht hlk q1 q2 q3 (Nat.le_of_ble_eq_true rfl) (Nat.le_of_ble_eq_true rfl) (congrArg Prod.fst ((if_neg (gExc_ne hE)).trans rfl))
  have hf := m_formAt_lt _ h1; have hF := hT.2.2.2.2.2.2 _ hf
  refine lv_astore (lv' := [(4, .ref (ad 4 n1.toNatClampNeg)), (0, .ref (ad 0 0)), (1, .int n1), (2, .int n2), (3, .int n3)]) hx hb dX5_setQuota_5 hl (by decide) rfl (fun ls hl => ?_)
  refine lv_iload_n hx hb dX5_setQuota_7 rfl (lv_at hl 3 rfl) ?_
  refine lv_iconst (v := 0) hx hb dX5_setQuota_8 (by decide) ?_
  refine lv_iconst (v := 3) hx hb dX5_setQuota_9 (by decide) ?_
  refine r_rp (r_runS X (c_m_isWithin l n2 0 3) cy_X5_isWithin ml_RX5_44 ⟨(Nat.le_of_ble_eq_true rfl), (Nat.le_of_ble_eq_true rfl)⟩ gPc_blind (fun _ _ _ => ⟨rfl, trivial⟩) rfl hl.1 rfl (Nat.le_of_ble_eq_true rfl) dX5_setQuota_10 ⟨(Nat.le_of_ble_eq_true rfl), (Nat.le_of_ble_eq_true rfl)⟩) ?_
  refine lv_topi (fun x2 ex2 => ?_)
  refine lv_if_ne (tgt := 26) hx hb dX5_setQuota_13 (by decide) (fun h3 => ?_) (fun h3 => ?_)
  · have hq : ¬ m_isWithin n2 0 3 = 0 := by subst ex2; assumption
    refine lv_iload_n hx hb dX5_setQuota_26 rfl (lv_at hl 4 rfl) ?_
    refine lv_iconst (v := 0) hx hb dX5_setQuota_27 (by decide) ?_
    refine lv_bipush (v := 20) hx hb dX5_setQuota_28 (by decide) ?_
    refine r_rp (r_runS X (c_m_isWithin l n3 0 20) cy_X5_isWithin ml_RX5_44 ⟨(Nat.le_of_ble_eq_true rfl), (Nat.le_of_ble_eq_true rfl)⟩ gPc_blind (fun _ _ _ => ⟨rfl, trivial⟩) rfl hl.1 rfl (Nat.le_of_ble_eq_true rfl) dX5_setQuota_30 ⟨(Nat.le_of_ble_eq_true rfl), (Nat.le_of_ble_eq_true rfl)⟩) ?_
    refine lv_topi (fun x4 ex4 => ?_)
    refine lv_if_ne (tgt := 46) hx hb dX5_setQuota_33 (by decide) (fun h5 => ?_) (fun h5 => ?_)
    · refine lv_aload hx hb dX5_setQuota_46 (lv_at hl 0 rfl) ?_
      refine r_get X hw 4 _ 5 (hF.1) rfl rfl k_X2 (by decide) fl_RX5_120 dX5_setQuota_48 ?_
      refine lv_iload_n hx hb dX5_setQuota_51 rfl (lv_at hl 3 rfl) ?_
      refine r_iald X hw 5 _ (hF.2.1) rfl (by exact vp_in_w hq (by decide)) dX5_setQuota_52 ?_
      refine lv_topi (fun x6 ex6 => ?_)
      refine lv_istore (lv' := [(5, .int x6), (4, .ref (ad 4 n1.toNatClampNeg)), (0, .ref (ad 0 0)), (1, .int n1), (2, .int n2), (3, .int n3)]) hx hb dX5_setQuota_53 hl (by decide) rfl (fun ls hl => ?_)
      refine lv_aload hx hb dX5_setQuota_55 (lv_at hl 1 rfl) ?_
      refine r_get X hw 4 _ 5 (hF.1) rfl rfl k_X2 (by decide) fl_RX5_120 dX5_setQuota_57 ?_
      refine lv_iload_n hx hb dX5_setQuota_60 rfl (lv_at hl 4 rfl) ?_
      refine lv_iload_n hx hb dX5_setQuota_61 rfl (lv_at hl 5 rfl) ?_
      refine s_iast X hw 5 _ (hF.2.1) rfl (fun _ => rfl) (by exact vp_in_w hq (by decide)) dX5_setQuota_62 (fun H locs hw => ?_)
      refine lv_iload hx hb dX5_setQuota_63 (lv_at hl 0 rfl) ?_
      subst ex6 ex4 ex2
      exact x_iret X hw hr rfl hlk (Nat.le_of_ble_eq_true rfl) (Nat.le_of_ble_eq_true rfl) ((if_pos h1).trans ((if_neg h3).trans ((if_neg h5).trans rfl))) dX5_setQuota_65
    · subst ex4 ex2
      exact r_throw X hst hw 2 (Or.inr (Or.inl ⟨rfl, rfl⟩)) (by decide) cl_RX5_48 ini_IllegalArgumentException sx_118 x_at_2 x_gd_2 hl.1 dX5_setQuota_36 dX5_setQuota_39 dX5_setQuota_40 dX5_setQuota_42 dX5_setQuota_45 ht (Nat.le_of_ble_eq_true rfl) (Nat.le_of_ble_eq_true rfl) (Nat.le_of_ble_eq_true rfl) (Nat.le_of_ble_eq_true rfl) hlk (Nat.le_of_ble_eq_true rfl) (Nat.le_of_ble_eq_true rfl) (congrArg Prod.fst ((if_pos h1).trans ((if_neg h3).trans ((if_pos h5).trans rfl))))
  · subst ex2
    exact r_throw X hst hw 1 (Or.inl ⟨rfl, rfl⟩) (by decide) cl_RX5_113 ini_IndexOutOfBoundsException sx_115 x_at_1 x_gd_1 hl.1 dX5_setQuota_16 dX5_setQuota_19 dX5_setQuota_20 dX5_setQuota_22 dX5_setQuota_25 ht (Nat.le_of_ble_eq_true rfl) (Nat.le_of_ble_eq_true rfl) (Nat.le_of_ble_eq_true rfl) (Nat.le_of_ble_eq_true rfl) hlk (Nat.le_of_ble_eq_true rfl) (Nat.le_of_ble_eq_true rfl) (congrArg Prod.fst ((if_pos h1).trans ((if_pos h3).trans rfl)))
def m_setPrice (C : gCT) (n1 n2 : Int32) : Nat × Int32 × gCT :=
  let x1 : Int32 := m_isWithin n1 0 15;
  if x1 = 0 then (
    (1, 0, C)
  ) else (
    let x3 : Int32 := m_isWithin n2 0 1000;
    if x3 = 0 then (
      (2, 0, C)
    ) else (
      let x5 : Int32 := C 17 0 n1.toNatClampNeg;
      let C6 : gCT := cs C 17 0 n1.toNatClampNeg n2;
      (0, x5, C6)
    )
  )
set_option maxHeartbeats 4000000 in
set_option maxRecDepth 100000 in
theorem c_m_setPrice (l : Launch) (hst : l.stackTraces = false) (G : gG) (lv : gLv) (ad : gAd) (C : gCT) (n1 n2 : Int32) (hT : gTop lv C) : gMxi l yX5_setPrice cX5_setPrice 4 (some .int) (gRm 6 82 1 6) G [.ref (ad 0 0), .int n1, .int n2] lv ad C (m_setPrice C n1 n2) := by
  refine x_met (own := RX5) (XC := fun sz => gXC G (gA lv ad sz) lv ad (gF G C ad) _) (by decide) rfl (Nat.le_of_ble_eq_true rfl) ?_
  intro p e s m below meth c ls X hw hr hlk ht hl
  have hx := X.1.1; have hb := X.1.2.1; have hml := X.1.2.2.1; have hown := X.1.2.2.2.1; have hts := X.1.2.2.2.2
  have hl : lv_has ls 4 [(0, .ref (ad 0 0)), (1, .int n1), (2, .int n2)] := hl
  refine lv_iload_n hx hb dX5_setPrice_0 rfl (lv_at hl 1 rfl) ?_
  refine lv_iconst (v := 0) hx hb dX5_setPrice_1 (by decide) ?_
  refine lv_bipush (v := 15) hx hb dX5_setPrice_2 (by decide) ?_
  refine r_rp (r_runS X (c_m_isWithin l n1 0 15) cy_X5_isWithin ml_RX5_44 ⟨(Nat.le_of_ble_eq_true rfl), (Nat.le_of_ble_eq_true rfl)⟩ gPc_blind (fun _ _ _ => ⟨rfl, trivial⟩) rfl hl.1 rfl (Nat.le_of_ble_eq_true rfl) dX5_setPrice_4 ⟨(Nat.le_of_ble_eq_true rfl), (Nat.le_of_ble_eq_true rfl)⟩) ?_
  refine lv_topi (fun x1 ex1 => ?_)
  refine lv_if_ne (tgt := 20) hx hb dX5_setPrice_7 (by decide) (fun h2 => ?_) (fun h2 => ?_)
  · have hq : ¬ m_isWithin n1 0 15 = 0 := by subst ex1; assumption
    refine lv_iload_n hx hb dX5_setPrice_20 rfl (lv_at hl 2 rfl) ?_
    refine lv_iconst (v := 0) hx hb dX5_setPrice_21 (by decide) ?_
    refine lv_sipush (v := 1000) hx hb dX5_setPrice_22 (by decide) ?_
    refine r_rp (r_runS X (c_m_isWithin l n2 0 1000) cy_X5_isWithin ml_RX5_44 ⟨(Nat.le_of_ble_eq_true rfl), (Nat.le_of_ble_eq_true rfl)⟩ gPc_blind (fun _ _ _ => ⟨rfl, trivial⟩) rfl hl.1 rfl (Nat.le_of_ble_eq_true rfl) dX5_setPrice_25 ⟨(Nat.le_of_ble_eq_true rfl), (Nat.le_of_ble_eq_true rfl)⟩) ?_
    refine lv_topi (fun x3 ex3 => ?_)
    refine lv_if_ne (tgt := 41) hx hb dX5_setPrice_28 (by decide) (fun h4 => ?_) (fun h4 => ?_)
    · refine lv_aload_n hx hb dX5_setPrice_41 rfl (lv_at hl 0 rfl) ?_
      refine r_get X hw 0 _ 2 (hT.1) rfl rfl k_X5 (by decide) fl_RX5_22 dX5_setPrice_42 ?_
      refine lv_iload_n hx hb dX5_setPrice_45 rfl (lv_at hl 1 rfl) ?_
      refine r_iald X hw 17 _ (hT.2.2.1) rfl (by exact vp_in_w hq (by decide)) dX5_setPrice_46 ?_
      refine lv_topi (fun x5 ex5 => ?_)
      refine lv_istore_n (lv' := [(3, .int x5), (0, .ref (ad 0 0)), (1, .int n1), (2, .int n2)]) hx hb dX5_setPrice_47 rfl hl (by decide) rfl (fun ls hl => ?_)
      refine lv_aload_n hx hb dX5_setPrice_48 rfl (lv_at hl 1 rfl) ?_
      refine r_get X hw 0 _ 2 (hT.1) rfl rfl k_X5 (by decide) fl_RX5_22 dX5_setPrice_49 ?_
      refine lv_iload_n hx hb dX5_setPrice_52 rfl (lv_at hl 2 rfl) ?_
      refine lv_iload_n hx hb dX5_setPrice_53 rfl (lv_at hl 3 rfl) ?_
      refine s_iast X hw 17 _ (hT.2.2.1) rfl (fun _ => rfl) (by exact vp_in_w hq (by decide)) dX5_setPrice_54 (fun H locs hw => ?_)
      refine lv_iload_n hx hb dX5_setPrice_55 rfl (lv_at hl 0 rfl) ?_
      subst ex5 ex3 ex1
      exact x_iret X hw hr rfl hlk (Nat.le_of_ble_eq_true rfl) (Nat.le_of_ble_eq_true rfl) ((if_neg h2).trans ((if_neg h4).trans rfl)) dX5_setPrice_56
    · subst ex3 ex1
      exact r_throw X hst hw 2 (Or.inr (Or.inl ⟨rfl, rfl⟩)) (by decide) cl_RX5_48 ini_IllegalArgumentException sx_125 x_at_2 x_gd_2 hl.1 dX5_setPrice_31 dX5_setPrice_34 dX5_setPrice_35 dX5_setPrice_37 dX5_setPrice_40 ht (Nat.le_of_ble_eq_true rfl) (Nat.le_of_ble_eq_true rfl) (Nat.le_of_ble_eq_true rfl) (Nat.le_of_ble_eq_true rfl) hlk (Nat.le_of_ble_eq_true rfl) (Nat.le_of_ble_eq_true rfl) (congrArg Prod.fst ((if_neg h2).trans ((if_pos h4).trans rfl)))
  · subst ex1
    exact r_throw X hst hw 1 (Or.inl ⟨rfl, rfl⟩) (by decide) cl_RX5_113 ini_IndexOutOfBoundsException sx_123 x_at_1 x_gd_1 hl.1 dX5_setPrice_10 dX5_setPrice_13 dX5_setPrice_14 dX5_setPrice_16 dX5_setPrice_19 ht (Nat.le_of_ble_eq_true rfl) (Nat.le_of_ble_eq_true rfl) (Nat.le_of_ble_eq_true rfl) (Nat.le_of_ble_eq_true rfl) hlk (Nat.le_of_ble_eq_true rfl) (Nat.le_of_ble_eq_true rfl) (congrArg Prod.fst ((if_pos h2).trans rfl))
def m_reword (C : gCT) (n1 : Int32) : Nat × Int32 × gCT :=
  let x1 : Int32 := m_isWithin n1 0 15;
  if x1 = 0 then (
    (1, 0, C)
  ) else (
    let x3 : Int32 := C 18 0 n1.toNatClampNeg;
    let x4 : Int32 := x3 + 1;
    let C5 : gCT := cs C 18 0 n1.toNatClampNeg x4;
    let x6 : Int32 := C5 18 0 n1.toNatClampNeg;
    (0, x6, C5)
  )
set_option maxHeartbeats 4000000 in
set_option maxRecDepth 100000 in
theorem c_m_reword (l : Launch) (hst : l.stackTraces = false) (G : gG) (lv : gLv) (ad : gAd) (C : gCT) (n1 : Int32) (hT : gTop lv C) : gMxi l yX5_reword cX5_reword 2 (some .int) (gRm 6 82 1 6) G [.ref (ad 0 0), .int n1] lv ad C (m_reword C n1) := by
  refine x_met (own := RX5) (XC := fun sz => gXC G (gA lv ad sz) lv ad (gF G C ad) _) (by decide) rfl (Nat.le_of_ble_eq_true rfl) ?_
  intro p e s m below meth c ls X hw hr hlk ht hl
  have hx := X.1.1; have hb := X.1.2.1; have hml := X.1.2.2.1; have hown := X.1.2.2.2.1; have hts := X.1.2.2.2.2
  have hl : lv_has ls 2 [(0, .ref (ad 0 0)), (1, .int n1)] := hl
  refine lv_iload_n hx hb dX5_reword_0 rfl (lv_at hl 1 rfl) ?_
  refine lv_iconst (v := 0) hx hb dX5_reword_1 (by decide) ?_
  refine lv_bipush (v := 15) hx hb dX5_reword_2 (by decide) ?_
  refine r_rp (r_runS X (c_m_isWithin l n1 0 15) cy_X5_isWithin ml_RX5_44 ⟨(Nat.le_of_ble_eq_true rfl), (Nat.le_of_ble_eq_true rfl)⟩ gPc_blind (fun _ _ _ => ⟨rfl, trivial⟩) rfl hl.1 rfl (Nat.le_of_ble_eq_true rfl) dX5_reword_4 ⟨(Nat.le_of_ble_eq_true rfl), (Nat.le_of_ble_eq_true rfl)⟩) ?_
  refine lv_topi (fun x1 ex1 => ?_)
  refine lv_if_ne (tgt := 20) hx hb dX5_reword_7 (by decide) (fun h2 => ?_) (fun h2 => ?_)
  · have hq : ¬ m_isWithin n1 0 15 = 0 := by subst ex1; assumption
    refine lv_aload_n hx hb dX5_reword_20 rfl (lv_at hl 0 rfl) ?_
    refine r_get X hw 0 _ 3 (hT.1) rfl rfl k_X5 (by decide) fl_RX5_26 dX5_reword_21 ?_
    refine lv_iload_n hx hb dX5_reword_24 rfl (lv_at hl 1 rfl) ?_
    refine lv_dup2_11 hx hb dX5_reword_25 rfl rfl ?_
    refine r_iald X hw 18 _ (hT.2.2.2.1) rfl (by exact vp_in_w hq (by decide)) dX5_reword_26 ?_
    refine lv_topi (fun x3 ex3 => ?_)
    refine lv_iconst (v := 1) hx hb dX5_reword_27 (by decide) ?_
    refine lv_iadd hx hb dX5_reword_28 ?_
    refine lv_topi (fun x4 ex4 => ?_)
    refine s_iast X hw 18 _ (hT.2.2.2.1) rfl (fun _ => rfl) (by exact vp_in_w hq (by decide)) dX5_reword_29 (fun H locs hw => ?_)
    refine lv_aload_n hx hb dX5_reword_30 rfl (lv_at hl 0 rfl) ?_
    refine r_get X hw 0 _ 3 (hT.1) rfl rfl k_X5 (by decide) fl_RX5_26 dX5_reword_31 ?_
    refine lv_iload_n hx hb dX5_reword_34 rfl (lv_at hl 1 rfl) ?_
    refine r_iald X hw 18 _ (hT.2.2.2.1) rfl (by exact vp_in_w hq (by decide)) dX5_reword_35 ?_
    refine lv_topi (fun x6 ex6 => ?_)
    subst ex6 ex4 ex3 ex1
    exact x_iret X hw hr rfl hlk (Nat.le_of_ble_eq_true rfl) (Nat.le_of_ble_eq_true rfl) ((if_neg h2).trans rfl) dX5_reword_36
  · subst ex1
    exact r_throw X hst hw 1 (Or.inl ⟨rfl, rfl⟩) (by decide) cl_RX5_113 ini_IndexOutOfBoundsException sx_123 x_at_1 x_gd_1 hl.1 dX5_reword_10 dX5_reword_13 dX5_reword_14 dX5_reword_16 dX5_reword_19 ht (Nat.le_of_ble_eq_true rfl) (Nat.le_of_ble_eq_true rfl) (Nat.le_of_ble_eq_true rfl) (Nat.le_of_ble_eq_true rfl) hlk (Nat.le_of_ble_eq_true rfl) (Nat.le_of_ble_eq_true rfl) (congrArg Prod.fst ((if_pos h2).trans rfl))
def m_reward (C : gCT) (n1 : Int32) : Nat × Int32 × gCT :=
  let x1 : Int32 := m_isWithin n1 0 15;
  if x1 = 0 then (
    (1, 0, C)
  ) else (
    let x3 : Int32 := C 19 0 n1.toNatClampNeg;
    (0, x3, C)
  )
set_option maxHeartbeats 4000000 in
set_option maxRecDepth 100000 in
theorem c_m_reward (l : Launch) (hst : l.stackTraces = false) (G : gG) (lv : gLv) (ad : gAd) (C : gCT) (n1 : Int32) (hT : gTop lv C) : gMxi l yX5_reward cX5_reward 2 (some .int) (gRm 6 82 1 6) G [.ref (ad 0 0), .int n1] lv ad C (m_reward C n1) := by
  refine x_met (own := RX5) (XC := fun sz => gXC G (gA lv ad sz) lv ad (gF G C ad) _) (by decide) rfl (Nat.le_of_ble_eq_true rfl) ?_
  intro p e s m below meth c ls X hw hr hlk ht hl
  have hx := X.1.1; have hb := X.1.2.1; have hml := X.1.2.2.1; have hown := X.1.2.2.2.1; have hts := X.1.2.2.2.2
  have hl : lv_has ls 2 [(0, .ref (ad 0 0)), (1, .int n1)] := hl
  refine lv_iload_n hx hb dX5_reward_0 rfl (lv_at hl 1 rfl) ?_
  refine lv_iconst (v := 0) hx hb dX5_reward_1 (by decide) ?_
  refine lv_bipush (v := 15) hx hb dX5_reward_2 (by decide) ?_
  refine r_rp (r_runS X (c_m_isWithin l n1 0 15) cy_X5_isWithin ml_RX5_44 ⟨(Nat.le_of_ble_eq_true rfl), (Nat.le_of_ble_eq_true rfl)⟩ gPc_blind (fun _ _ _ => ⟨rfl, trivial⟩) rfl hl.1 rfl (Nat.le_of_ble_eq_true rfl) dX5_reward_4 ⟨(Nat.le_of_ble_eq_true rfl), (Nat.le_of_ble_eq_true rfl)⟩) ?_
  refine lv_topi (fun x1 ex1 => ?_)
  refine lv_if_ne (tgt := 20) hx hb dX5_reward_7 (by decide) (fun h2 => ?_) (fun h2 => ?_)
  · have hq : ¬ m_isWithin n1 0 15 = 0 := by subst ex1; assumption
    refine lv_aload_n hx hb dX5_reward_20 rfl (lv_at hl 0 rfl) ?_
    refine r_get X hw 0 _ 4 (hT.1) rfl rfl k_X5 (by decide) fl_RX5_29 dX5_reward_21 ?_
    refine lv_iload_n hx hb dX5_reward_24 rfl (lv_at hl 1 rfl) ?_
    refine r_iald X hw 19 _ (hT.2.2.2.2.1) rfl (by exact vp_in_w hq (by decide)) dX5_reward_25 ?_
    refine lv_topi (fun x3 ex3 => ?_)
    subst ex3 ex1
    exact x_iret X hw hr rfl hlk (Nat.le_of_ble_eq_true rfl) (Nat.le_of_ble_eq_true rfl) ((if_neg h2).trans rfl) dX5_reward_26
  · subst ex1
    exact r_throw X hst hw 1 (Or.inl ⟨rfl, rfl⟩) (by decide) cl_RX5_113 ini_IndexOutOfBoundsException sx_127 x_at_1 x_gd_1 hl.1 dX5_reward_10 dX5_reward_13 dX5_reward_14 dX5_reward_16 dX5_reward_19 ht (Nat.le_of_ble_eq_true rfl) (Nat.le_of_ble_eq_true rfl) (Nat.le_of_ble_eq_true rfl) (Nat.le_of_ble_eq_true rfl) hlk (Nat.le_of_ble_eq_true rfl) (Nat.le_of_ble_eq_true rfl) (congrArg Prod.fst ((if_pos h2).trans rfl))
def m_budget (C : gCT) (n1 : Int32) : Nat × Int32 × gCT :=
  if (m_formAt C n1) = 0 then (
    let x2 : Int32 := C 4 n1.toNatClampNeg 2;
    (0, x2, C)
  ) else ((m_formAt C n1), 0, C)
set_option maxHeartbeats 4000000 in
set_option maxRecDepth 100000 in
theorem c_m_budget (l : Launch) (hst : l.stackTraces = false) (G : gG) (lv : gLv) (ad : gAd) (C : gCT) (n1 : Int32) (hT : gTop lv C) : gMxi l yX5_budget cX5_budget 2 (some .int) (gRm 7 103 2 12) G [.ref (ad 0 0), .int n1] lv ad C (m_budget C n1) := by
  refine x_met (own := RX5) (XC := fun sz => gXC G (gA lv ad sz) lv ad (gF G C ad) _) (by decide) rfl (Nat.le_of_ble_eq_true rfl) ?_
  intro p e s m below meth c ls X hw hr hlk ht hl
  have hx := X.1.1; have hb := X.1.2.1; have hml := X.1.2.2.1; have hown := X.1.2.2.2.1; have hts := X.1.2.2.2.2
  have hl : lv_has ls 2 [(0, .ref (ad 0 0)), (1, .int n1)] := hl
  refine lv_aload_n hx hb dX5_budget_0 rfl (lv_at hl 0 rfl) ?_
  refine lv_iload_n hx hb dX5_budget_1 rfl (lv_at hl 1 rfl) ?_
  refine x_rr X hw (x_runV X (c_m_formAt l hst G lv ad _ _ hT _) cy_X5_formAt ml_RX5_40 ⟨(Nat.le_of_ble_eq_true rfl), (Nat.le_of_ble_eq_true rfl)⟩ gP.blind (g_recv X hw 0 _ (hT.1) rfl rfl) (gP_call X hw _) rfl hl.1 rfl (Nat.le_of_ble_eq_true rfl) dX5_budget_2 ⟨(Nat.le_of_ble_eq_true rfl), (Nat.le_of_ble_eq_true rfl)⟩) (fun E ce q H locs hE hw q1 q2 q3 => ?_) (fun H locs h1 hw => ?_)
  · exact x_on X hw hE ht hlk q1 q2 q3 (Nat.le_of_ble_eq_true rfl) (Nat.le_of_ble_eq_true rfl) (congrArg Prod.fst ((if_neg (gExc_ne hE)).trans rfl))
  have hf := m_formAt_lt _ h1; have hF := hT.2.2.2.2.2.2 _ hf
  refine r_get X hw 4 _ 4 (hF.1) rfl rfl k_X2 (by decide) fl_RX5_110 dX5_budget_5 ?_
  refine lv_topi (fun x2 ex2 => ?_)
  subst ex2
  exact x_iret X hw hr rfl hlk (Nat.le_of_ble_eq_true rfl) (Nat.le_of_ble_eq_true rfl) ((if_pos h1).trans rfl) dX5_budget_8
def m_repaid (C : gCT)  : Int32 × gCT :=
  let x1 : Int32 := C 0 0 0;
  (x1, C)
set_option maxHeartbeats 4000000 in
set_option maxRecDepth 100000 in
theorem c_m_repaid (l : Launch) (G : gG) (lv : gLv) (ad : gAd) (C : gCT)  (hT : gTop lv C) : gMi l yX5_repaid cX5_repaid 1 (some .int) (gRm 0 0 0 0) G [.ref (ad 0 0)] lv ad (gF G C ad) (gE (m_repaid C ).1 lv ad (gF G (m_repaid C ).2 ad)) := by
  refine r_met (own := RX5) (by decide) rfl (Nat.le_of_ble_eq_true rfl) ?_
  intro p e s m below meth c ls X hw hr hlk _ hl
  have hx := X.1.1; have hb := X.1.2.1; have hml := X.1.2.2.1; have hown := X.1.2.2.2.1; have hts := X.1.2.2.2.2
  have hl : lv_has ls 1 [(0, .ref (ad 0 0))] := hl
  refine lv_aload_n hx hb dX5_repaid_0 rfl (lv_at hl 0 rfl) ?_
  refine r_get X hw 0 _ 6 (hT.1) rfl rfl k_X5 (by decide) fl_RX5_232 dX5_repaid_1 ?_
  refine lv_topi (fun x1 ex1 => ?_)
  subst ex1
  exact r_iret X hw hr rfl hlk (Nat.le_of_ble_eq_true rfl) (Nat.le_of_ble_eq_true rfl) (gE_of (rfl)) dX5_repaid_4
def m_runs (C : gCT)  : Int32 × gCT :=
  let x1 : Int32 := C 2 24 1;
  (x1, C)
set_option maxHeartbeats 4000000 in
set_option maxRecDepth 100000 in
theorem c_m_runs (l : Launch) (G : gG) (lv : gLv) (ad : gAd) (C : gCT)  (rc bcap : Nat) (hT : gTop lv C) (hRs : gRuns lv C rc bcap) : gMi l yX5_runs cX5_runs 1 (some .int) (gRm 1 20 0 0) G [.ref (ad 0 0)] lv ad (gF G C ad) (gE (m_runs C ).1 lv ad (gF G (m_runs C ).2 ad)) := by
  refine r_met (own := RX5) (by decide) rfl (Nat.le_of_ble_eq_true rfl) ?_
  intro p e s m below meth c ls X hw hr hlk _ hl
  have hx := X.1.1; have hb := X.1.2.1; have hml := X.1.2.2.1; have hown := X.1.2.2.2.1; have hts := X.1.2.2.2.2
  have hl : lv_has ls 1 [(0, .ref (ad 0 0))] := hl
  refine lv_aload_n hx hb dX5_runs_0 rfl (lv_at hl 0 rfl) ?_
  refine r_get X hw 0 _ 1 (hT.1) rfl rfl k_X5 (by decide) fl_RX5_18 dX5_runs_1 ?_
  refine r_rix X hw (r_runV X (c_size l G lv ad _ _ (hRs.1.1) _) cy_Jx4a65c_size_8abf5 ml_RX5_133 ⟨(Nat.le_of_ble_eq_true rfl), (Nat.le_of_ble_eq_true rfl)⟩ gP.blind (g_recv X hw 2 _ (hRs.1.1) rfl rfl) (gP_call X hw _) rfl hl.1 rfl (Nat.le_of_ble_eq_true rfl) dX5_runs_4 ⟨(Nat.le_of_ble_eq_true rfl), (Nat.le_of_ble_eq_true rfl)⟩) (fun H locs hw => ?_)
  refine lv_topi (fun x1 ex1 => ?_)
  subst ex1
  exact r_iret X hw hr rfl hlk (Nat.le_of_ble_eq_true rfl) (Nat.le_of_ble_eq_true rfl) (gE_of (rfl)) dX5_runs_7
def m_state (C : gCT) (n1 : Int32) : Nat × Int32 × gCT :=
  if (m_runAt C n1) = 0 then (
    let x2 : Int32 := C 11 n1.toNatClampNeg 4;
    (0, x2, C)
  ) else ((m_runAt C n1), 0, C)
set_option maxHeartbeats 4000000 in
set_option maxRecDepth 100000 in
theorem c_m_state (l : Launch) (hst : l.stackTraces = false) (G : gG) (lv : gLv) (ad : gAd) (C : gCT) (n1 : Int32) (rc bcap : Nat) (hT : gTop lv C) (hRs : gRuns lv C rc bcap) : gMxi l yX5_state cX5_state 2 (some .int) (gRm 7 103 2 12) G [.ref (ad 0 0), .int n1] lv ad C (m_state C n1) := by
  refine x_met (own := RX5) (XC := fun sz => gXC G (gA lv ad sz) lv ad (gF G C ad) _) (by decide) rfl (Nat.le_of_ble_eq_true rfl) ?_
  intro p e s m below meth c ls X hw hr hlk ht hl
  have hx := X.1.1; have hb := X.1.2.1; have hml := X.1.2.2.1; have hown := X.1.2.2.2.1; have hts := X.1.2.2.2.2
  have hl : lv_has ls 2 [(0, .ref (ad 0 0)), (1, .int n1)] := hl
  refine lv_aload_n hx hb dX5_state_0 rfl (lv_at hl 0 rfl) ?_
  refine lv_iload_n hx hb dX5_state_1 rfl (lv_at hl 1 rfl) ?_
  refine x_rr X hw (x_runV X (c_m_runAt l hst G lv ad _ _ _ _ hT hRs _) cy_X5_runAt ml_RX5_154 ⟨(Nat.le_of_ble_eq_true rfl), (Nat.le_of_ble_eq_true rfl)⟩ gP.blind (g_recv X hw 0 _ (hT.1) rfl rfl) (gP_call X hw _) rfl hl.1 rfl (Nat.le_of_ble_eq_true rfl) dX5_state_2 ⟨(Nat.le_of_ble_eq_true rfl), (Nat.le_of_ble_eq_true rfl)⟩) (fun E ce q H locs hE hw q1 q2 q3 => ?_) (fun H locs h1 hw => ?_)
  · exact x_on X hw hE ht hlk q1 q2 q3 (Nat.le_of_ble_eq_true rfl) (Nat.le_of_ble_eq_true rfl) (congrArg Prod.fst ((if_neg (gExc_ne hE)).trans rfl))
  obtain ⟨cnt, cap, hR, hM, hf4, hC⟩ := hRs.2.2 _ (m_runAt_lt hRs h1)
  refine r_get X hw 11 _ 9 (hR.2.1) rfl rfl k_X4 (by decide) fl_RX5_160 dX5_state_5 ?_
  refine lv_topi (fun x2 ex2 => ?_)
  subst ex2
  exact x_iret X hw hr rfl hlk (Nat.le_of_ble_eq_true rfl) (Nat.le_of_ble_eq_true rfl) ((if_pos h1).trans rfl) dX5_state_8
def m_version (C : gCT) (n1 : Int32) : Nat × Int32 × gCT :=
  if (m_runAt C n1) = 0 then (
    let x2 : Int32 := C 11 n1.toNatClampNeg 2;
    (0, x2, C)
  ) else ((m_runAt C n1), 0, C)
set_option maxHeartbeats 4000000 in
set_option maxRecDepth 100000 in
theorem c_m_version (l : Launch) (hst : l.stackTraces = false) (G : gG) (lv : gLv) (ad : gAd) (C : gCT) (n1 : Int32) (rc bcap : Nat) (hT : gTop lv C) (hRs : gRuns lv C rc bcap) : gMxi l yX5_version cX5_version 2 (some .int) (gRm 7 103 2 12) G [.ref (ad 0 0), .int n1] lv ad C (m_version C n1) := by
  refine x_met (own := RX5) (XC := fun sz => gXC G (gA lv ad sz) lv ad (gF G C ad) _) (by decide) rfl (Nat.le_of_ble_eq_true rfl) ?_
  intro p e s m below meth c ls X hw hr hlk ht hl
  have hx := X.1.1; have hb := X.1.2.1; have hml := X.1.2.2.1; have hown := X.1.2.2.2.1; have hts := X.1.2.2.2.2
  have hl : lv_has ls 2 [(0, .ref (ad 0 0)), (1, .int n1)] := hl
  refine lv_aload_n hx hb dX5_version_0 rfl (lv_at hl 0 rfl) ?_
  refine lv_iload_n hx hb dX5_version_1 rfl (lv_at hl 1 rfl) ?_
  refine x_rr X hw (x_runV X (c_m_runAt l hst G lv ad _ _ _ _ hT hRs _) cy_X5_runAt ml_RX5_154 ⟨(Nat.le_of_ble_eq_true rfl), (Nat.le_of_ble_eq_true rfl)⟩ gP.blind (g_recv X hw 0 _ (hT.1) rfl rfl) (gP_call X hw _) rfl hl.1 rfl (Nat.le_of_ble_eq_true rfl) dX5_version_2 ⟨(Nat.le_of_ble_eq_true rfl), (Nat.le_of_ble_eq_true rfl)⟩) (fun E ce q H locs hE hw q1 q2 q3 => ?_) (fun H locs h1 hw => ?_)
  · exact x_on X hw hE ht hlk q1 q2 q3 (Nat.le_of_ble_eq_true rfl) (Nat.le_of_ble_eq_true rfl) (congrArg Prod.fst ((if_neg (gExc_ne hE)).trans rfl))
  obtain ⟨cnt, cap, hR, hM, hf4, hC⟩ := hRs.2.2 _ (m_runAt_lt hRs h1)
  refine r_get X hw 11 _ 7 (hR.2.1) rfl rfl k_X4 (by decide) fl_RX5_202 dX5_version_5 ?_
  refine lv_topi (fun x2 ex2 => ?_)
  subst ex2
  exact x_iret X hw hr rfl hlk (Nat.le_of_ble_eq_true rfl) (Nat.le_of_ble_eq_true rfl) ((if_pos h1).trans rfl) dX5_version_8
def m_fuel (C : gCT) (n1 : Int32) : Nat × Int32 × gCT :=
  if (m_runAt C n1) = 0 then (
    let x2 : Int32 := C 7 n1.toNatClampNeg 2;
    (0, x2, C)
  ) else ((m_runAt C n1), 0, C)
set_option maxHeartbeats 4000000 in
set_option maxRecDepth 100000 in
theorem c_m_fuel (l : Launch) (hst : l.stackTraces = false) (G : gG) (lv : gLv) (ad : gAd) (C : gCT) (n1 : Int32) (rc bcap : Nat) (hT : gTop lv C) (hRs : gRuns lv C rc bcap) : gMxi l yX5_fuel cX5_fuel 2 (some .int) (gRm 7 103 2 12) G [.ref (ad 0 0), .int n1] lv ad C (m_fuel C n1) := by
  refine x_met (own := RX5) (XC := fun sz => gXC G (gA lv ad sz) lv ad (gF G C ad) _) (by decide) rfl (Nat.le_of_ble_eq_true rfl) ?_
  intro p e s m below meth c ls X hw hr hlk ht hl
  have hx := X.1.1; have hb := X.1.2.1; have hml := X.1.2.2.1; have hown := X.1.2.2.2.1; have hts := X.1.2.2.2.2
  have hl : lv_has ls 2 [(0, .ref (ad 0 0)), (1, .int n1)] := hl
  refine lv_aload_n hx hb dX5_fuel_0 rfl (lv_at hl 0 rfl) ?_
  refine lv_iload_n hx hb dX5_fuel_1 rfl (lv_at hl 1 rfl) ?_
  refine x_rr X hw (x_runV X (c_m_runAt l hst G lv ad _ _ _ _ hT hRs _) cy_X5_runAt ml_RX5_154 ⟨(Nat.le_of_ble_eq_true rfl), (Nat.le_of_ble_eq_true rfl)⟩ gP.blind (g_recv X hw 0 _ (hT.1) rfl rfl) (gP_call X hw _) rfl hl.1 rfl (Nat.le_of_ble_eq_true rfl) dX5_fuel_2 ⟨(Nat.le_of_ble_eq_true rfl), (Nat.le_of_ble_eq_true rfl)⟩) (fun E ce q H locs hE hw q1 q2 q3 => ?_) (fun H locs h1 hw => ?_)
  · exact x_on X hw hE ht hlk q1 q2 q3 (Nat.le_of_ble_eq_true rfl) (Nat.le_of_ble_eq_true rfl) (congrArg Prod.fst ((if_neg (gExc_ne hE)).trans rfl))
  obtain ⟨cnt, cap, hR, hM, hf4, hC⟩ := hRs.2.2 _ (m_runAt_lt hRs h1)
  refine r_get X hw 11 _ 3 (hR.2.1) rfl rfl k_X4 (by decide) fl_RX5_168 dX5_fuel_5 ?_
  refine r_get X hw 7 _ 5 (hM.1) rfl rfl k_X3 (by decide) fl_RX5_205 dX5_fuel_8 ?_
  refine lv_topi (fun x2 ex2 => ?_)
  subst ex2
  exact x_iret X hw hr rfl hlk (Nat.le_of_ble_eq_true rfl) (Nat.le_of_ble_eq_true rfl) ((if_pos h1).trans rfl) dX5_fuel_11
def m_depth (C : gCT) (n1 : Int32) : Nat × Int32 × gCT :=
  if (m_runAt C n1) = 0 then (
    let x2 : Int32 := C 7 n1.toNatClampNeg 0;
    (0, x2, C)
  ) else ((m_runAt C n1), 0, C)
set_option maxHeartbeats 4000000 in
set_option maxRecDepth 100000 in
theorem c_m_depth (l : Launch) (hst : l.stackTraces = false) (G : gG) (lv : gLv) (ad : gAd) (C : gCT) (n1 : Int32) (rc bcap : Nat) (hT : gTop lv C) (hRs : gRuns lv C rc bcap) : gMxi l yX5_depth cX5_depth 2 (some .int) (gRm 7 103 2 12) G [.ref (ad 0 0), .int n1] lv ad C (m_depth C n1) := by
  refine x_met (own := RX5) (XC := fun sz => gXC G (gA lv ad sz) lv ad (gF G C ad) _) (by decide) rfl (Nat.le_of_ble_eq_true rfl) ?_
  intro p e s m below meth c ls X hw hr hlk ht hl
  have hx := X.1.1; have hb := X.1.2.1; have hml := X.1.2.2.1; have hown := X.1.2.2.2.1; have hts := X.1.2.2.2.2
  have hl : lv_has ls 2 [(0, .ref (ad 0 0)), (1, .int n1)] := hl
  refine lv_aload_n hx hb dX5_depth_0 rfl (lv_at hl 0 rfl) ?_
  refine lv_iload_n hx hb dX5_depth_1 rfl (lv_at hl 1 rfl) ?_
  refine x_rr X hw (x_runV X (c_m_runAt l hst G lv ad _ _ _ _ hT hRs _) cy_X5_runAt ml_RX5_154 ⟨(Nat.le_of_ble_eq_true rfl), (Nat.le_of_ble_eq_true rfl)⟩ gP.blind (g_recv X hw 0 _ (hT.1) rfl rfl) (gP_call X hw _) rfl hl.1 rfl (Nat.le_of_ble_eq_true rfl) dX5_depth_2 ⟨(Nat.le_of_ble_eq_true rfl), (Nat.le_of_ble_eq_true rfl)⟩) (fun E ce q H locs hE hw q1 q2 q3 => ?_) (fun H locs h1 hw => ?_)
  · exact x_on X hw hE ht hlk q1 q2 q3 (Nat.le_of_ble_eq_true rfl) (Nat.le_of_ble_eq_true rfl) (congrArg Prod.fst ((if_neg (gExc_ne hE)).trans rfl))
  obtain ⟨cnt, cap, hR, hM, hf4, hC⟩ := hRs.2.2 _ (m_runAt_lt hRs h1)
  refine r_get X hw 11 _ 3 (hR.2.1) rfl rfl k_X4 (by decide) fl_RX5_168 dX5_depth_5 ?_
  refine r_get X hw 7 _ 3 (hM.1) rfl rfl k_X3 (by decide) fl_RX5_214 dX5_depth_8 ?_
  refine lv_topi (fun x2 ex2 => ?_)
  subst ex2
  exact x_iret X hw hr rfl hlk (Nat.le_of_ble_eq_true rfl) (Nat.le_of_ble_eq_true rfl) ((if_pos h1).trans rfl) dX5_depth_11
def m_answers (C : gCT) (n1 : Int32) : Nat × Int32 × gCT :=
  if (m_runAt C n1) = 0 then (
    let x2 : Int32 := C 2 n1.toNatClampNeg 1;
    (0, x2, C)
  ) else ((m_runAt C n1), 0, C)
set_option maxHeartbeats 4000000 in
set_option maxRecDepth 100000 in
theorem c_m_answers (l : Launch) (hst : l.stackTraces = false) (G : gG) (lv : gLv) (ad : gAd) (C : gCT) (n1 : Int32) (rc bcap : Nat) (hT : gTop lv C) (hRs : gRuns lv C rc bcap) : gMxi l yX5_answers cX5_answers 2 (some .int) (gRm 7 103 2 12) G [.ref (ad 0 0), .int n1] lv ad C (m_answers C n1) := by
  refine x_met (own := RX5) (XC := fun sz => gXC G (gA lv ad sz) lv ad (gF G C ad) _) (by decide) rfl (Nat.le_of_ble_eq_true rfl) ?_
  intro p e s m below meth c ls X hw hr hlk ht hl
  have hx := X.1.1; have hb := X.1.2.1; have hml := X.1.2.2.1; have hown := X.1.2.2.2.1; have hts := X.1.2.2.2.2
  have hl : lv_has ls 2 [(0, .ref (ad 0 0)), (1, .int n1)] := hl
  refine lv_aload_n hx hb dX5_answers_0 rfl (lv_at hl 0 rfl) ?_
  refine lv_iload_n hx hb dX5_answers_1 rfl (lv_at hl 1 rfl) ?_
  refine x_rr X hw (x_runV X (c_m_runAt l hst G lv ad _ _ _ _ hT hRs _) cy_X5_runAt ml_RX5_154 ⟨(Nat.le_of_ble_eq_true rfl), (Nat.le_of_ble_eq_true rfl)⟩ gP.blind (g_recv X hw 0 _ (hT.1) rfl rfl) (gP_call X hw _) rfl hl.1 rfl (Nat.le_of_ble_eq_true rfl) dX5_answers_2 ⟨(Nat.le_of_ble_eq_true rfl), (Nat.le_of_ble_eq_true rfl)⟩) (fun E ce q H locs hE hw q1 q2 q3 => ?_) (fun H locs h1 hw => ?_)
  · exact x_on X hw hE ht hlk q1 q2 q3 (Nat.le_of_ble_eq_true rfl) (Nat.le_of_ble_eq_true rfl) (congrArg Prod.fst ((if_neg (gExc_ne hE)).trans rfl))
  obtain ⟨cnt, cap, hR, hM, hf4, hC⟩ := hRs.2.2 _ (m_runAt_lt hRs h1)
  refine r_get X hw 11 _ 4 (hR.2.1) rfl rfl k_X4 (by decide) fl_RX5_163 dX5_answers_5 ?_
  refine r_rix X hw (r_runV X (c_size l G lv ad _ _ (hR.2.2.2.1.1) _) cy_Jx4a65c_size_8abf5 ml_RX5_133 ⟨(Nat.le_of_ble_eq_true rfl), (Nat.le_of_ble_eq_true rfl)⟩ gP.blind (g_recv X hw 2 _ (hR.2.2.2.1.1) rfl rfl) (gP_call X hw _) rfl hl.1 rfl (Nat.le_of_ble_eq_true rfl) dX5_answers_8 ⟨(Nat.le_of_ble_eq_true rfl), (Nat.le_of_ble_eq_true rfl)⟩) (fun H locs hw => ?_)
  refine lv_topi (fun x2 ex2 => ?_)
  subst ex2
  exact x_iret X hw hr rfl hlk (Nat.le_of_ble_eq_true rfl) (Nat.le_of_ble_eq_true rfl) ((if_pos h1).trans rfl) dX5_answers_11
def m_question (C : gCT) (n1 : Int32) : Nat × Int32 × gCT :=
  if (m_runAt C n1) = 0 then (
    let x2 : Int32 := C 11 n1.toNatClampNeg 4;
    let x9 : Int32 :=
      if x2 = 0 then (
        1
      ) else (
        let x4 : Int32 := C 11 n1.toNatClampNeg 4;
        if x4 = 1 then (
          1
        ) else (
          let x6 : Int32 := C 11 n1.toNatClampNeg 4;
          if x6 = 6 then (
            1
          ) else (
            0
          )
        )
      );
    if x9 = 0 then (
      (0, (-1), C)
    ) else (
      let x11 : Int32 := C 7 n1.toNatClampNeg 5;
      (0, x11, C)
    )
  ) else ((m_runAt C n1), 0, C)
set_option maxHeartbeats 4000000 in
set_option maxRecDepth 100000 in
theorem c_m_question (l : Launch) (hst : l.stackTraces = false) (G : gG) (lv : gLv) (ad : gAd) (C : gCT) (n1 : Int32) (rc bcap : Nat) (hT : gTop lv C) (hRs : gRuns lv C rc bcap) : gMxi l yX5_question cX5_question 4 (some .int) (gRm 7 103 2 12) G [.ref (ad 0 0), .int n1] lv ad C (m_question C n1) := by
  refine x_met (own := RX5) (XC := fun sz => gXC G (gA lv ad sz) lv ad (gF G C ad) _) (by decide) rfl (Nat.le_of_ble_eq_true rfl) ?_
  intro p e s m below meth c ls X hw hr hlk ht hl
  have hx := X.1.1; have hb := X.1.2.1; have hml := X.1.2.2.1; have hown := X.1.2.2.2.1; have hts := X.1.2.2.2.2
  have hl : lv_has ls 4 [(0, .ref (ad 0 0)), (1, .int n1)] := hl
  refine lv_aload_n hx hb dX5_question_0 rfl (lv_at hl 0 rfl) ?_
  refine lv_iload_n hx hb dX5_question_1 rfl (lv_at hl 1 rfl) ?_
  refine x_rr X hw (x_runV X (c_m_runAt l hst G lv ad _ _ _ _ hT hRs _) cy_X5_runAt ml_RX5_154 ⟨(Nat.le_of_ble_eq_true rfl), (Nat.le_of_ble_eq_true rfl)⟩ gP.blind (g_recv X hw 0 _ (hT.1) rfl rfl) (gP_call X hw _) rfl hl.1 rfl (Nat.le_of_ble_eq_true rfl) dX5_question_2 ⟨(Nat.le_of_ble_eq_true rfl), (Nat.le_of_ble_eq_true rfl)⟩) (fun E ce q H locs hE hw q1 q2 q3 => ?_) (fun H locs h1 hw => ?_)
  · exact x_on X hw hE ht hlk q1 q2 q3 (Nat.le_of_ble_eq_true rfl) (Nat.le_of_ble_eq_true rfl) (congrArg Prod.fst ((if_neg (gExc_ne hE)).trans rfl))
  obtain ⟨cnt, cap, hR, hM, hf4, hC⟩ := hRs.2.2 _ (m_runAt_lt hRs h1)
  refine lv_astore_n (lv' := [(2, .ref (ad 11 n1.toNatClampNeg)), (0, .ref (ad 0 0)), (1, .int n1)]) hx hb dX5_question_5 rfl hl (by decide) rfl (fun ls hl => ?_)
  refine lv_aload_n hx hb dX5_question_6 rfl (lv_at hl 0 rfl) ?_
  refine r_get X hw 11 _ 9 (hR.2.1) rfl rfl k_X4 (by decide) fl_RX5_160 dX5_question_7 ?_
  refine lv_topi (fun x2 ex2 => ?_)
  refine r_J (nL := 4) (J := 35) (rest := []) (L := [(2, .ref (ad 11 n1.toNatClampNeg)), (0, .ref (ad 0 0)), (1, .int n1)]) (if x2 = 0 then ( 1 ) else ( let x4 : Int32 := C 11 n1.toNatClampNeg 4; if x4 = 1 then ( 1 ) else ( let x6 : Int32 := C 11 n1.toNatClampNeg 4; if x6 = 6 then ( 1 ) else ( 0 ) ) )) (fun x9 ex9 ls hl => ?_) (fun J8 => ?_)
  · refine lv_istore_n (lv' := [(3, .int x9), (2, .ref (ad 11 n1.toNatClampNeg)), (0, .ref (ad 0 0)), (1, .int n1)]) hx hb dX5_question_35 rfl hl (by decide) rfl (fun ls hl => ?_)
    refine lv_iload_n hx hb dX5_question_36 rfl (lv_at hl 0 rfl) ?_
    refine lv_if_eq (tgt := 50) hx hb dX5_question_37 (by decide) (fun h10 => ?_) (fun h10 => ?_)
    · refine lv_iconst (v := (-1)) hx hb dX5_question_50 (by decide) ?_
      subst ex9 ex2
      exact x_iret X hw hr rfl hlk (Nat.le_of_ble_eq_true rfl) (Nat.le_of_ble_eq_true rfl) ((if_pos h1).trans ((if_pos h10).trans rfl)) dX5_question_51
    · refine lv_aload_n hx hb dX5_question_40 rfl (lv_at hl 1 rfl) ?_
      refine r_get X hw 11 _ 3 (hR.2.1) rfl rfl k_X4 (by decide) fl_RX5_168 dX5_question_41 ?_
      refine r_get X hw 7 _ 8 (hM.1) rfl rfl k_X3 (by decide) fl_RX5_171 dX5_question_44 ?_
      refine lv_topi (fun x11 ex11 => ?_)
      refine lv_goto (tgt := 51) hx hb dX5_question_47 (by decide) ?_
      subst ex11 ex9 ex2
      exact x_iret X hw hr rfl hlk (Nat.le_of_ble_eq_true rfl) (Nat.le_of_ble_eq_true rfl) ((if_pos h1).trans ((if_neg h10).trans rfl)) dX5_question_51
  · refine lv_if_eq (tgt := 30) hx hb dX5_question_10 (by decide) (fun h3 => ?_) (fun h3 => ?_)
    · refine lv_iconst (v := 1) hx hb dX5_question_30 (by decide) ?_
      refine lv_goto (tgt := 35) hx hb dX5_question_31 (by decide) ?_
      exact J8 _ ((if_pos h3).trans rfl).symm _ hl
    · refine lv_aload_n hx hb dX5_question_13 rfl (lv_at hl 0 rfl) ?_
      refine r_get X hw 11 _ 9 (hR.2.1) rfl rfl k_X4 (by decide) fl_RX5_160 dX5_question_14 ?_
      refine lv_topi (fun x4 ex4 => ?_)
      refine lv_iconst (v := 1) hx hb dX5_question_17 (by decide) ?_
      refine lv_icmp_eq (tgt := 30) hx hb dX5_question_18 (by decide) (fun h5 => ?_) (fun h5 => ?_)
      · refine lv_iconst (v := 1) hx hb dX5_question_30 (by decide) ?_
        refine lv_goto (tgt := 35) hx hb dX5_question_31 (by decide) ?_
        subst ex4; exact J8 _ ((if_neg h3).trans ((if_pos h5).trans rfl)).symm _ hl
      · refine lv_aload_n hx hb dX5_question_21 rfl (lv_at hl 0 rfl) ?_
        refine r_get X hw 11 _ 9 (hR.2.1) rfl rfl k_X4 (by decide) fl_RX5_160 dX5_question_22 ?_
        refine lv_topi (fun x6 ex6 => ?_)
        refine lv_bipush (v := 6) hx hb dX5_question_25 (by decide) ?_
        refine lv_icmp_ne (tgt := 34) hx hb dX5_question_27 (by decide) (fun h7 => ?_) (fun h7 => ?_)
        · refine lv_iconst (v := 0) hx hb dX5_question_34 (by decide) ?_
          subst ex6 ex4; exact J8 _ ((if_neg h3).trans ((if_neg h5).trans ((if_neg h7).trans rfl))).symm _ hl
        · refine lv_iconst (v := 1) hx hb dX5_question_30 (by decide) ?_
          refine lv_goto (tgt := 35) hx hb dX5_question_31 (by decide) ?_
          subst ex6 ex4; exact J8 _ ((if_neg h3).trans ((if_neg h5).trans ((if_pos h7).trans rfl))).symm _ hl
def m_save (C : gCT) (n1 : Int32) : Nat × Int32 × gCT :=
  if (m_runAt C n1) = 0 then (
    let x2 : Int32 := C 11 n1.toNatClampNeg 4;
    if x2 = 0 then (
      let C4 : gCT := cs C 11 n1.toNatClampNeg 4 1;
      (0, 0, C4)
    ) else (
      (3, 0, C)
    )
  ) else ((m_runAt C n1), 0, C)
set_option maxHeartbeats 4000000 in
set_option maxRecDepth 100000 in
theorem c_m_save (l : Launch) (hst : l.stackTraces = false) (G : gG) (lv : gLv) (ad : gAd) (C : gCT) (n1 : Int32) (rc bcap : Nat) (hT : gTop lv C) (hRs : gRuns lv C rc bcap) : gMxv l yX5_save cX5_save 3 (gRm 7 103 2 12) G [.ref (ad 0 0), .int n1] lv ad C (m_save C n1) := by
  refine x_met (own := RX5) (XC := fun sz => gXC G (gA lv ad sz) lv ad (gF G C ad) _) (by decide) rfl (Nat.le_of_ble_eq_true rfl) ?_
  intro p e s m below meth c ls X hw hr hlk ht hl
  have hx := X.1.1; have hb := X.1.2.1; have hml := X.1.2.2.1; have hown := X.1.2.2.2.1; have hts := X.1.2.2.2.2
  have hl : lv_has ls 3 [(0, .ref (ad 0 0)), (1, .int n1)] := hl
  refine lv_aload_n hx hb dX5_save_0 rfl (lv_at hl 0 rfl) ?_
  refine lv_iload_n hx hb dX5_save_1 rfl (lv_at hl 1 rfl) ?_
  refine x_rr X hw (x_runV X (c_m_runAt l hst G lv ad _ _ _ _ hT hRs _) cy_X5_runAt ml_RX5_154 ⟨(Nat.le_of_ble_eq_true rfl), (Nat.le_of_ble_eq_true rfl)⟩ gP.blind (g_recv X hw 0 _ (hT.1) rfl rfl) (gP_call X hw _) rfl hl.1 rfl (Nat.le_of_ble_eq_true rfl) dX5_save_2 ⟨(Nat.le_of_ble_eq_true rfl), (Nat.le_of_ble_eq_true rfl)⟩) (fun E ce q H locs hE hw q1 q2 q3 => ?_) (fun H locs h1 hw => ?_)
  · exact x_on X hw hE ht hlk q1 q2 q3 (Nat.le_of_ble_eq_true rfl) (Nat.le_of_ble_eq_true rfl) (congrArg Prod.fst ((if_neg (gExc_ne hE)).trans rfl))
  obtain ⟨cnt, cap, hR, hM, hf4, hC⟩ := hRs.2.2 _ (m_runAt_lt hRs h1)
  refine lv_astore_n (lv' := [(2, .ref (ad 11 n1.toNatClampNeg)), (0, .ref (ad 0 0)), (1, .int n1)]) hx hb dX5_save_5 rfl hl (by decide) rfl (fun ls hl => ?_)
  refine lv_aload_n hx hb dX5_save_6 rfl (lv_at hl 0 rfl) ?_
  refine r_get X hw 11 _ 9 (hR.2.1) rfl rfl k_X4 (by decide) fl_RX5_160 dX5_save_7 ?_
  refine lv_topi (fun x2 ex2 => ?_)
  refine lv_if_eq (tgt := 23) hx hb dX5_save_10 (by decide) (fun h3 => ?_) (fun h3 => ?_)
  · refine lv_aload_n hx hb dX5_save_23 rfl (lv_at hl 0 rfl) ?_
    refine lv_iconst (v := 1) hx hb dX5_save_24 (by decide) ?_
    refine s_put X hw 11 _ 9 4 (hR.2.1) rfl rfl k_X4 (by decide) (Nat.le_of_ble_eq_true rfl) fl_RX5_160 rfl rfl dX5_save_25 (fun H locs hw => ?_)
    subst ex2
    exact x_vret X hw hr hlk (Nat.le_of_ble_eq_true rfl) (Nat.le_of_ble_eq_true rfl) ((if_pos h1).trans ((if_pos h3).trans rfl)) dX5_save_28
  · subst ex2
    exact r_throw X hst hw 3 (Or.inr (Or.inr ⟨rfl, rfl⟩)) (by decide) cl_RX5_77 ini_IllegalStateException sx_166 x_at_3 x_gd_3 hl.1 dX5_save_13 dX5_save_16 dX5_save_17 dX5_save_19 dX5_save_22 ht (Nat.le_of_ble_eq_true rfl) (Nat.le_of_ble_eq_true rfl) (Nat.le_of_ble_eq_true rfl) (Nat.le_of_ble_eq_true rfl) hlk (Nat.le_of_ble_eq_true rfl) (Nat.le_of_ble_eq_true rfl) (congrArg Prod.fst ((if_pos h1).trans ((if_neg h3).trans rfl)))
def m_leave (C : gCT) (n1 : Int32) : Nat × Int32 × gCT :=
  if (m_runAt C n1) = 0 then (
    let x2 : Int32 := C 11 n1.toNatClampNeg 4;
    if x2 = 0 then (
      let C4 : gCT := cs C 11 n1.toNatClampNeg 4 6;
      let x5 : Int32 := C4 11 n1.toNatClampNeg 5;
      (0, x5, C4)
    ) else (
      let x6 : Int32 := C 11 n1.toNatClampNeg 4;
      if x6 = 1 then (
        let C8 : gCT := cs C 11 n1.toNatClampNeg 4 6;
        let x9 : Int32 := C8 11 n1.toNatClampNeg 5;
        (0, x9, C8)
      ) else (
        (3, 0, C)
      )
    )
  ) else ((m_runAt C n1), 0, C)
set_option maxHeartbeats 4000000 in
set_option maxRecDepth 100000 in
theorem c_m_leave (l : Launch) (hst : l.stackTraces = false) (G : gG) (lv : gLv) (ad : gAd) (C : gCT) (n1 : Int32) (rc bcap : Nat) (hT : gTop lv C) (hRs : gRuns lv C rc bcap) : gMxi l yX5_leave cX5_leave 3 (some .int) (gRm 7 103 2 12) G [.ref (ad 0 0), .int n1] lv ad C (m_leave C n1) := by
  refine x_met (own := RX5) (XC := fun sz => gXC G (gA lv ad sz) lv ad (gF G C ad) _) (by decide) rfl (Nat.le_of_ble_eq_true rfl) ?_
  intro p e s m below meth c ls X hw hr hlk ht hl
  have hx := X.1.1; have hb := X.1.2.1; have hml := X.1.2.2.1; have hown := X.1.2.2.2.1; have hts := X.1.2.2.2.2
  have hl : lv_has ls 3 [(0, .ref (ad 0 0)), (1, .int n1)] := hl
  refine lv_aload_n hx hb dX5_leave_0 rfl (lv_at hl 0 rfl) ?_
  refine lv_iload_n hx hb dX5_leave_1 rfl (lv_at hl 1 rfl) ?_
  refine x_rr X hw (x_runV X (c_m_runAt l hst G lv ad _ _ _ _ hT hRs _) cy_X5_runAt ml_RX5_154 ⟨(Nat.le_of_ble_eq_true rfl), (Nat.le_of_ble_eq_true rfl)⟩ gP.blind (g_recv X hw 0 _ (hT.1) rfl rfl) (gP_call X hw _) rfl hl.1 rfl (Nat.le_of_ble_eq_true rfl) dX5_leave_2 ⟨(Nat.le_of_ble_eq_true rfl), (Nat.le_of_ble_eq_true rfl)⟩) (fun E ce q H locs hE hw q1 q2 q3 => ?_) (fun H locs h1 hw => ?_)
  · exact x_on X hw hE ht hlk q1 q2 q3 (Nat.le_of_ble_eq_true rfl) (Nat.le_of_ble_eq_true rfl) (congrArg Prod.fst ((if_neg (gExc_ne hE)).trans rfl))
  obtain ⟨cnt, cap, hR, hM, hf4, hC⟩ := hRs.2.2 _ (m_runAt_lt hRs h1)
  refine lv_astore_n (lv' := [(2, .ref (ad 11 n1.toNatClampNeg)), (0, .ref (ad 0 0)), (1, .int n1)]) hx hb dX5_leave_5 rfl hl (by decide) rfl (fun ls hl => ?_)
  refine lv_aload_n hx hb dX5_leave_6 rfl (lv_at hl 0 rfl) ?_
  refine r_get X hw 11 _ 9 (hR.2.1) rfl rfl k_X4 (by decide) fl_RX5_160 dX5_leave_7 ?_
  refine lv_topi (fun x2 ex2 => ?_)
  refine lv_if_eq (tgt := 31) hx hb dX5_leave_10 (by decide) (fun h3 => ?_) (fun h3 => ?_)
  · refine lv_aload_n hx hb dX5_leave_31 rfl (lv_at hl 0 rfl) ?_
    refine lv_bipush (v := 6) hx hb dX5_leave_32 (by decide) ?_
    refine s_put X hw 11 _ 9 4 (hR.2.1) rfl rfl k_X4 (by decide) (Nat.le_of_ble_eq_true rfl) fl_RX5_160 rfl rfl dX5_leave_34 (fun H locs hw => ?_)
    refine lv_aload_n hx hb dX5_leave_37 rfl (lv_at hl 0 rfl) ?_
    refine r_get X hw 11 _ 10 (hR.2.1) rfl rfl k_X4 (by decide) fl_RX5_184 dX5_leave_38 ?_
    refine lv_topi (fun x5 ex5 => ?_)
    subst ex5 ex2
    exact x_iret X hw hr rfl hlk (Nat.le_of_ble_eq_true rfl) (Nat.le_of_ble_eq_true rfl) ((if_pos h1).trans ((if_pos h3).trans rfl)) dX5_leave_41
  · refine lv_aload_n hx hb dX5_leave_13 rfl (lv_at hl 0 rfl) ?_
    refine r_get X hw 11 _ 9 (hR.2.1) rfl rfl k_X4 (by decide) fl_RX5_160 dX5_leave_14 ?_
    refine lv_topi (fun x6 ex6 => ?_)
    refine lv_iconst (v := 1) hx hb dX5_leave_17 (by decide) ?_
    refine lv_icmp_eq (tgt := 31) hx hb dX5_leave_18 (by decide) (fun h7 => ?_) (fun h7 => ?_)
    · refine lv_aload_n hx hb dX5_leave_31 rfl (lv_at hl 0 rfl) ?_
      refine lv_bipush (v := 6) hx hb dX5_leave_32 (by decide) ?_
      refine s_put X hw 11 _ 9 4 (hR.2.1) rfl rfl k_X4 (by decide) (Nat.le_of_ble_eq_true rfl) fl_RX5_160 rfl rfl dX5_leave_34 (fun H locs hw => ?_)
      refine lv_aload_n hx hb dX5_leave_37 rfl (lv_at hl 0 rfl) ?_
      refine r_get X hw 11 _ 10 (hR.2.1) rfl rfl k_X4 (by decide) fl_RX5_184 dX5_leave_38 ?_
      refine lv_topi (fun x9 ex9 => ?_)
      subst ex9 ex6 ex2
      exact x_iret X hw hr rfl hlk (Nat.le_of_ble_eq_true rfl) (Nat.le_of_ble_eq_true rfl) ((if_pos h1).trans ((if_neg h3).trans ((if_pos h7).trans rfl))) dX5_leave_41
    · subst ex6 ex2
      exact r_throw X hst hw 3 (Or.inr (Or.inr ⟨rfl, rfl⟩)) (by decide) cl_RX5_77 ini_IllegalStateException sx_200 x_at_3 x_gd_3 hl.1 dX5_leave_21 dX5_leave_24 dX5_leave_25 dX5_leave_27 dX5_leave_30 ht (Nat.le_of_ble_eq_true rfl) (Nat.le_of_ble_eq_true rfl) (Nat.le_of_ble_eq_true rfl) (Nat.le_of_ble_eq_true rfl) hlk (Nat.le_of_ble_eq_true rfl) (Nat.le_of_ble_eq_true rfl) (congrArg Prod.fst ((if_pos h1).trans ((if_neg h3).trans ((if_neg h7).trans rfl))))

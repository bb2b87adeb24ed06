theorem m_reset_L2_keep (n0 : Nat) (D : gCT) (k : Nat) (v i : Int32) : gKeep D (m_reset_L2 n0 D k v i) := by
  induction n0 generalizing D i with
  | zero => exact keep_rf
  | succ n0 ih =>
    unfold m_reset_L2
    refine keep_ite ?_ ?_
    · exact keep_cs7 (keep_cs7 (keep_cs7 (keep_cs7 (keep_cs7 (keep_cs7 keep_rf)))))
    · exact keep_tr (fun κ h7 h8 h9 h10 => cs_k _ _ _ _ h10) (ih _ _)
theorem m_reset_L1_keep (n0 : Nat) (D : gCT) (k : Nat) (v i : Int32) : gKeep D (m_reset_L1 n0 D k v i) := by
  induction n0 generalizing D i with
  | zero => exact keep_rf
  | succ n0 ih =>
    unfold m_reset_L1
    refine keep_ite ?_ ?_
    · exact m_reset_L2_keep _ _ _ _ _
    · exact keep_tr (fun κ h7 h8 h9 h10 => cs_k _ _ _ _ h9) (ih _ _)
theorem m_reset_keep (C : gCT) (k : Nat) (v : Int32) : gKeep C (m_reset C k v) := m_reset_L1_keep _ _ _ _ _
theorem m_reset_k (C : gCT) (k : Nat) (v : Int32) {κ : Nat} (h7 : κ ≠ 7) (h8 : κ ≠ 8) (h9 : κ ≠ 9) (h10 : κ ≠ 10) : m_reset C k v κ = C κ := m_reset_keep C k v κ h7 h8 h9 h10
theorem m_startOver_k (C : gCT) (r : Nat) {κ : Nat} (h7 : κ ≠ 7) (h8 : κ ≠ 8) (h9 : κ ≠ 9) (h10 : κ ≠ 10) (h11 : κ ≠ 11) (h12 : κ ≠ 12) : m_startOver C r κ = C κ := by
  unfold m_startOver
  rw [m_reset_k _ _ _ h7 h8 h9 h10, m_takeNewest_k _ _ h11 h12]
theorem m_takeNewest_11 (C : gCT) (r : Nat) : m_takeNewest C r 11 r 6 = C 11 r 6 ∧ m_takeNewest C r 11 r 7 = nI (8 * (C 11 r 6).toNatClampNeg + (C 4 (C 11 r 6).toNatClampNeg 0).toNatClampNeg) := by
  unfold m_takeNewest
  simp [g2, cs, upd]
theorem m_startOver_11 (C : gCT) (r : Nat) : m_startOver C r 11 r 6 = C 11 r 6 ∧ m_startOver C r 11 r 7 = nI (8 * (C 11 r 6).toNatClampNeg + (C 4 (C 11 r 6).toNatClampNeg 0).toNatClampNeg) := by
  unfold m_startOver
  rw [m_reset_k _ _ _ (by decide) (by decide) (by decide) (by decide)]
  exact m_takeNewest_11 C r
theorem gTop.cong {lv : gLv} {C D : gCT} (h : gTop lv C) (e : D 4 = C 4) : gTop lv D := ⟨h.1, h.2.1, h.2.2.1, h.2.2.2.1, h.2.2.2.2.1, h.2.2.2.2.2.1, fun f hf => (h.2.2.2.2.2.2 f hf).cong e⟩
def m_doAgain (C : gCT) (r : Nat) : gCT :=
  let x1 : Int32 := C 11 r 3;
  let C2 : gCT := m_reset C 24 x1;
  let x3 : Int32 := C2 7 r 6;
  let C4 : gCT := m_goOn C2 24 r x3;
  C4
set_option maxHeartbeats 4000000 in
set_option maxRecDepth 100000 in
theorem c_m_doAgain (l : Launch) (G : gG) (lv : gLv) (ad : gAd) (C : gCT) (r : Nat) (cnt cap : Nat) (hT : gTop lv C) (hR : gRun lv C r cnt cap) (hM : gM lv r) (hf4 : (C 11 r 6).toNatClampNeg < 4) (hC : gCode lv (C 11 r 7).toNatClampNeg) : gMv l yX5_doAgain cX5_doAgain 2 (gRm 7 160 0 0) G [.ref (ad 0 0), .ref (ad 11 r)] lv ad (gF G C ad) (gEv lv ad (gF G (m_doAgain C r) ad)) := by
  refine r_met (own := RX5) (by decide) rfl (Nat.le_of_ble_eq_true rfl) ?_
  intro p e s m below meth c ls X hw hr hlk _ hl
  have hx := X.1.1; have hb := X.1.2.1; have hml := X.1.2.2.1; have hown := X.1.2.2.2.1; have hts := X.1.2.2.2.2
  have hl : lv_has ls 2 [(0, .ref (ad 0 0)), (1, .ref (ad 11 r))] := hl
  refine lv_aload_n hx hb dX5_doAgain_0 rfl (lv_at hl 0 rfl) ?_
  refine r_get X hw 0 _ 5 (hT.1) rfl rfl k_X5 (by decide) fl_RX5_35 dX5_doAgain_1 ?_
  refine lv_aload_n hx hb dX5_doAgain_4 rfl (lv_at hl 1 rfl) ?_
  refine r_get X hw 11 _ 8 (hR.2.1) rfl rfl k_X4 (by decide) fl_RX5_250 dX5_doAgain_5 ?_
  refine lv_topi (fun x1 ex1 => ?_)
  refine r_rvx X hw (r_runV X (c_m_reset l G lv ad _ _ _ hT.2.2.2.2.2.1 _) cy_X3_reset ml_RX5_253 ⟨(Nat.le_of_ble_eq_true rfl), (Nat.le_of_ble_eq_true rfl)⟩ gP.blind (g_recv X hw 7 _ (hT.2.2.2.2.2.1.1) rfl rfl) (gP_call X hw _) rfl hl.1 rfl (Nat.le_of_ble_eq_true rfl) dX5_doAgain_8 ⟨(Nat.le_of_ble_eq_true rfl), (Nat.le_of_ble_eq_true rfl)⟩) (fun H locs hw => ?_)
  refine lv_aload_n hx hb dX5_doAgain_11 rfl (lv_at hl 0 rfl) ?_
  refine r_get X hw 0 _ 5 (hT.1) rfl rfl k_X5 (by decide) fl_RX5_35 dX5_doAgain_12 ?_
  refine lv_aload_n hx hb dX5_doAgain_15 rfl (lv_at hl 1 rfl) ?_
  refine lv_aload_n hx hb dX5_doAgain_16 rfl (lv_at hl 1 rfl) ?_
  refine r_get X hw 11 _ 3 (hR.2.1) rfl rfl k_X4 (by decide) fl_RX5_168 dX5_doAgain_17 ?_
  refine r_get X hw 7 _ 9 (hM.1) rfl rfl k_X3 (by decide) fl_RX5_279 dX5_doAgain_20 ?_
  refine lv_topi (fun x3 ex3 => ?_)
  refine r_rvx X hw (r_runV X (c_m_goOn l G lv ad _ _ _ _ _ _ hT.2.2.2.2.2.1 (by exact hR.cong (m_reset_k _ _ _ (by decide) (by decide) (by decide) (by decide)) (m_reset_k _ _ _ (by decide) (by decide) (by decide) (by decide))) (by rw [m_reset_k _ _ _ (by decide) (by decide) (by decide) (by decide)]; exact hC) _) cy_X3_goOn ml_RX5_263 ⟨(Nat.le_of_ble_eq_true rfl), (Nat.le_of_ble_eq_true rfl)⟩ gP.blind (g_recv X hw 7 _ (hT.2.2.2.2.2.1.1) rfl rfl) (gP_call X hw _) rfl hl.1 rfl (Nat.le_of_ble_eq_true rfl) dX5_doAgain_23 ⟨(Nat.le_of_ble_eq_true rfl), (Nat.le_of_ble_eq_true rfl)⟩) (fun H locs hw => ?_)
  subst ex3 ex1
  exact r_vret X hw hr hlk (Nat.le_of_ble_eq_true rfl) (Nat.le_of_ble_eq_true rfl) (gEv_of (rfl)) dX5_doAgain_26
def m_done (C : gCT) (n1 n2 : Int32) : Nat × Int32 × gCT :=
  if (m_formAt C n1) = 0 then (
    let x2 : Int32 := m_isWithin n2 0 3;
    if x2 = 0 then (
      (1, 0, C)
    ) else (
      let x4 : Int32 := C 6 n1.toNatClampNeg n2.toNatClampNeg;
      (0, x4, C)
    )
  ) else ((m_formAt C n1), 0, C)
set_option maxHeartbeats 4000000 in
set_option maxRecDepth 100000 in
theorem c_m_done (l : Launch) (hst : l.stackTraces = false) (G : gG) (lv : gLv) (ad : gAd) (C : gCT) (n1 n2 : Int32) (hT : gTop lv C) : gMxi l yX5_done cX5_done 4 (some .int) (gRm 7 103 2 12) G [.ref (ad 0 0), .int n1, .int n2] lv ad C (m_done C n1 n2) := by
  refine x_met (own := RX5) (XC := fun sz => gXC G (gA lv ad sz) lv ad (gF G C ad) _) (by decide) rfl (Nat.le_of_ble_eq_true rfl) ?_
  intro p e s m below meth c ls X hw hr hlk ht hl
  have hx := X.1.1; have hb := X.1.2.1; have hml := X.1.2.2.1; have hown := X.1.2.2.2.1; have hts := X.1.2.2.2.2
  have hl : lv_has ls 4 [(0, .ref (ad 0 0)), (1, .int n1), (2, .int n2)] := hl
  refine lv_aload_n hx hb dX5_done_0 rfl (lv_at hl 0 rfl) ?_
  refine lv_iload_n hx hb dX5_done_1 rfl (lv_at hl 1 rfl) ?_
  refine x_rr X hw (x_runV X (c_m_formAt l hst G lv ad _ _ hT _) cy_X5_formAt ml_RX5_40 ⟨(Nat.le_of_ble_eq_true rfl), (Nat.le_of_ble_eq_true rfl)⟩ gP.blind (g_recv X hw 0 _ (hT.1) rfl rfl) (gP_call X hw _) rfl hl.1 rfl (Nat.le_of_ble_eq_true rfl) dX5_done_2 ⟨(Nat.le_of_ble_eq_true rfl), (Nat.le_of_ble_eq_true rfl)⟩) (fun E ce q H locs hE hw q1 q2 q3 => ?_) (fun H locs h1 hw => ?_)
  · exact x_on X hw hE ht hlk q1 q2 q3 (Nat.le_of_ble_eq_true rfl) (Nat.le_of_ble_eq_true rfl) (congrArg Prod.fst ((if_neg (gExc_ne hE)).trans rfl))
  have hf := m_formAt_lt _ h1; have hF := hT.2.2.2.2.2.2 _ hf
  refine lv_astore_n (lv' := [(3, .ref (ad 4 n1.toNatClampNeg)), (0, .ref (ad 0 0)), (1, .int n1), (2, .int n2)]) hx hb dX5_done_5 rfl hl (by decide) rfl (fun ls hl => ?_)
  refine lv_iload_n hx hb dX5_done_6 rfl (lv_at hl 3 rfl) ?_
  refine lv_iconst (v := 0) hx hb dX5_done_7 (by decide) ?_
  refine lv_iconst (v := 3) hx hb dX5_done_8 (by decide) ?_
  refine r_rp (r_runS X (c_m_isWithin l n2 0 3) cy_X5_isWithin ml_RX5_44 ⟨(Nat.le_of_ble_eq_true rfl), (Nat.le_of_ble_eq_true rfl)⟩ gPc_blind (fun _ _ _ => ⟨rfl, trivial⟩) rfl hl.1 rfl (Nat.le_of_ble_eq_true rfl) dX5_done_9 ⟨(Nat.le_of_ble_eq_true rfl), (Nat.le_of_ble_eq_true rfl)⟩) ?_
  refine lv_topi (fun x2 ex2 => ?_)
  refine lv_if_ne (tgt := 25) hx hb dX5_done_12 (by decide) (fun h3 => ?_) (fun h3 => ?_)
  · have hq : ¬ m_isWithin n2 0 3 = 0 := by subst ex2; assumption
    refine lv_aload_n hx hb dX5_done_25 rfl (lv_at hl 0 rfl) ?_
    refine r_get X hw 4 _ 6 (hF.1) rfl rfl k_X2 (by decide) fl_RX5_235 dX5_done_26 ?_
    refine lv_iload_n hx hb dX5_done_29 rfl (lv_at hl 3 rfl) ?_
    refine r_iald X hw 6 _ (hF.2.2.1) rfl (by exact vp_in_w hq (by decide)) dX5_done_30 ?_
    refine lv_topi (fun x4 ex4 => ?_)
    subst ex4 ex2
    exact x_iret X hw hr rfl hlk (Nat.le_of_ble_eq_true rfl) (Nat.le_of_ble_eq_true rfl) ((if_pos h1).trans ((if_neg h3).trans rfl)) dX5_done_31
  · subst ex2
    exact r_throw X hst hw 1 (Or.inl ⟨rfl, rfl⟩) (by decide) cl_RX5_113 ini_IndexOutOfBoundsException sx_115 x_at_1 x_gd_1 hl.1 dX5_done_15 dX5_done_18 dX5_done_19 dX5_done_21 dX5_done_24 ht (Nat.le_of_ble_eq_true rfl) (Nat.le_of_ble_eq_true rfl) (Nat.le_of_ble_eq_true rfl) (Nat.le_of_ble_eq_true rfl) hlk (Nat.le_of_ble_eq_true rfl) (Nat.le_of_ble_eq_true rfl) (congrArg Prod.fst ((if_pos h1).trans ((if_pos h3).trans rfl)))
def m_slot (C : gCT) (n1 n2 : Int32) : Nat × Int32 × gCT :=
  if (m_runAt C n1) = 0 then (
    let x2 : Int32 := m_isWithin n2 0 7;
    if x2 = 0 then (
      (1, 0, C)
    ) else (
      let x4 : Int32 := C 9 n1.toNatClampNeg n2.toNatClampNeg;
      (0, x4, C)
    )
  ) else ((m_runAt C n1), 0, C)
set_option maxHeartbeats 4000000 in
set_option maxRecDepth 100000 in
theorem c_m_slot (l : Launch) (hst : l.stackTraces = false) (G : gG) (lv : gLv) (ad : gAd) (C : gCT) (n1 n2 : Int32) (rc bcap : Nat) (hT : gTop lv C) (hRs : gRuns lv C rc bcap) : gMxi l yX5_slot cX5_slot 4 (some .int) (gRm 7 103 2 12) G [.ref (ad 0 0), .int n1, .int n2] lv ad C (m_slot C n1 n2) := by
  refine x_met (own := RX5) (XC := fun sz => gXC G (gA lv ad sz) lv ad (gF G C ad) _) (by decide) rfl (Nat.le_of_ble_eq_true rfl) ?_
  intro p e s m below meth c ls X hw hr hlk ht hl
  have hx := X.1.1; have hb := X.1.2.1; have hml := X.1.2.2.1; have hown := X.1.2.2.2.1; have hts := X.1.2.2.2.2
  have hl : lv_has ls 4 [(0, .ref (ad 0 0)), (1, .int n1), (2, .int n2)] := hl
  refine lv_aload_n hx hb dX5_slot_0 rfl (lv_at hl 0 rfl) ?_
  refine lv_iload_n hx hb dX5_slot_1 rfl (lv_at hl 1 rfl) ?_
  refine x_rr X hw (x_runV X (c_m_runAt l hst G lv ad _ _ _ _ hT hRs _) cy_X5_runAt ml_RX5_154 ⟨(Nat.le_of_ble_eq_true rfl), (Nat.le_of_ble_eq_true rfl)⟩ gP.blind (g_recv X hw 0 _ (hT.1) rfl rfl) (gP_call X hw _) rfl hl.1 rfl (Nat.le_of_ble_eq_true rfl) dX5_slot_2 ⟨(Nat.le_of_ble_eq_true rfl), (Nat.le_of_ble_eq_true rfl)⟩) (fun E ce q H locs hE hw q1 q2 q3 => ?_) (fun H locs h1 hw => ?_)
  · exact x_on X hw hE ht hlk q1 q2 q3 (Nat.le_of_ble_eq_true rfl) (Nat.le_of_ble_eq_true rfl) (congrArg Prod.fst ((if_neg (gExc_ne hE)).trans rfl))
  obtain ⟨cnt, cap, hR, hM, hf4, hC⟩ := hRs.2.2 _ (m_runAt_lt hRs h1)
  refine lv_astore_n (lv' := [(3, .ref (ad 11 n1.toNatClampNeg)), (0, .ref (ad 0 0)), (1, .int n1), (2, .int n2)]) hx hb dX5_slot_5 rfl hl (by decide) rfl (fun ls hl => ?_)
  refine lv_iload_n hx hb dX5_slot_6 rfl (lv_at hl 3 rfl) ?_
  refine lv_iconst (v := 0) hx hb dX5_slot_7 (by decide) ?_
  refine lv_bipush (v := 7) hx hb dX5_slot_8 (by decide) ?_
  refine r_rp (r_runS X (c_m_isWithin l n2 0 7) cy_X5_isWithin ml_RX5_44 ⟨(Nat.le_of_ble_eq_true rfl), (Nat.le_of_ble_eq_true rfl)⟩ gPc_blind (fun _ _ _ => ⟨rfl, trivial⟩) rfl hl.1 rfl (Nat.le_of_ble_eq_true rfl) dX5_slot_10 ⟨(Nat.le_of_ble_eq_true rfl), (Nat.le_of_ble_eq_true rfl)⟩) ?_
  refine lv_topi (fun x2 ex2 => ?_)
  refine lv_if_ne (tgt := 26) hx hb dX5_slot_13 (by decide) (fun h3 => ?_) (fun h3 => ?_)
  · have hq : ¬ m_isWithin n2 0 7 = 0 := by subst ex2; assumption
    refine lv_aload_n hx hb dX5_slot_26 rfl (lv_at hl 0 rfl) ?_
    refine r_get X hw 11 _ 3 (hR.2.1) rfl rfl k_X4 (by decide) fl_RX5_168 dX5_slot_27 ?_
    refine r_get X hw 7 _ 1 (hM.1) rfl rfl k_X3 (by decide) fl_RX5_211 dX5_slot_30 ?_
    refine lv_iload_n hx hb dX5_slot_33 rfl (lv_at hl 3 rfl) ?_
    refine r_iald X hw 9 _ (hM.2.2.1) rfl (by exact vp_in_w hq (by decide)) dX5_slot_34 ?_
    refine lv_topi (fun x4 ex4 => ?_)
    subst ex4 ex2
    exact x_iret X hw hr rfl hlk (Nat.le_of_ble_eq_true rfl) (Nat.le_of_ble_eq_true rfl) ((if_pos h1).trans ((if_neg h3).trans rfl)) dX5_slot_35
  · subst ex2
    exact r_throw X hst hw 1 (Or.inl ⟨rfl, rfl⟩) (by decide) cl_RX5_113 ini_IndexOutOfBoundsException sx_209 x_at_1 x_gd_1 hl.1 dX5_slot_16 dX5_slot_19 dX5_slot_20 dX5_slot_22 dX5_slot_25 ht (Nat.le_of_ble_eq_true rfl) (Nat.le_of_ble_eq_true rfl) (Nat.le_of_ble_eq_true rfl) (Nat.le_of_ble_eq_true rfl) hlk (Nat.le_of_ble_eq_true rfl) (Nat.le_of_ble_eq_true rfl) (congrArg Prod.fst ((if_pos h1).trans ((if_pos h3).trans rfl)))
def m_fuelAgain (C : gCT) (n1 : Int32) : Nat × Int32 × gCT :=
  if (m_runAt C n1) = 0 then (
    let C2 : gCT := m_doAgain C n1.toNatClampNeg;
    let x3 : Int32 := C2 7 24 2;
    (0, x3, C2)
  ) else ((m_runAt C n1), 0, C)
set_option maxHeartbeats 4000000 in
set_option maxRecDepth 100000 in
theorem c_m_fuelAgain (l : Launch) (hst : l.stackTraces = false) (G : gG) (lv : gLv) (ad : gAd) (C : gCT) (n1 : Int32) (rc bcap : Nat) (hT : gTop lv C) (hRs : gRuns lv C rc bcap) : gMxi l yX5_fuelAgain cX5_fuelAgain 2 (some .int) (gRm 8 181 2 12) G [.ref (ad 0 0), .int n1] lv ad C (m_fuelAgain C n1) := by
  refine x_met (own := RX5) (XC := fun sz => gXC G (gA lv ad sz) lv ad (gF G C ad) _) (by decide) rfl (Nat.le_of_ble_eq_true rfl) ?_
  intro p e s m below meth c ls X hw hr hlk ht hl
  have hx := X.1.1; have hb := X.1.2.1; have hml := X.1.2.2.1; have hown := X.1.2.2.2.1; have hts := X.1.2.2.2.2
  have hl : lv_has ls 2 [(0, .ref (ad 0 0)), (1, .int n1)] := hl
  refine lv_aload_n hx hb dX5_fuelAgain_0 rfl (lv_at hl 0 rfl) ?_
  refine lv_aload_n hx hb dX5_fuelAgain_1 rfl (lv_at hl 0 rfl) ?_
  refine lv_iload_n hx hb dX5_fuelAgain_2 rfl (lv_at hl 1 rfl) ?_
  refine x_rr X hw (x_runV X (c_m_runAt l hst G lv ad _ _ _ _ hT hRs _) cy_X5_runAt ml_RX5_154 ⟨(Nat.le_of_ble_eq_true rfl), (Nat.le_of_ble_eq_true rfl)⟩ gP.blind (g_recv X hw 0 _ (hT.1) rfl rfl) (gP_call X hw _) rfl hl.1 rfl (Nat.le_of_ble_eq_true rfl) dX5_fuelAgain_3 ⟨(Nat.le_of_ble_eq_true rfl), (Nat.le_of_ble_eq_true rfl)⟩) (fun E ce q H locs hE hw q1 q2 q3 => ?_) (fun H locs h1 hw => ?_)
  · exact x_on X hw hE ht hlk q1 q2 q3 (Nat.le_of_ble_eq_true rfl) (Nat.le_of_ble_eq_true rfl) (congrArg Prod.fst ((if_neg (gExc_ne hE)).trans rfl))
  obtain ⟨cnt, cap, hR, hM, hf4, hC⟩ := hRs.2.2 _ (m_runAt_lt hRs h1)
  refine r_rvx X hw (r_runV X (c_m_doAgain l G lv ad _ _ _ _ hT hR hM hf4 hC _) cy_X5_doAgain ml_RX5_206 ⟨(Nat.le_of_ble_eq_true rfl), (Nat.le_of_ble_eq_true rfl)⟩ gP.blind (g_recv X hw 0 _ (hT.1) rfl rfl) (gP_call X hw _) rfl hl.1 rfl (Nat.le_of_ble_eq_true rfl) dX5_fuelAgain_6 ⟨(Nat.le_of_ble_eq_true rfl), (Nat.le_of_ble_eq_true rfl)⟩) (fun H locs hw => ?_)
  refine lv_aload_n hx hb dX5_fuelAgain_9 rfl (lv_at hl 0 rfl) ?_
  refine r_get X hw 0 _ 5 (hT.1) rfl rfl k_X5 (by decide) fl_RX5_35 dX5_fuelAgain_10 ?_
  refine r_get X hw 7 _ 5 (hT.2.2.2.2.2.1.1) rfl rfl k_X3 (by decide) fl_RX5_205 dX5_fuelAgain_13 ?_
  refine lv_topi (fun x3 ex3 => ?_)
  subst ex3
  exact x_iret X hw hr rfl hlk (Nat.le_of_ble_eq_true rfl) (Nat.le_of_ble_eq_true rfl) ((if_pos h1).trans rfl) dX5_fuelAgain_16
def m_slotAgain (C : gCT) (n1 n2 : Int32) : Nat × Int32 × gCT :=
  if (m_runAt C n1) = 0 then (
    let x2 : Int32 := m_isWithin n2 0 7;
    if x2 = 0 then (
      (1, 0, C)
    ) else (
      let C4 : gCT := m_doAgain C n1.toNatClampNeg;
      let x5 : Int32 := C4 9 24 n2.toNatClampNeg;
      (0, x5, C4)
    )
  ) else ((m_runAt C n1), 0, C)
set_option maxHeartbeats 4000000 in
set_option maxRecDepth 100000 in
theorem c_m_slotAgain (l : Launch) (hst : l.stackTraces = false) (G : gG) (lv : gLv) (ad : gAd) (C : gCT) (n1 n2 : Int32) (rc bcap : Nat) (hT : gTop lv C) (hRs : gRuns lv C rc bcap) : gMxi l yX5_slotAgain cX5_slotAgain 4 (some .int) (gRm 8 181 2 12) G [.ref (ad 0 0), .int n1, .int n2] lv ad C (m_slotAgain C n1 n2) := by
  refine x_met (own := RX5) (XC := fun sz => gXC G (gA lv ad sz) lv ad (gF G C ad) _) (by decide) rfl (Nat.le_of_ble_eq_true rfl) ?_
  intro p e s m below meth c ls X hw hr hlk ht hl
  have hx := X.1.1; have hb := X.1.2.1; have hml := X.1.2.2.1; have hown := X.1.2.2.2.1; have hts := X.1.2.2.2.2
  have hl : lv_has ls 4 [(0, .ref (ad 0 0)), (1, .int n1), (2, .int n2)] := hl
  refine lv_aload_n hx hb dX5_slotAgain_0 rfl (lv_at hl 0 rfl) ?_
  refine lv_iload_n hx hb dX5_slotAgain_1 rfl (lv_at hl 1 rfl) ?_
  refine x_rr X hw (x_runV X (c_m_runAt l hst G lv ad _ _ _ _ hT hRs _) cy_X5_runAt ml_RX5_154 ⟨(Nat.le_of_ble_eq_true rfl), (Nat.le_of_ble_eq_true rfl)⟩ gP.blind (g_recv X hw 0 _ (hT.1) rfl rfl) (gP_call X hw _) rfl hl.1 rfl (Nat.le_of_ble_eq_true rfl) dX5_slotAgain_2 ⟨(Nat.le_of_ble_eq_true rfl), (Nat.le_of_ble_eq_true rfl)⟩) (fun E ce q H locs hE hw q1 q2 q3 => ?_) (fun H locs h1 hw => ?_)
  · exact x_on X hw hE ht hlk q1 q2 q3 (Nat.le_of_ble_eq_true rfl) (Nat.le_of_ble_eq_true rfl) (congrArg Prod.fst ((if_neg (gExc_ne hE)).trans rfl))
  obtain ⟨cnt, cap, hR, hM, hf4, hC⟩ := hRs.2.2 _ (m_runAt_lt hRs h1)
  refine lv_astore_n (lv' := [(3, .ref (ad 11 n1.toNatClampNeg)), (0, .ref (ad 0 0)), (1, .int n1), (2, .int n2)]) hx hb dX5_slotAgain_5 rfl hl (by decide) rfl (fun ls hl => ?_)
  refine lv_iload_n hx hb dX5_slotAgain_6 rfl (lv_at hl 3 rfl) ?_
  refine lv_iconst (v := 0) hx hb dX5_slotAgain_7 (by decide) ?_
  refine lv_bipush (v := 7) hx hb dX5_slotAgain_8 (by decide) ?_
  refine r_rp (r_runS X (c_m_isWithin l n2 0 7) cy_X5_isWithin ml_RX5_44 ⟨(Nat.le_of_ble_eq_true rfl), (Nat.le_of_ble_eq_true rfl)⟩ gPc_blind (fun _ _ _ => ⟨rfl, trivial⟩) rfl hl.1 rfl (Nat.le_of_ble_eq_true rfl) dX5_slotAgain_10 ⟨(Nat.le_of_ble_eq_true rfl), (Nat.le_of_ble_eq_true rfl)⟩) ?_
  refine lv_topi (fun x2 ex2 => ?_)
  refine lv_if_ne (tgt := 26) hx hb dX5_slotAgain_13 (by decide) (fun h3 => ?_) (fun h3 => ?_)
  · have hq : ¬ m_isWithin n2 0 7 = 0 := by subst ex2; assumption
    refine lv_aload_n hx hb dX5_slotAgain_26 rfl (lv_at hl 1 rfl) ?_
    refine lv_aload_n hx hb dX5_slotAgain_27 rfl (lv_at hl 0 rfl) ?_
    refine r_rvx X hw (r_runV X (c_m_doAgain l G lv ad _ _ _ _ hT hR hM hf4 hC _) cy_X5_doAgain ml_RX5_206 ⟨(Nat.le_of_ble_eq_true rfl), (Nat.le_of_ble_eq_true rfl)⟩ gP.blind (g_recv X hw 0 _ (hT.1) rfl rfl) (gP_call X hw _) rfl hl.1 rfl (Nat.le_of_ble_eq_true rfl) dX5_slotAgain_28 ⟨(Nat.le_of_ble_eq_true rfl), (Nat.le_of_ble_eq_true rfl)⟩) (fun H locs hw => ?_)
    refine lv_aload_n hx hb dX5_slotAgain_31 rfl (lv_at hl 1 rfl) ?_
    refine r_get X hw 0 _ 5 (hT.1) rfl rfl k_X5 (by decide) fl_RX5_35 dX5_slotAgain_32 ?_
    refine r_get X hw 7 _ 1 (hT.2.2.2.2.2.1.1) rfl rfl k_X3 (by decide) fl_RX5_211 dX5_slotAgain_35 ?_
    refine lv_iload_n hx hb dX5_slotAgain_38 rfl (lv_at hl 3 rfl) ?_
    refine r_iald X hw 9 _ (hT.2.2.2.2.2.1.2.2.1) rfl (by exact vp_in_w hq (by decide)) dX5_slotAgain_39 ?_
    refine lv_topi (fun x5 ex5 => ?_)
    subst ex5 ex2
    exact x_iret X hw hr rfl hlk (Nat.le_of_ble_eq_true rfl) (Nat.le_of_ble_eq_true rfl) ((if_pos h1).trans ((if_neg h3).trans rfl)) dX5_slotAgain_40
  · subst ex2
    exact r_throw X hst hw 1 (Or.inl ⟨rfl, rfl⟩) (by decide) cl_RX5_113 ini_IndexOutOfBoundsException sx_209 x_at_1 x_gd_1 hl.1 dX5_slotAgain_16 dX5_slotAgain_19 dX5_slotAgain_20 dX5_slotAgain_22 dX5_slotAgain_25 ht (Nat.le_of_ble_eq_true rfl) (Nat.le_of_ble_eq_true rfl) (Nat.le_of_ble_eq_true rfl) (Nat.le_of_ble_eq_true rfl) hlk (Nat.le_of_ble_eq_true rfl) (Nat.le_of_ble_eq_true rfl) (congrArg Prod.fst ((if_pos h1).trans ((if_pos h3).trans rfl)))

theorem gForm.cong {lv : gLv} {C D : gCT} {f : Nat} (h : gForm lv C f) (e : D 4 = C 4) : gForm lv D f := by
  unfold gForm at h ⊢
  rw [e]
  exact h
theorem gForm.v6 {lv : gLv} {C : gCT} {f : Nat} (h : gForm lv C f) : (C 4 f 0).toNatClampNeg ≤ 6 := by
  obtain ⟨v, hv, e⟩ := h.2.2.2.2.2
  rw [e, nI_clamp (by omega)]
  exact hv
theorem gB11_code {G : gG} {x : Nat → Int32} {ad : gAd} {r d : Nat} (hd : d < 2 ^ 31) : gB G 11 r (upd x 7 (nI d)) ad = .inr (5, [.int (x 0), .int (x 1), .ref (ad 4 (x 6).toNatClampNeg), .ref (ad 7 r), .ref (ad 2 r), .ref (ad 12 r), .ref (ad 14 d), .int (x 2), .int (x 3), .int (x 4), .int (x 5)]) := by
  have h := nI_clamp hd
  simp [gB, upd, h]
theorem m_newest_k {C : gCT} {f : Nat} : (m_newest C f).2 = C := m_newest_C C f
def m_takeNewest (C : gCT) (r : Nat) : gCT :=
  let C1 : gCT := cs C 11 r 7 (nI (8 * (C 11 r 6).toNatClampNeg + (C 4 (C 11 r 6).toNatClampNeg 0).toNatClampNeg));
  let x2 : Int32 := (m_newest C1 ((C1 11 r 6).toNatClampNeg)).1;
  let C3 : gCT := cs C1 11 r 2 x2;
  let x4 : Int32 := C3 4 ((C3 11 r 6).toNatClampNeg) 1;
  let C5 : gCT := cs C3 11 r 3 x4;
  let C6 : gCT := g2 C5 12 r (va_cpy (C5 18 0) (C5 12 r) (0 : Int32).toNatClampNeg (0 : Int32).toNatClampNeg (16 : Int32).toNatClampNeg);
  C6
set_option maxHeartbeats 4000000 in
set_option maxRecDepth 100000 in
theorem c_m_takeNewest (l : Launch) (G : gG) (lv : gLv) (ad : gAd) (C : gCT) (r : Nat) (h11 : lv 11 r) (h12 : lv 12 r) (h18 : lv 18 0) (hF : gForm lv C (C 11 r 6).toNatClampNeg) (hf4 : (C 11 r 6).toNatClampNeg < 4) : gMv l yX4_takeNewest cX4_takeNewest 2 (gRm 1 20 0 0) G [.ref (ad 11 r), .ref (ad 18 0)] lv ad (gF G C ad) (gEv lv ad (gF G (m_takeNewest C r) ad)) := by
  refine r_met (own := RX4) (by decide) rfl (Nat.le_of_ble_eq_true rfl) ?_
  intro p e s m below meth c ls X hw hr hlk _ hl
  have hx := X.1.1; have hb := X.1.2.1; have hml := X.1.2.2.1; have hown := X.1.2.2.2.1; have hts := X.1.2.2.2.2
  have hl : lv_has ls 2 [(0, .ref (ad 11 r)), (1, .ref (ad 18 0))] := hl
  refine lv_aload_n hx hb dX4_takeNewest_0 rfl (lv_at hl 0 rfl) ?_
  refine lv_aload_n hx hb dX4_takeNewest_1 rfl (lv_at hl 0 rfl) ?_
  refine r_get X hw 11 _ 2 (h11) rfl rfl k_X4 (by decide) fl_RX4_36 dX4_takeNewest_2 ?_
  refine r_get X hw 4 _ 1 (by (try simp (disch := decide) only [cs_o, cs_k, m_goOn_11, m_goOn_4, m_addTo_k]); exact hF.1) rfl rfl k_X2 (by decide) fl_RX4_40 dX4_takeNewest_5 ?_
  refine s_putr X hw 11 _ 6 7 h11 (v := nI (8 * (C 11 r 6).toNatClampNeg + (C 4 (C 11 r 6).toNatClampNeg 0).toNatClampNeg)) rfl (gB11_code (by have := hF.v6; omega)) k_X4 (by decide) (Nat.le_of_ble_eq_true rfl) fl_RX4_46 rfl rfl rfl dX4_takeNewest_8 (fun H locs hw => ?_)
  refine lv_aload_n hx hb dX4_takeNewest_11 rfl (lv_at hl 0 rfl) ?_
  refine lv_aload_n hx hb dX4_takeNewest_12 rfl (lv_at hl 0 rfl) ?_
  refine r_get X hw 11 _ 2 (h11) rfl rfl k_X4 (by decide) fl_RX4_36 dX4_takeNewest_13 ?_
  refine r_rix X hw (r_runV X (c_m_newest_ro l G lv ad _ _  (by (try simp (disch := decide) only [cs_o, cs_k, m_goOn_11, m_goOn_4, m_addTo_k]); exact hF.cong (by simp (disch := decide) only [cs_k])) _) cy_X2_newestNumber ml_RX4_49 ⟨(Nat.le_of_ble_eq_true rfl), (Nat.le_of_ble_eq_true rfl)⟩ gP.blind (g_recv X hw 4 _ (by (try simp (disch := decide) only [cs_o, cs_k, m_goOn_11, m_goOn_4, m_addTo_k]); exact hF.1) rfl rfl) (gP_call X hw _) rfl hl.1 rfl (Nat.le_of_ble_eq_true rfl) dX4_takeNewest_16 ⟨(Nat.le_of_ble_eq_true rfl), (Nat.le_of_ble_eq_true rfl)⟩) (fun H locs hw => ?_)
  refine lv_topi (fun x2 ex2 => ?_)
  refine s_put X hw 11 _ 7 2 (h11) rfl rfl k_X4 (by decide) (Nat.le_of_ble_eq_true rfl) fl_RX4_53 rfl rfl dX4_takeNewest_19 (fun H locs hw => ?_)
  refine lv_aload_n hx hb dX4_takeNewest_22 rfl (lv_at hl 0 rfl) ?_
  refine lv_aload_n hx hb dX4_takeNewest_23 rfl (lv_at hl 0 rfl) ?_
  refine r_get X hw 11 _ 2 (h11) rfl rfl k_X4 (by decide) fl_RX4_36 dX4_takeNewest_24 ?_
  refine r_get X hw 4 _ 3 (by (try simp (disch := decide) only [cs_o, cs_k, m_goOn_11, m_goOn_4, m_addTo_k]); exact hF.1) rfl rfl k_X2 (by decide) fl_RX4_56 dX4_takeNewest_27 ?_
  refine lv_topi (fun x4 ex4 => ?_)
  refine s_put X hw 11 _ 8 3 (h11) rfl rfl k_X4 (by decide) (Nat.le_of_ble_eq_true rfl) fl_RX4_59 rfl rfl dX4_takeNewest_30 (fun H locs hw => ?_)
  refine lv_aload_n hx hb dX4_takeNewest_33 rfl (lv_at hl 1 rfl) ?_
  refine lv_iconst (v := 0) hx hb dX4_takeNewest_34 (by decide) ?_
  refine lv_aload_n hx hb dX4_takeNewest_35 rfl (lv_at hl 0 rfl) ?_
  refine r_get X hw 11 _ 5 (h11) rfl rfl k_X4 (by decide) fl_RX4_25 dX4_takeNewest_36 ?_
  refine lv_iconst (v := 0) hx hb dX4_takeNewest_39 (by decide) ?_
  refine lv_bipush (v := 16) hx hb dX4_takeNewest_40 (by decide) ?_
  refine s_copyi X hw 18 0 12 _ h18 h12 rfl (fun _ => rfl) ml_RX4_62 hl.1.symm (by decide) (by decide) (by decide) (by decide) (by decide) (Nat.le_of_ble_eq_true rfl) (Nat.le_of_ble_eq_true rfl) dX4_takeNewest_42 (fun H locs hw => ?_)
  subst ex4 ex2
  exact r_vret X hw hr hlk (Nat.le_of_ble_eq_true rfl) (Nat.le_of_ble_eq_true rfl) (gEv_of (rfl)) dX4_takeNewest_45
theorem m_takeNewest_k (C : gCT) (r : Nat) {κ : Nat} (h1 : κ ≠ 11) (h2 : κ ≠ 12) : m_takeNewest C r κ = C κ := by
  unfold m_takeNewest
  rw [show ∀ (D : gCT) (x : Nat → Int32), g2 D 12 r x κ = D κ from fun D x => by funext b; simp [g2, h2]]
  simp only [cs_k _ _ _ _ h1]
theorem m_newest_1 (C : gCT) (f : Nat) : (m_newest C f).1 = C 4 f 0 - 1 := rfl
def m_startOver (C : gCT) (r : Nat) : gCT :=
  let C1 : gCT := m_takeNewest C r;
  let x2 : Int32 := C1 11 r 3;
  let C3 : gCT := m_reset C1 r x2;
  C3
set_option maxHeartbeats 4000000 in
set_option maxRecDepth 100000 in
theorem c_m_startOver (l : Launch) (G : gG) (lv : gLv) (ad : gAd) (C : gCT) (r : Nat) (cnt cap : Nat) (hT : gTop lv C) (hR : gRun lv C r cnt cap) (hM : gM lv r) (hf4 : (C 11 r 6).toNatClampNeg < 4) (hC : gCode lv (C 11 r 7).toNatClampNeg) : gMv l yX5_startOver cX5_startOver 2 (gRm 2 41 0 0) G [.ref (ad 0 0), .ref (ad 11 r)] lv ad (gF G C ad) (gEv lv ad (gF G (m_startOver C r) ad)) := by
  refine r_met (own := RX5) (by decide) rfl (Nat.le_of_ble_eq_true rfl) ?_
  intro p e s m below meth c ls X hw hr hlk _ hl
  have hx := X.1.1; have hb := X.1.2.1; have hml := X.1.2.2.1; have hown := X.1.2.2.2.1; have hts := X.1.2.2.2.2
  have hl : lv_has ls 2 [(0, .ref (ad 0 0)), (1, .ref (ad 11 r))] := hl
  have hF := hT.2.2.2.2.2.2 _ hf4
  refine lv_aload_n hx hb dX5_startOver_0 rfl (lv_at hl 1 rfl) ?_
  refine lv_aload_n hx hb dX5_startOver_1 rfl (lv_at hl 0 rfl) ?_
  refine r_get X hw 0 _ 3 (hT.1) rfl rfl k_X5 (by decide) fl_RX5_26 dX5_startOver_2 ?_
  refine r_rvx X hw (r_runV X (c_m_takeNewest l G lv ad _ _ hR.2.1 hR.2.2.1 hT.2.2.2.1 hF hf4 _) cy_X4_takeNewest ml_RX5_246 ⟨(Nat.le_of_ble_eq_true rfl), (Nat.le_of_ble_eq_true rfl)⟩ gP.blind (g_recv X hw 11 _ hR.2.1 rfl rfl) (gP_call X hw _) rfl hl.1 rfl (Nat.le_of_ble_eq_true rfl) dX5_startOver_5 ⟨(Nat.le_of_ble_eq_true rfl), (Nat.le_of_ble_eq_true rfl)⟩) (fun H locs hw => ?_)
  refine lv_aload_n hx hb dX5_startOver_8 rfl (lv_at hl 1 rfl) ?_
  refine r_get X hw 11 _ 3 (hR.2.1) rfl rfl k_X4 (by decide) fl_RX5_168 dX5_startOver_9 ?_
  refine lv_aload_n hx hb dX5_startOver_12 rfl (lv_at hl 1 rfl) ?_
  refine r_get X hw 11 _ 8 (hR.2.1) rfl rfl k_X4 (by decide) fl_RX5_250 dX5_startOver_13 ?_
  refine lv_topi (fun x2 ex2 => ?_)
  refine r_rvx X hw (r_runV X (c_m_reset l G lv ad _ _ _ hM _) cy_X3_reset ml_RX5_253 ⟨(Nat.le_of_ble_eq_true rfl), (Nat.le_of_ble_eq_true rfl)⟩ gP.blind (g_recv X hw 7 _ (hM.1) rfl rfl) (gP_call X hw _) rfl hl.1 rfl (Nat.le_of_ble_eq_true rfl) dX5_startOver_16 ⟨(Nat.le_of_ble_eq_true rfl), (Nat.le_of_ble_eq_true rfl)⟩) (fun H locs hw => ?_)
  subst ex2
  exact r_vret X hw hr hlk (Nat.le_of_ble_eq_true rfl) (Nat.le_of_ble_eq_true rfl) (gEv_of (rfl)) dX5_startOver_19
def m_pay2 (C : gCT) (r : Nat) (v : Int32) : gCT :=
  let x1 : Int32 := C 4 ((C 11 r 6).toNatClampNeg) 2;
  let x2 : Int32 := x1 - v;
  let C3 : gCT := cs C 4 ((C 11 r 6).toNatClampNeg) 2 x2;
  let x4 : Int32 := C3 11 r 0;
  let C5 : gCT := m_addTo C3 19 0 16 x4 v;
  C5
set_option maxHeartbeats 4000000 in
set_option maxRecDepth 100000 in
theorem c_m_pay2 (l : Launch) (G : gG) (lv : gLv) (ad : gAd) (C : gCT) (r : Nat) (v : Int32) (h0 : lv 0 0) (h19 : lv 19 0) (h11 : lv 11 r) (h4 : lv 4 (C 11 r 6).toNatClampNeg) : gMv l yX5_payRespondent cX5_payRespondent 3 (gRm 1 22 0 0) G [.ref (ad 0 0), .ref (ad 11 r), .int v] lv ad (gF G C ad) (gEv lv ad (gF G (m_pay2 C r v) ad)) := by
  refine r_met (own := RX5) (by decide) rfl (Nat.le_of_ble_eq_true rfl) ?_
  intro p e s m below meth c ls X hw hr hlk _ hl
  have hx := X.1.1; have hb := X.1.2.1; have hml := X.1.2.2.1; have hown := X.1.2.2.2.1; have hts := X.1.2.2.2.2
  have hl : lv_has ls 3 [(0, .ref (ad 0 0)), (1, .ref (ad 11 r)), (2, .int v)] := hl
  refine lv_aload_n hx hb dX5_payRespondent_0 rfl (lv_at hl 1 rfl) ?_
  refine r_get X hw 11 _ 2 (h11) rfl rfl k_X4 (by decide) fl_RX5_174 dX5_payRespondent_1 ?_
  refine lv_dup hx hb dX5_payRespondent_4 rfl ?_
  refine r_get X hw 4 _ 4 (by (try simp (disch := decide) only [cs_o, cs_k, m_goOn_11, m_goOn_4, m_addTo_k]); exact h4) rfl rfl k_X2 (by decide) fl_RX5_110 dX5_payRespondent_5 ?_
  refine lv_topi (fun x1 ex1 => ?_)
  refine lv_iload_n hx hb dX5_payRespondent_8 rfl (lv_at hl 2 rfl) ?_
  refine lv_isub hx hb dX5_payRespondent_9 ?_
  refine lv_topi (fun x2 ex2 => ?_)
  refine s_put X hw 4 _ 4 2 (by (try simp (disch := decide) only [cs_o, cs_k, m_goOn_11, m_goOn_4, m_addTo_k]); exact h4) rfl rfl k_X2 (by decide) (Nat.le_of_ble_eq_true rfl) fl_RX5_110 rfl rfl dX5_payRespondent_10 (fun H locs hw => ?_)
  refine lv_aload_n hx hb dX5_payRespondent_13 rfl (lv_at hl 0 rfl) ?_
  refine r_get X hw 0 _ 4 (h0) rfl rfl k_X5 (by decide) fl_RX5_29 dX5_payRespondent_14 ?_
  refine lv_aload_n hx hb dX5_payRespondent_17 rfl (lv_at hl 1 rfl) ?_
  refine r_get X hw 11 _ 0 (h11) rfl rfl k_X4 (by decide) fl_RX5_242 dX5_payRespondent_18 ?_
  refine lv_topi (fun x4 ex4 => ?_)
  refine lv_iload_n hx hb dX5_payRespondent_21 rfl (lv_at hl 2 rfl) ?_
  refine r_rvx X hw (r_runS X (c_m_addTo l G lv ad _ 19 _ 16 x4 v (by decide) (h19) (fun _ => rfl) _) cy_X5_addTo ml_RX5_266 ⟨(Nat.le_of_ble_eq_true rfl), (Nat.le_of_ble_eq_true rfl)⟩ gP.blind (gP_call X hw _) rfl hl.1 rfl (Nat.le_of_ble_eq_true rfl) dX5_payRespondent_22 ⟨(Nat.le_of_ble_eq_true rfl), (Nat.le_of_ble_eq_true rfl)⟩) (fun H locs hw => ?_)
  subst ex4 ex2 ex1
  exact r_vret X hw hr hlk (Nat.le_of_ble_eq_true rfl) (Nat.le_of_ble_eq_true rfl) (gEv_of (rfl)) dX5_payRespondent_25
def m_go (C : gCT) (r : Nat) : gCT :=
  let x1 : Int32 := C 11 r 1;
  let x2 : Int32 := (m_isFullFor C ((C 11 r 6).toNatClampNeg) x1).1;
  let x5 : Int32 :=
    if x2 = 0 then (
      1000
    ) else (
      0
    );
  let C6 : gCT := m_goOn C r r x5;
  let x7 : Int32 := C6 7 r 4;
  let C8 : gCT := cs C6 11 r 4 x7;
  let x9 : Int32 := C8 11 r 4;
  if x9 = 2 then (
    let x31 : Int32 := C8 11 r 1;
    let C32 : gCT := m_addTo C8 6 ((C8 11 r 6).toNatClampNeg) 4 x31 1;
    let x33 : Int32 := C32 7 r 3;
    let x34 : Int32 := C32 4 ((C32 11 r 6).toNatClampNeg) 2;
    let x35 : Int32 := if x34 < x33 then x34 else x33;
    let C36 : gCT := m_pay2 C32 r x35;
    C36
  ) else (
    let x11 : Int32 := C8 11 r 4;
    if x11 = 5 then (
      let x13 : Int32 := C8 4 ((C8 11 r 6).toNatClampNeg) 2;
      let x14 : Int32 := C8 11 r 5;
      let x15 : Int32 := x13 + x14;
      let C16 : gCT := cs C8 4 ((C8 11 r 6).toNatClampNeg) 2 x15;
      let x17 : Int32 := C16 0 0 0;
      let x18 : Int32 := C16 11 r 5;
      let x19 : Int32 := x17 + x18;
      let C20 : gCT := cs C16 0 0 0 x19;
      C20
    ) else (
      let x21 : Int32 := C8 11 r 4;
      if x21 = 4 then (
        let x23 : Int32 := C8 4 ((C8 11 r 6).toNatClampNeg) 2;
        let x24 : Int32 := C8 11 r 5;
        let x25 : Int32 := x23 + x24;
        let C26 : gCT := cs C8 4 ((C8 11 r 6).toNatClampNeg) 2 x25;
        let x27 : Int32 := C26 0 0 0;
        let x28 : Int32 := C26 11 r 5;
        let x29 : Int32 := x27 + x28;
        let C30 : gCT := cs C26 0 0 0 x29;
        C30
      ) else (
        C8
      )
    )
  )
set_option maxHeartbeats 4000000 in
set_option maxRecDepth 100000 in
theorem c_m_go (l : Launch) (G : gG) (lv : gLv) (ad : gAd) (C : gCT) (r : Nat) (cnt cap : Nat) (hT : gTop lv C) (hR : gRun lv C r cnt cap) (hM : gM lv r) (hf4 : (C 11 r 6).toNatClampNeg < 4) (hC : gCode lv (C 11 r 7).toNatClampNeg) : gMv l yX5_goOn cX5_goOn 2 (gRm 7 160 0 0) G [.ref (ad 0 0), .ref (ad 11 r)] lv ad (gF G C ad) (gEv lv ad (gF G (m_go C r) ad)) := by
  refine r_met (own := RX5) (by decide) rfl (Nat.le_of_ble_eq_true rfl) ?_
  intro p e s m below meth c ls X hw hr hlk _ hl
  have hx := X.1.1; have hb := X.1.2.1; have hml := X.1.2.2.1; have hown := X.1.2.2.2.1; have hts := X.1.2.2.2.2
  have hl : lv_has ls 2 [(0, .ref (ad 0 0)), (1, .ref (ad 11 r))] := hl
  have hF := hT.2.2.2.2.2.2 _ hf4
  refine lv_aload_n hx hb dX5_goOn_0 rfl (lv_at hl 1 rfl) ?_
  refine r_get X hw 11 _ 3 (hR.2.1) rfl rfl k_X4 (by decide) fl_RX5_168 dX5_goOn_1 ?_
  refine lv_aload_n hx hb dX5_goOn_4 rfl (lv_at hl 1 rfl) ?_
  refine lv_aload_n hx hb dX5_goOn_5 rfl (lv_at hl 1 rfl) ?_
  refine r_get X hw 11 _ 2 (hR.2.1) rfl rfl k_X4 (by decide) fl_RX5_174 dX5_goOn_6 ?_
  refine lv_aload_n hx hb dX5_goOn_9 rfl (lv_at hl 1 rfl) ?_
  refine r_get X hw 11 _ 1 (hR.2.1) rfl rfl k_X4 (by decide) fl_RX5_256 dX5_goOn_10 ?_
  refine lv_topi (fun x1 ex1 => ?_)
  refine r_rix X hw (r_runV X (c_m_isFullFor_ro l G lv ad _ _ _ hF _) cy_X2_isFullFor ml_RX5_259 ⟨(Nat.le_of_ble_eq_true rfl), (Nat.le_of_ble_eq_true rfl)⟩ gP.blind (g_recv X hw 4 _ (by (try simp (disch := decide) only [cs_o, cs_k, m_goOn_11, m_goOn_4, m_addTo_k]); exact hF.1) rfl rfl) (gP_call X hw _) rfl hl.1 rfl (Nat.le_of_ble_eq_true rfl) dX5_goOn_13 ⟨(Nat.le_of_ble_eq_true rfl), (Nat.le_of_ble_eq_true rfl)⟩) (fun H locs hw => ?_)
  refine lv_topi (fun x2 ex2 => ?_)
  refine r_J (nL := 2) (J := 26) (rest := [.ref (ad 11 r), .ref (ad 7 r)]) (L := [(0, .ref (ad 0 0)), (1, .ref (ad 11 r))]) (if x2 = 0 then ( 1000 ) else ( 0 )) (fun x5 ex5 ls hl => ?_) (fun J4 => ?_)
  · refine r_rvx X hw (r_runV X (c_m_goOn l G lv ad _ _ _ _ _ _ hM hR hC _) cy_X3_goOn ml_RX5_263 ⟨(Nat.le_of_ble_eq_true rfl), (Nat.le_of_ble_eq_true rfl)⟩ gP.blind (g_recv X hw 7 _ (hM.1) rfl rfl) (gP_call X hw _) rfl hl.1 rfl (Nat.le_of_ble_eq_true rfl) dX5_goOn_26 ⟨(Nat.le_of_ble_eq_true rfl), (Nat.le_of_ble_eq_true rfl)⟩) (fun H locs hw => ?_)
    refine lv_aload_n hx hb dX5_goOn_29 rfl (lv_at hl 1 rfl) ?_
    refine lv_aload_n hx hb dX5_goOn_30 rfl (lv_at hl 1 rfl) ?_
    refine r_get X hw 11 _ 3 (hR.2.1) rfl rfl k_X4 (by decide) fl_RX5_168 dX5_goOn_31 ?_
    refine r_get X hw 7 _ 7 (hM.1) rfl rfl k_X3 (by decide) fl_RX5_265 dX5_goOn_34 ?_
    refine lv_topi (fun x7 ex7 => ?_)
    refine s_put X hw 11 _ 9 4 (hR.2.1) rfl rfl k_X4 (by decide) (Nat.le_of_ble_eq_true rfl) fl_RX5_160 rfl rfl dX5_goOn_37 (fun H locs hw => ?_)
    refine lv_aload_n hx hb dX5_goOn_40 rfl (lv_at hl 1 rfl) ?_
    refine r_get X hw 11 _ 9 (hR.2.1) rfl rfl k_X4 (by decide) fl_RX5_160 dX5_goOn_41 ?_
    refine lv_topi (fun x9 ex9 => ?_)
    refine lv_iconst (v := 2) hx hb dX5_goOn_44 (by decide) ?_
    refine lv_icmp_ne (tgt := 88) hx hb dX5_goOn_45 (by decide) (fun h10 => ?_) (fun h10 => ?_)
    · refine lv_aload_n hx hb dX5_goOn_88 rfl (lv_at hl 1 rfl) ?_
      refine r_get X hw 11 _ 9 (hR.2.1) rfl rfl k_X4 (by decide) fl_RX5_160 dX5_goOn_89 ?_
      refine lv_topi (fun x11 ex11 => ?_)
      refine lv_iconst (v := 5) hx hb dX5_goOn_92 (by decide) ?_
      refine lv_icmp_eq (tgt := 104) hx hb dX5_goOn_93 (by decide) (fun h12 => ?_) (fun h12 => ?_)
      · refine lv_aload_n hx hb dX5_goOn_104 rfl (lv_at hl 1 rfl) ?_
        refine r_get X hw 11 _ 2 (hR.2.1) rfl rfl k_X4 (by decide) fl_RX5_174 dX5_goOn_105 ?_
        refine lv_dup hx hb dX5_goOn_108 rfl ?_
        refine r_get X hw 4 _ 4 (by (try simp (disch := decide) only [cs_o, cs_k, m_goOn_11, m_goOn_4, m_addTo_k]); exact hF.1) rfl rfl k_X2 (by decide) fl_RX5_110 dX5_goOn_109 ?_
        refine lv_topi (fun x13 ex13 => ?_)
        refine lv_aload_n hx hb dX5_goOn_112 rfl (lv_at hl 1 rfl) ?_
        refine r_get X hw 11 _ 10 (hR.2.1) rfl rfl k_X4 (by decide) fl_RX5_184 dX5_goOn_113 ?_
        refine lv_topi (fun x14 ex14 => ?_)
        refine lv_iadd hx hb dX5_goOn_116 ?_
        refine lv_topi (fun x15 ex15 => ?_)
        refine s_put X hw 4 _ 4 2 (by (try simp (disch := decide) only [cs_o, cs_k, m_goOn_11, m_goOn_4, m_addTo_k]); exact hF.1) rfl rfl k_X2 (by decide) (Nat.le_of_ble_eq_true rfl) fl_RX5_110 rfl rfl dX5_goOn_117 (fun H locs hw => ?_)
        refine lv_aload_n hx hb dX5_goOn_120 rfl (lv_at hl 0 rfl) ?_
        refine lv_dup hx hb dX5_goOn_121 rfl ?_
        refine r_get X hw 0 _ 6 (hT.1) rfl rfl k_X5 (by decide) fl_RX5_232 dX5_goOn_122 ?_
        refine lv_topi (fun x17 ex17 => ?_)
        refine lv_aload_n hx hb dX5_goOn_125 rfl (lv_at hl 1 rfl) ?_
        refine r_get X hw 11 _ 10 (hR.2.1) rfl rfl k_X4 (by decide) fl_RX5_184 dX5_goOn_126 ?_
        refine lv_topi (fun x18 ex18 => ?_)
        refine lv_iadd hx hb dX5_goOn_129 ?_
        refine lv_topi (fun x19 ex19 => ?_)
        refine s_put X hw 0 _ 6 0 (hT.1) rfl rfl k_X5 (by decide) (Nat.le_of_ble_eq_true rfl) fl_RX5_232 rfl rfl dX5_goOn_130 (fun H locs hw => ?_)
        subst ex19 ex18 ex17 ex15 ex14 ex13 ex11 ex9 ex7 ex5 ex2 ex1
        exact r_vret X hw hr hlk (Nat.le_of_ble_eq_true rfl) (Nat.le_of_ble_eq_true rfl) (gEv_of ((if_neg h10).trans ((if_pos h12).trans rfl))) dX5_goOn_133
      · refine lv_aload_n hx hb dX5_goOn_96 rfl (lv_at hl 1 rfl) ?_
        refine r_get X hw 11 _ 9 (hR.2.1) rfl rfl k_X4 (by decide) fl_RX5_160 dX5_goOn_97 ?_
        refine lv_topi (fun x21 ex21 => ?_)
        refine lv_iconst (v := 4) hx hb dX5_goOn_100 (by decide) ?_
        refine lv_icmp_ne (tgt := 133) hx hb dX5_goOn_101 (by decide) (fun h22 => ?_) (fun h22 => ?_)
        · subst ex21 ex11 ex9 ex7 ex5 ex2 ex1
          exact r_vret X hw hr hlk (Nat.le_of_ble_eq_true rfl) (Nat.le_of_ble_eq_true rfl) (gEv_of ((if_neg h10).trans ((if_neg h12).trans ((if_neg h22).trans rfl)))) dX5_goOn_133
        · refine lv_aload_n hx hb dX5_goOn_104 rfl (lv_at hl 1 rfl) ?_
          refine r_get X hw 11 _ 2 (hR.2.1) rfl rfl k_X4 (by decide) fl_RX5_174 dX5_goOn_105 ?_
          refine lv_dup hx hb dX5_goOn_108 rfl ?_
          refine r_get X hw 4 _ 4 (by (try simp (disch := decide) only [cs_o, cs_k, m_goOn_11, m_goOn_4, m_addTo_k]); exact hF.1) rfl rfl k_X2 (by decide) fl_RX5_110 dX5_goOn_109 ?_
          refine lv_topi (fun x23 ex23 => ?_)
          refine lv_aload_n hx hb dX5_goOn_112 rfl (lv_at hl 1 rfl) ?_
          refine r_get X hw 11 _ 10 (hR.2.1) rfl rfl k_X4 (by decide) fl_RX5_184 dX5_goOn_113 ?_
          refine lv_topi (fun x24 ex24 => ?_)
          refine lv_iadd hx hb dX5_goOn_116 ?_
          refine lv_topi (fun x25 ex25 => ?_)
          refine s_put X hw 4 _ 4 2 (by (try simp (disch := decide) only [cs_o, cs_k, m_goOn_11, m_goOn_4, m_addTo_k]); exact hF.1) rfl rfl k_X2 (by decide) (Nat.le_of_ble_eq_true rfl) fl_RX5_110 rfl rfl dX5_goOn_117 (fun H locs hw => ?_)
          refine lv_aload_n hx hb dX5_goOn_120 rfl (lv_at hl 0 rfl) ?_
          refine lv_dup hx hb dX5_goOn_121 rfl ?_
          refine r_get X hw 0 _ 6 (hT.1) rfl rfl k_X5 (by decide) fl_RX5_232 dX5_goOn_122 ?_
          refine lv_topi (fun x27 ex27 => ?_)
          refine lv_aload_n hx hb dX5_goOn_125 rfl (lv_at hl 1 rfl) ?_
          refine r_get X hw 11 _ 10 (hR.2.1) rfl rfl k_X4 (by decide) fl_RX5_184 dX5_goOn_126 ?_
          refine lv_topi (fun x28 ex28 => ?_)
          refine lv_iadd hx hb dX5_goOn_129 ?_
          refine lv_topi (fun x29 ex29 => ?_)
          refine s_put X hw 0 _ 6 0 (hT.1) rfl rfl k_X5 (by decide) (Nat.le_of_ble_eq_true rfl) fl_RX5_232 rfl rfl dX5_goOn_130 (fun H locs hw => ?_)
          subst ex29 ex28 ex27 ex25 ex24 ex23 ex21 ex11 ex9 ex7 ex5 ex2 ex1
          exact r_vret X hw hr hlk (Nat.le_of_ble_eq_true rfl) (Nat.le_of_ble_eq_true rfl) (gEv_of ((if_neg h10).trans ((if_neg h12).trans ((if_pos h22).trans rfl)))) dX5_goOn_133
    · refine lv_aload_n hx hb dX5_goOn_48 rfl (lv_at hl 1 rfl) ?_
      refine r_get X hw 11 _ 2 (hR.2.1) rfl rfl k_X4 (by decide) fl_RX5_174 dX5_goOn_49 ?_
      refine r_get X hw 4 _ 6 (by (try simp (disch := decide) only [cs_o, cs_k, m_goOn_11, m_goOn_4, m_addTo_k]); exact hF.1) rfl rfl k_X2 (by decide) fl_RX5_235 dX5_goOn_52 ?_
      refine lv_aload_n hx hb dX5_goOn_55 rfl (lv_at hl 1 rfl) ?_
      refine r_get X hw 11 _ 1 (hR.2.1) rfl rfl k_X4 (by decide) fl_RX5_256 dX5_goOn_56 ?_
      refine lv_topi (fun x31 ex31 => ?_)
      refine lv_iconst (v := 1) hx hb dX5_goOn_59 (by decide) ?_
      refine r_rvx X hw (r_runS X (c_m_addTo l G lv ad _ 6 _ 4 x31 1 (by decide) (by (try simp (disch := decide) only [cs_o, cs_k, m_goOn_11, m_goOn_4, m_addTo_k]); exact hF.2.2.1) (fun _ => rfl) _) cy_X5_addTo ml_RX5_266 ⟨(Nat.le_of_ble_eq_true rfl), (Nat.le_of_ble_eq_true rfl)⟩ gP.blind (gP_call X hw _) rfl hl.1 rfl (Nat.le_of_ble_eq_true rfl) dX5_goOn_60 ⟨(Nat.le_of_ble_eq_true rfl), (Nat.le_of_ble_eq_true rfl)⟩) (fun H locs hw => ?_)
      refine lv_aload_n hx hb dX5_goOn_63 rfl (lv_at hl 0 rfl) ?_
      refine lv_aload_n hx hb dX5_goOn_64 rfl (lv_at hl 1 rfl) ?_
      refine lv_aload_n hx hb dX5_goOn_65 rfl (lv_at hl 1 rfl) ?_
      refine r_get X hw 11 _ 3 (hR.2.1) rfl rfl k_X4 (by decide) fl_RX5_168 dX5_goOn_66 ?_
      refine r_get X hw 7 _ 6 (hM.1) rfl rfl k_X3 (by decide) fl_RX5_270 dX5_goOn_69 ?_
      refine lv_topi (fun x33 ex33 => ?_)
      refine lv_aload_n hx hb dX5_goOn_72 rfl (lv_at hl 1 rfl) ?_
      refine r_get X hw 11 _ 2 (hR.2.1) rfl rfl k_X4 (by decide) fl_RX5_174 dX5_goOn_73 ?_
      refine r_get X hw 4 _ 4 (by (try simp (disch := decide) only [cs_o, cs_k, m_goOn_11, m_goOn_4, m_addTo_k]); exact hF.1) rfl rfl k_X2 (by decide) fl_RX5_110 dX5_goOn_76 ?_
      refine lv_topi (fun x34 ex34 => ?_)
      refine va_mmin hx hb (hml.trans hl.1.symm) hown (hts _ ml_RX5_273) (hts _ mm_st_min) (hts _ mm_ini) (hts _ mm_co_min) (Nat.le_of_ble_eq_true rfl) (Nat.le_of_ble_eq_true rfl) (Nat.le_of_ble_eq_true rfl) (Nat.le_of_ble_eq_true rfl) dX5_goOn_79 ?_
      refine lv_topi (fun x35 ex35 => ?_)
      refine r_rvx X hw (r_runV X (c_m_pay2 l G lv ad _ _ _ hT.1 hT.2.2.2.2.1 hR.2.1 (by (try simp (disch := decide) only [cs_o, cs_k, m_goOn_11, m_goOn_4, m_addTo_k]); exact hF.1) _) cy_X5_payRespondent ml_RX5_187 ⟨(Nat.le_of_ble_eq_true rfl), (Nat.le_of_ble_eq_true rfl)⟩ gP.blind (g_recv X hw 0 0 hT.1 rfl rfl) (gP_call X hw _) rfl hl.1 rfl (Nat.le_of_ble_eq_true rfl) dX5_goOn_82 ⟨(Nat.le_of_ble_eq_true rfl), (Nat.le_of_ble_eq_true rfl)⟩) (fun H locs hw => ?_)
      refine lv_goto (tgt := 133) hx hb dX5_goOn_85 (by decide) ?_
      subst ex35 ex34 ex33 ex31 ex9 ex7 ex5 ex2 ex1
      exact r_vret X hw hr hlk (Nat.le_of_ble_eq_true rfl) (Nat.le_of_ble_eq_true rfl) (gEv_of ((if_pos h10).trans rfl)) dX5_goOn_133
  · refine lv_if_eq (tgt := 23) hx hb dX5_goOn_16 (by decide) (fun h3 => ?_) (fun h3 => ?_)
    · refine lv_sipush (v := 1000) hx hb dX5_goOn_23 (by decide) ?_
      exact J4 _ ((if_pos h3).trans rfl).symm _ hl
    · refine lv_iconst (v := 0) hx hb dX5_goOn_19 (by decide) ?_
      refine lv_goto (tgt := 26) hx hb dX5_goOn_20 (by decide) ?_
      exact J4 _ ((if_neg h3).trans rfl).symm _ hl

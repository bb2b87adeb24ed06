def m_answerAt (C : gCT) (n1 n2 : Int32) : Nat × Int32 × gCT :=
  if (m_runAt C n1) = 0 then (
    let x2 : Int32 := C 2 n1.toNatClampNeg 1;
    let x3 : Int32 := x2 - 1;
    let x4 : Int32 := m_isWithin n2 0 x3;
    if x4 = 0 then (
      (1, 0, C)
    ) else (
      let x6 : Int32 := C 13 (1024 * n1.toNatClampNeg + n2.toNatClampNeg) 1;
      let x7 : Int32 := 1000 * x6;
      let x8 : Int32 := C 13 (1024 * n1.toNatClampNeg + n2.toNatClampNeg) 0;
      let x9 : Int32 := 10 * x8;
      let x10 : Int32 := x7 + x9;
      let x11 : Int32 := C 13 (1024 * n1.toNatClampNeg + n2.toNatClampNeg) 2;
      let x12 : Int32 := x10 + x11;
      (0, x12, C)
    )
  ) else ((m_runAt C n1), 0, C)
set_option maxHeartbeats 4000000 in
set_option maxRecDepth 100000 in
theorem c_m_answerAt (l : Launch) (hst : l.stackTraces = false) (G : gG) (lv : gLv) (ad : gAd) (C : gCT) (n1 n2 : Int32) (rc bcap : Nat) (hT : gTop lv C) (hRs : gRuns lv C rc bcap) : gMxi l yX5_answerAt cX5_answerAt 5 (some .int) (gRm 7 103 2 12) G [.ref (ad 0 0), .int n1, .int n2] lv ad C (m_answerAt C n1 n2) := by
  refine x_met (own := RX5) (XC := fun sz => gXC G (gA lv ad sz) lv ad (gF G C ad) _) (by decide) rfl (Nat.le_of_ble_eq_true rfl) ?_
  intro p e s m below meth c ls X hw hr hlk ht hl
  have hx := X.1.1; have hb := X.1.2.1; have hml := X.1.2.2.1; have hown := X.1.2.2.2.1; have hts := X.1.2.2.2.2
  have hl : lv_has ls 5 [(0, .ref (ad 0 0)), (1, .int n1), (2, .int n2)] := hl
  refine lv_aload_n hx hb dX5_answerAt_0 rfl (lv_at hl 0 rfl) ?_
  refine lv_iload_n hx hb dX5_answerAt_1 rfl (lv_at hl 1 rfl) ?_
  refine x_rr X hw (x_runV X (c_m_runAt l hst G lv ad _ _ _ _ hT hRs _) cy_X5_runAt ml_RX5_154 ⟨(Nat.le_of_ble_eq_true rfl), (Nat.le_of_ble_eq_true rfl)⟩ gP.blind (g_recv X hw 0 _ (hT.1) rfl rfl) (gP_call X hw _) rfl hl.1 rfl (Nat.le_of_ble_eq_true rfl) dX5_answerAt_2 ⟨(Nat.le_of_ble_eq_true rfl), (Nat.le_of_ble_eq_true rfl)⟩) (fun E ce q H locs hE hw q1 q2 q3 => ?_) (fun H locs h1 hw => ?_)
  · exact x_on X hw hE ht hlk q1 q2 q3 (Nat.le_of_ble_eq_true rfl) (Nat.le_of_ble_eq_true rfl) (congrArg Prod.fst ((if_neg (gExc_ne hE)).trans rfl))
  obtain ⟨cnt, cap, hR, hM, hf4, hC⟩ := hRs.2.2 _ (m_runAt_lt hRs h1)
  refine lv_astore_n (lv' := [(3, .ref (ad 11 n1.toNatClampNeg)), (0, .ref (ad 0 0)), (1, .int n1), (2, .int n2)]) hx hb dX5_answerAt_5 rfl hl (by decide) rfl (fun ls hl => ?_)
  refine lv_iload_n hx hb dX5_answerAt_6 rfl (lv_at hl 3 rfl) ?_
  refine lv_iconst (v := 0) hx hb dX5_answerAt_7 (by decide) ?_
  refine lv_aload_n hx hb dX5_answerAt_8 rfl (lv_at hl 0 rfl) ?_
  refine r_get X hw 11 _ 4 (hR.2.1) rfl rfl k_X4 (by decide) fl_RX5_163 dX5_answerAt_9 ?_
  refine r_rix X hw (r_runV X (c_size l G lv ad _ _ (hR.2.2.2.1.1) _) cy_Jx4a65c_size_8abf5 ml_RX5_133 ⟨(Nat.le_of_ble_eq_true rfl), (Nat.le_of_ble_eq_true rfl)⟩ gP.blind (g_recv X hw 2 _ (hR.2.2.2.1.1) rfl rfl) (gP_call X hw _) rfl hl.1 rfl (Nat.le_of_ble_eq_true rfl) dX5_answerAt_12 ⟨(Nat.le_of_ble_eq_true rfl), (Nat.le_of_ble_eq_true rfl)⟩) (fun H locs hw => ?_)
  refine lv_topi (fun x2 ex2 => ?_)
  refine lv_iconst (v := 1) hx hb dX5_answerAt_15 (by decide) ?_
  refine lv_isub hx hb dX5_answerAt_16 ?_
  refine lv_topi (fun x3 ex3 => ?_)
  refine r_rp (r_runS X (c_m_isWithin l n2 0 x3) cy_X5_isWithin ml_RX5_44 ⟨(Nat.le_of_ble_eq_true rfl), (Nat.le_of_ble_eq_true rfl)⟩ gPc_blind (fun _ _ _ => ⟨rfl, trivial⟩) rfl hl.1 rfl (Nat.le_of_ble_eq_true rfl) dX5_answerAt_17 ⟨(Nat.le_of_ble_eq_true rfl), (Nat.le_of_ble_eq_true rfl)⟩) ?_
  refine lv_topi (fun x4 ex4 => ?_)
  refine lv_if_ne (tgt := 33) hx hb dX5_answerAt_20 (by decide) (fun h5 => ?_) (fun h5 => ?_)
  · have hin : vp_in n2 cnt := by subst ex4 ex3 ex2; rw [hR.2.2.2.1.2.1] at h5; exact vp_in_wm (by have := hR.2.2.2.1.2.2.2.1; have := hR.2.2.2.1.2.2.2.2.1; omega) h5
    refine lv_aload_n hx hb dX5_answerAt_33 rfl (lv_at hl 0 rfl) ?_
    refine r_get X hw 11 _ 4 (hR.2.1) rfl rfl k_X4 (by decide) fl_RX5_163 dX5_answerAt_34 ?_
    refine lv_iload_n hx hb dX5_answerAt_37 rfl (lv_at hl 3 rfl) ?_
    refine r_rrx X hw (r_runV X (c_lgetA l G lv ad _ _ _ _ n2 hR.1 hR.2.2.2.1 hin _) cy_Jx4a65c_get_915e3 ml_RX5_219 ⟨(Nat.le_of_ble_eq_true rfl), (Nat.le_of_ble_eq_true rfl)⟩ gP.blind (g_recv X hw 2 _ (hR.2.2.2.1.1) rfl rfl) (gP_call X hw _) rfl hl.1 rfl (Nat.le_of_ble_eq_true rfl) dX5_answerAt_38 ⟨(Nat.le_of_ble_eq_true rfl), (Nat.le_of_ble_eq_true rfl)⟩) (fun H locs hw => ?_)
    refine r_cast X hw 13 _ (hR.2.2.2.2 _ (vp_lt hin)) rfl k_X0 cl_RX5_223 dX5_answerAt_41 ?_
    refine lv_astore (lv' := [(4, .ref (ad 13 (1024 * n1.toNatClampNeg + n2.toNatClampNeg))), (3, .ref (ad 11 n1.toNatClampNeg)), (0, .ref (ad 0 0)), (1, .int n1), (2, .int n2)]) hx hb dX5_answerAt_44 hl (by decide) rfl (fun ls hl => ?_)
    refine lv_sipush (v := 1000) hx hb dX5_answerAt_46 (by decide) ?_
    refine lv_aload hx hb dX5_answerAt_49 (lv_at hl 0 rfl) ?_
    refine r_get X hw 13 _ 1 (hR.2.2.2.2 _ (vp_lt hin)) rfl rfl k_X0 (by decide) fl_RX5_225 dX5_answerAt_51 ?_
    refine lv_topi (fun x6 ex6 => ?_)
    refine lv_imul hx hb dX5_answerAt_54 ?_
    refine lv_topi (fun x7 ex7 => ?_)
    refine lv_bipush (v := 10) hx hb dX5_answerAt_55 (by decide) ?_
    refine lv_aload hx hb dX5_answerAt_57 (lv_at hl 0 rfl) ?_
    refine r_get X hw 13 _ 0 (hR.2.2.2.2 _ (vp_lt hin)) rfl rfl k_X0 (by decide) fl_RX5_228 dX5_answerAt_59 ?_
    refine lv_topi (fun x8 ex8 => ?_)
    refine lv_imul hx hb dX5_answerAt_62 ?_
    refine lv_topi (fun x9 ex9 => ?_)
    refine lv_iadd hx hb dX5_answerAt_63 ?_
    refine lv_topi (fun x10 ex10 => ?_)
    refine lv_aload hx hb dX5_answerAt_64 (lv_at hl 0 rfl) ?_
    refine r_get X hw 13 _ 2 (hR.2.2.2.2 _ (vp_lt hin)) rfl rfl k_X0 (by decide) fl_RX5_229 dX5_answerAt_66 ?_
    refine lv_topi (fun x11 ex11 => ?_)
    refine lv_iadd hx hb dX5_answerAt_69 ?_
    refine lv_topi (fun x12 ex12 => ?_)
    subst ex12 ex11 ex10 ex9 ex8 ex7 ex6 ex4 ex3 ex2
    exact x_iret X hw hr rfl hlk (Nat.le_of_ble_eq_true rfl) (Nat.le_of_ble_eq_true rfl) ((if_pos h1).trans ((if_neg h5).trans rfl)) dX5_answerAt_70
  · subst ex4 ex3 ex2
    exact r_throw X hst hw 1 (Or.inl ⟨rfl, rfl⟩) (by decide) cl_RX5_113 ini_IndexOutOfBoundsException sx_217 x_at_1 x_gd_1 hl.1 dX5_answerAt_23 dX5_answerAt_26 dX5_answerAt_27 dX5_answerAt_29 dX5_answerAt_32 ht (Nat.le_of_ble_eq_true rfl) (Nat.le_of_ble_eq_true rfl) (Nat.le_of_ble_eq_true rfl) (Nat.le_of_ble_eq_true rfl) hlk (Nat.le_of_ble_eq_true rfl) (Nat.le_of_ble_eq_true rfl) (congrArg Prod.fst ((if_pos h1).trans ((if_pos h5).trans rfl)))
theorem m_append_k (C : gCT) (d : Nat) (v w : Int32) {κ : Nat} (h14 : κ ≠ 14) (h15 : κ ≠ 15) (h16 : κ ≠ 16) : m_append C d v w κ = C κ := by
  unfold m_append
  dsimp only
  rw [m_isFull_C]
  split
  · simp only [cs_k _ _ _ _ h14, cs_k _ _ _ _ h15, cs_k _ _ _ _ h16]
  · rfl
theorem c_m_isFull_ro (l : Launch) (G : gG) (lv : gLv) (ad : gAd) (C : gCT) (d : Nat) (hC : gCode lv d) : gMi l yX1_isFull cX1_isFull 1 (some .boolean) (gRm 0 0 0 0) G [.ref (ad 14 d)] lv ad (gF G C ad) (gE (m_isFull C d).1 lv ad (gF G C ad)) := by
  have h := c_m_isFull l G lv ad C d hC
  rwa [m_isFull_C] at h
def m_write (C : gCT) (n1 n2 n3 : Int32) : Nat × Int32 × gCT :=
  if (m_formAt C n1) = 0 then (
    let x2 : Int32 := m_isWithin n2 0 12;
    if x2 = 0 then (
      (2, 0, C)
    ) else (
      let x4 : Int32 := m_at gLeast 13 n2;
      let x5 : Int32 := m_at gMost 13 n2;
      let x6 : Int32 := m_isWithin n3 x4 x5;
      if x6 = 0 then (
        (2, 0, C)
      ) else (
        let x8 : Int32 := (m_isFull C (8 * n1.toNatClampNeg + (C 4 n1.toNatClampNeg 0).toNatClampNeg + 1)).1;
        if x8 = 0 then (
          let C10 : gCT := m_append C (8 * n1.toNatClampNeg + (C 4 n1.toNatClampNeg 0).toNatClampNeg + 1) n2 n3;
          let x11 : Int32 := C10 14 (8 * n1.toNatClampNeg + (C10 4 n1.toNatClampNeg 0).toNatClampNeg + 1) 0;
          (0, x11, C10)
        ) else (
          (3, 0, C)
        )
      )
    )
  ) else ((m_formAt C n1), 0, C)
set_option maxHeartbeats 4000000 in
set_option maxRecDepth 100000 in
theorem c_m_write (l : Launch) (hst : l.stackTraces = false) (G : gG) (lv : gLv) (ad : gAd) (C : gCT) (n1 n2 n3 : Int32) (hT : gTop lv C) (hD : ∀ f, f < 4 → ∃ j : Nat, j ≤ 24 ∧ C 14 (8 * f + (C 4 f 0).toNatClampNeg + 1) 0 = nI j) : gMxi l yX5_write cX5_write 5 (some .int) (gRm 7 103 2 12) G [.ref (ad 0 0), .int n1, .int n2, .int n3] lv ad C (m_write C n1 n2 n3) := by
  refine x_met (own := RX5) (XC := fun sz => gXC G (gA lv ad sz) lv ad (gF G C ad) _) (by decide) rfl (Nat.le_of_ble_eq_true rfl) ?_
  intro p e s m below meth c ls X hw hr hlk ht hl
  have hx := X.1.1; have hb := X.1.2.1; have hml := X.1.2.2.1; have hown := X.1.2.2.2.1; have hts := X.1.2.2.2.2
  have hl : lv_has ls 5 [(0, .ref (ad 0 0)), (1, .int n1), (2, .int n2), (3, .int n3)] := hl
  refine lv_aload_n hx hb dX5_write_0 rfl (lv_at hl 0 rfl) ?_
  refine lv_iload_n hx hb dX5_write_1 rfl (lv_at hl 1 rfl) ?_
  refine x_rr X hw (x_runV X (c_m_formAt l hst G lv ad _ _ hT _) cy_X5_formAt ml_RX5_40 ⟨(Nat.le_of_ble_eq_true rfl), (Nat.le_of_ble_eq_true rfl)⟩ gP.blind (g_recv X hw 0 _ (hT.1) rfl rfl) (gP_call X hw _) rfl hl.1 rfl (Nat.le_of_ble_eq_true rfl) dX5_write_2 ⟨(Nat.le_of_ble_eq_true rfl), (Nat.le_of_ble_eq_true rfl)⟩) (fun E ce q H locs hE hw q1 q2 q3 => ?_) (fun H locs h1 hw => ?_)
  · exact x_on X hw hE ht hlk q1 q2 q3 (Nat.le_of_ble_eq_true rfl) (Nat.le_of_ble_eq_true rfl) (congrArg Prod.fst ((if_neg (gExc_ne hE)).trans rfl))
  have hf := m_formAt_lt _ h1; have hF := hT.2.2.2.2.2.2 _ hf
  refine lv_astore (lv' := [(4, .ref (ad 4 n1.toNatClampNeg)), (0, .ref (ad 0 0)), (1, .int n1), (2, .int n2), (3, .int n3)]) hx hb dX5_write_5 hl (by decide) rfl (fun ls hl => ?_)
  refine lv_iload_n hx hb dX5_write_7 rfl (lv_at hl 3 rfl) ?_
  refine lv_iconst (v := 0) hx hb dX5_write_8 (by decide) ?_
  refine lv_bipush (v := 12) hx hb dX5_write_9 (by decide) ?_
  refine r_rp (r_runS X (c_m_isWithin l n2 0 12) cy_X5_isWithin ml_RX5_44 ⟨(Nat.le_of_ble_eq_true rfl), (Nat.le_of_ble_eq_true rfl)⟩ gPc_blind (fun _ _ _ => ⟨rfl, trivial⟩) rfl hl.1 rfl (Nat.le_of_ble_eq_true rfl) dX5_write_11 ⟨(Nat.le_of_ble_eq_true rfl), (Nat.le_of_ble_eq_true rfl)⟩) ?_
  refine lv_topi (fun x2 ex2 => ?_)
  refine lv_if_ne (tgt := 27) hx hb dX5_write_14 (by decide) (fun h3 => ?_) (fun h3 => ?_)
  · refine lv_iload_n hx hb dX5_write_27 rfl (lv_at hl 4 rfl) ?_
    refine va_gets hx hb (X.2.2.2.1.1.1) hw.2 hown (hts _ fl_RX5_55) (fun _ h => h) dX5_write_28 ?_
    refine lv_iload_n hx hb dX5_write_31 rfl (lv_at hl 3 rfl) ?_
    refine r_rp (r_runS X (c_m_at l _ 13 gLeast n2 (by decide)) cy_X5_at ml_RX5_58 ⟨(Nat.le_of_ble_eq_true rfl), (Nat.le_of_ble_eq_true rfl)⟩ gArr_blind (fun U hU hW => ⟨rfl, gArr_const X hw (X.2.2.2.1.1.2) U hU hW⟩) rfl hl.1 rfl (Nat.le_of_ble_eq_true rfl) dX5_write_32 ⟨(Nat.le_of_ble_eq_true rfl), (Nat.le_of_ble_eq_true rfl)⟩) ?_
    refine lv_topi (fun x4 ex4 => ?_)
    refine va_gets hx hb (X.2.2.2.1.2.1.1) hw.2 hown (hts _ fl_RX5_62) (fun _ h => h) dX5_write_35 ?_
    refine lv_iload_n hx hb dX5_write_38 rfl (lv_at hl 3 rfl) ?_
    refine r_rp (r_runS X (c_m_at l _ 13 gMost n2 (by decide)) cy_X5_at ml_RX5_58 ⟨(Nat.le_of_ble_eq_true rfl), (Nat.le_of_ble_eq_true rfl)⟩ gArr_blind (fun U hU hW => ⟨rfl, gArr_const X hw (X.2.2.2.1.2.1.2) U hU hW⟩) rfl hl.1 rfl (Nat.le_of_ble_eq_true rfl) dX5_write_39 ⟨(Nat.le_of_ble_eq_true rfl), (Nat.le_of_ble_eq_true rfl)⟩) ?_
    refine lv_topi (fun x5 ex5 => ?_)
    refine r_rp (r_runS X (c_m_isWithin l n3 x4 x5) cy_X5_isWithin ml_RX5_44 ⟨(Nat.le_of_ble_eq_true rfl), (Nat.le_of_ble_eq_true rfl)⟩ gPc_blind (fun _ _ _ => ⟨rfl, trivial⟩) rfl hl.1 rfl (Nat.le_of_ble_eq_true rfl) dX5_write_42 ⟨(Nat.le_of_ble_eq_true rfl), (Nat.le_of_ble_eq_true rfl)⟩) ?_
    refine lv_topi (fun x6 ex6 => ?_)
    refine lv_if_ne (tgt := 58) hx hb dX5_write_45 (by decide) (fun h7 => ?_) (fun h7 => ?_)
    · refine lv_aload hx hb dX5_write_58 (lv_at hl 0 rfl) ?_
      refine r_get X hw 4 _ 0 (hF.1) rfl rfl k_X2 (by decide) fl_RX5_67 dX5_write_60 ?_
      refine r_rix X hw (r_runV X (c_m_isFull_ro l G lv ad _ _  hF.2.2.2.2.1 _) cy_X1_isFull ml_RX5_71 ⟨(Nat.le_of_ble_eq_true rfl), (Nat.le_of_ble_eq_true rfl)⟩ gP.blind (g_recv X hw 14 _ ((by (try simp (disch := decide) only [m_append_k]); exact hF.2.2.2.2.1.1)) rfl rfl) (gP_call X hw _) rfl hl.1 rfl (Nat.le_of_ble_eq_true rfl) dX5_write_63 ⟨(Nat.le_of_ble_eq_true rfl), (Nat.le_of_ble_eq_true rfl)⟩) (fun H locs hw => ?_)
      refine lv_topi (fun x8 ex8 => ?_)
      refine lv_if_eq (tgt := 79) hx hb dX5_write_66 (by decide) (fun h9 => ?_) (fun h9 => ?_)
      · obtain ⟨dj, hd2, hd1⟩ := hD _ hf
        refine lv_aload hx hb dX5_write_79 (lv_at hl 0 rfl) ?_
        refine r_get X hw 4 _ 0 (hF.1) rfl rfl k_X2 (by decide) fl_RX5_67 dX5_write_81 ?_
        refine lv_iload_n hx hb dX5_write_84 rfl (lv_at hl 3 rfl) ?_
        refine lv_iload_n hx hb dX5_write_85 rfl (lv_at hl 4 rfl) ?_
        refine r_rvx X hw (r_runV X (c_m_append l G lv ad _ _ _ _ dj hF.2.2.2.2.1 hd1 hd2 _) cy_X1_append ml_RX5_82 ⟨(Nat.le_of_ble_eq_true rfl), (Nat.le_of_ble_eq_true rfl)⟩ gP.blind (g_recv X hw 14 _ (hF.2.2.2.2.1.1) rfl rfl) (gP_call X hw _) rfl hl.1 rfl (Nat.le_of_ble_eq_true rfl) dX5_write_86 ⟨(Nat.le_of_ble_eq_true rfl), (Nat.le_of_ble_eq_true rfl)⟩) (fun H locs hw => ?_)
        refine lv_aload hx hb dX5_write_89 (lv_at hl 0 rfl) ?_
        refine r_get X hw 4 _ 0 (hF.1) rfl rfl k_X2 (by decide) fl_RX5_67 dX5_write_91 ?_
        refine r_get X hw 14 _ 2 ((by (try simp (disch := decide) only [m_append_k]); exact hF.2.2.2.2.1.1)) rfl rfl k_X1 (by decide) fl_RX5_86 dX5_write_94 ?_
        refine lv_topi (fun x11 ex11 => ?_)
        subst ex11 ex8 ex6 ex5 ex4 ex2
        exact x_iret X hw hr rfl hlk (Nat.le_of_ble_eq_true rfl) (Nat.le_of_ble_eq_true rfl) ((if_pos h1).trans ((if_neg h3).trans ((if_neg h7).trans ((if_pos h9).trans rfl)))) dX5_write_97
      · subst ex8 ex6 ex5 ex4 ex2
        exact r_throw X hst hw 3 (Or.inr (Or.inr ⟨rfl, rfl⟩)) (by decide) cl_RX5_77 ini_IllegalStateException sx_79 x_at_3 x_gd_3 hl.1 dX5_write_69 dX5_write_72 dX5_write_73 dX5_write_75 dX5_write_78 ht (Nat.le_of_ble_eq_true rfl) (Nat.le_of_ble_eq_true rfl) (Nat.le_of_ble_eq_true rfl) (Nat.le_of_ble_eq_true rfl) hlk (Nat.le_of_ble_eq_true rfl) (Nat.le_of_ble_eq_true rfl) (congrArg Prod.fst ((if_pos h1).trans ((if_neg h3).trans ((if_neg h7).trans ((if_neg h9).trans rfl)))))
    · subst ex6 ex5 ex4 ex2
      exact r_throw X hst hw 2 (Or.inr (Or.inl ⟨rfl, rfl⟩)) (by decide) cl_RX5_48 ini_IllegalArgumentException sx_65 x_at_2 x_gd_2 hl.1 dX5_write_48 dX5_write_51 dX5_write_52 dX5_write_54 dX5_write_57 ht (Nat.le_of_ble_eq_true rfl) (Nat.le_of_ble_eq_true rfl) (Nat.le_of_ble_eq_true rfl) (Nat.le_of_ble_eq_true rfl) hlk (Nat.le_of_ble_eq_true rfl) (Nat.le_of_ble_eq_true rfl) (congrArg Prod.fst ((if_pos h1).trans ((if_neg h3).trans ((if_pos h7).trans rfl))))
  · subst ex2
    exact r_throw X hst hw 2 (Or.inr (Or.inl ⟨rfl, rfl⟩)) (by decide) cl_RX5_48 ini_IllegalArgumentException sx_50 x_at_2 x_gd_2 hl.1 dX5_write_17 dX5_write_20 dX5_write_21 dX5_write_23 dX5_write_26 ht (Nat.le_of_ble_eq_true rfl) (Nat.le_of_ble_eq_true rfl) (Nat.le_of_ble_eq_true rfl) (Nat.le_of_ble_eq_true rfl) hlk (Nat.le_of_ble_eq_true rfl) (Nat.le_of_ble_eq_true rfl) (congrArg Prod.fst ((if_pos h1).trans ((if_pos h3).trans rfl)))

theorem bg_rc {C : gCT} (hI : gInv C) (h : C 2 24 1 < 24) : gRc C < 24 := by
  have h1 := hI.cnt (n := 24) (Or.inr rfl)
  rw [h1.1] at h
  exact (nI_ltI (a := gCnt C 24) (b := 24) (by omega) (by omega)).mp h
def m_begin (C : gCT) (n1 n2 : Int32) : Nat × Int32 × gCT :=
  let x1 : Int32 := m_isWithin n1 0 15;
  if x1 = 0 then (
    (1, 0, C)
  ) else (
    if (m_formAt C n2) = 0 then (
      let x4 : Int32 := C 4 n2.toNatClampNeg 0;
      if x4 = 0 then (
        (3, 0, C)
      ) else (
        let x6 : Int32 := (m_hasBegun C n1 n2.toNatClampNeg).1;
        if x6 = 0 then (
          let x8 : Int32 := C 2 24 1;
          if x8 < 24 then (
            let C10 : gCT := m_begun C n1 n2.toNatClampNeg;
            let C11 : gCT := m_startOver C10 (gRc C);
            let C12 : gCT := m_go C11 (gRc C);
            let x13 : Int32 := C12 2 24 1;
            let x14 : Int32 := x13 - 1;
            (0, x14, C12)
          ) else (
            (3, 0, C)
          )
        ) else (
          (3, 0, C)
        )
      )
    ) else ((m_formAt C n2), 0, C)
  )
set_option maxHeartbeats 4000000 in
set_option maxRecDepth 100000 in
theorem c_m_begin (l : Launch) (hst : l.stackTraces = false) (G : gG) (C : gCT) (n1 n2 : Int32) (hI : gInv C) : gMzi l yX5_begin cX5_begin 5 (some .int) (gRm 10 280 12 2220) G (fun ad => [.ref (ad 0 0), .int n1, .int n2]) C (m_begin C n1 n2) := by
  intro ad
  refine x_met (own := RX5) (XC := fun sz => gXC G (gA (gLvO C) ad sz) (gLvO C) ad (gF G C ad) _) (by decide) rfl (Nat.le_of_ble_eq_true rfl) ?_
  intro p e s m below meth c ls X hw hr hlk ht hl
  have hx := X.1.1; have hb := X.1.2.1; have hml := X.1.2.2.1; have hown := X.1.2.2.2.1; have hts := X.1.2.2.2.2
  have hT := hI.top; have hRs := hI.runs
  have hl : lv_has ls 5 [(0, .ref (ad 0 0)), (1, .int n1), (2, .int n2)] := hl
  refine lv_iload_n hx hb dX5_begin_0 rfl (lv_at hl 1 rfl) ?_
  refine lv_iconst (v := 0) hx hb dX5_begin_1 (by decide) ?_
  refine lv_bipush (v := 15) hx hb dX5_begin_2 (by decide) ?_
  refine r_rp (r_runS X (c_m_isWithin l n1 0 15) cy_X5_isWithin ml_RX5_44 ⟨(Nat.le_of_ble_eq_true rfl), (Nat.le_of_ble_eq_true rfl)⟩ gPc_blind (fun _ _ _ => ⟨rfl, trivial⟩) rfl hl.1 rfl (Nat.le_of_ble_eq_true rfl) dX5_begin_4 ⟨(Nat.le_of_ble_eq_true rfl), (Nat.le_of_ble_eq_true rfl)⟩) ?_
  refine lv_topi (fun x1 ex1 => ?_)
  refine lv_if_ne (tgt := 20) hx hb dX5_begin_7 (by decide) (fun h2 => ?_) (fun h2 => ?_)
  · refine lv_aload_n hx hb dX5_begin_20 rfl (lv_at hl 0 rfl) ?_
    refine lv_iload_n hx hb dX5_begin_21 rfl (lv_at hl 2 rfl) ?_
    refine x_rr X hw (x_runV X (c_m_formAt l hst G _ _ _ _ hT _) cy_X5_formAt ml_RX5_40 ⟨(Nat.le_of_ble_eq_true rfl), (Nat.le_of_ble_eq_true rfl)⟩ gP.blind (g_recv X hw 0 _ (hT.1) rfl rfl) (gP_call X hw _) rfl hl.1 rfl (Nat.le_of_ble_eq_true rfl) dX5_begin_22 ⟨(Nat.le_of_ble_eq_true rfl), (Nat.le_of_ble_eq_true rfl)⟩) (fun E ce q H locs hE hw q1 q2 q3 => ?_) (fun H locs h3 hw => ?_)
    · subst ex1; exact x_on X hw hE ht hlk q1 q2 q3 (Nat.le_of_ble_eq_true rfl) (Nat.le_of_ble_eq_true rfl) (congrArg Prod.fst ((if_neg h2).trans ((if_neg (gExc_ne hE)).trans rfl)))
    have hf := m_formAt_lt _ h3; have hF := hT.2.2.2.2.2.2 _ hf
    refine lv_astore_n (lv' := [(3, .ref (ad 4 n2.toNatClampNeg)), (0, .ref (ad 0 0)), (1, .int n1), (2, .int n2)]) hx hb dX5_begin_25 rfl hl (by decide) rfl (fun ls hl => ?_)
    refine lv_aload_n hx hb dX5_begin_26 rfl (lv_at hl 0 rfl) ?_
    refine r_get X hw 4 _ 2 (hF.1) rfl rfl k_X2 (by decide) fl_RX5_90 dX5_begin_27 ?_
    refine lv_topi (fun x4 ex4 => ?_)
    refine lv_if_eq (tgt := 54) hx hb dX5_begin_30 (by decide) (fun h5 => ?_) (fun h5 => ?_)
    · subst ex4 ex1
      exact r_throw X hst hw 3 (Or.inr (Or.inr ⟨rfl, rfl⟩)) (by decide) cl_RX5_77 ini_IllegalStateException sx_136 x_at_3 x_gd_3 hl.1 dX5_begin_54 dX5_begin_57 dX5_begin_58 dX5_begin_60 dX5_begin_63 ht (Nat.le_of_ble_eq_true rfl) (Nat.le_of_ble_eq_true rfl) (Nat.le_of_ble_eq_true rfl) (Nat.le_of_ble_eq_true rfl) hlk (Nat.le_of_ble_eq_true rfl) (Nat.le_of_ble_eq_true rfl) (congrArg Prod.fst ((if_neg h2).trans ((if_pos h3).trans ((if_pos h5).trans rfl))))
    · refine lv_aload_n hx hb dX5_begin_33 rfl (lv_at hl 1 rfl) ?_
      refine lv_iload_n hx hb dX5_begin_34 rfl (lv_at hl 2 rfl) ?_
      refine lv_aload_n hx hb dX5_begin_35 rfl (lv_at hl 0 rfl) ?_
      refine r_rix X hw (r_runV X (c_m_hasBegun_ro l G _ _ _ _ _ _ _ hT hRs hF.1 _) cy_X5_hasBegun ml_RX5_129 ⟨(Nat.le_of_ble_eq_true rfl), (Nat.le_of_ble_eq_true rfl)⟩ gP.blind (g_recv X hw 0 _ (hT.1) rfl rfl) (gP_call X hw _) rfl hl.1 rfl (Nat.le_of_ble_eq_true rfl) dX5_begin_36 ⟨(Nat.le_of_ble_eq_true rfl), (Nat.le_of_ble_eq_true rfl)⟩) (fun H locs hw => ?_)
      refine lv_topi (fun x6 ex6 => ?_)
      refine lv_if_ne (tgt := 54) hx hb dX5_begin_39 (by decide) (fun h7 => ?_) (fun h7 => ?_)
      · subst ex6 ex4 ex1
        exact r_throw X hst hw 3 (Or.inr (Or.inr ⟨rfl, rfl⟩)) (by decide) cl_RX5_77 ini_IllegalStateException sx_136 x_at_3 x_gd_3 hl.1 dX5_begin_54 dX5_begin_57 dX5_begin_58 dX5_begin_60 dX5_begin_63 ht (Nat.le_of_ble_eq_true rfl) (Nat.le_of_ble_eq_true rfl) (Nat.le_of_ble_eq_true rfl) (Nat.le_of_ble_eq_true rfl) hlk (Nat.le_of_ble_eq_true rfl) (Nat.le_of_ble_eq_true rfl) (congrArg Prod.fst ((if_neg h2).trans ((if_pos h3).trans ((if_neg h5).trans ((if_neg h7).trans rfl)))))
      · refine lv_aload_n hx hb dX5_begin_42 rfl (lv_at hl 1 rfl) ?_
        refine r_get X hw 0 _ 1 (hT.1) rfl rfl k_X5 (by decide) fl_RX5_18 dX5_begin_43 ?_
        refine r_rix X hw (r_runV X (c_size l G _ _ _ _ (hRs.1.1) _) cy_Jx4a65c_size_8abf5 ml_RX5_133 ⟨(Nat.le_of_ble_eq_true rfl), (Nat.le_of_ble_eq_true rfl)⟩ gP.blind (g_recv X hw 2 _ (hRs.1.1) rfl rfl) (gP_call X hw _) rfl hl.1 rfl (Nat.le_of_ble_eq_true rfl) dX5_begin_46 ⟨(Nat.le_of_ble_eq_true rfl), (Nat.le_of_ble_eq_true rfl)⟩) (fun H locs hw => ?_)
        refine lv_topi (fun x8 ex8 => ?_)
        refine lv_bipush (v := 24) hx hb dX5_begin_49 (by decide) ?_
        refine lv_icmp_lt (tgt := 64) hx hb dX5_begin_51 (by decide) (fun h9 => ?_) (fun h9 => ?_)
        · subst ex8 ex6 ex4 ex1
          have hrc : gRc C < 24 := bg_rc hI (by assumption)
          refine begin_mid X hw hI hrc hf (lv_sub hl [1, 2, 3, 0] rfl) (Nat.le_of_ble_eq_true rfl) (Nat.le_of_ble_eq_true rfl) (Nat.le_of_ble_eq_true rfl) (Nat.le_of_ble_eq_true rfl) (fun ad H locs ls hw hl hAd => ?_)
          have hI2 := m_begun_inv n1 hI hrc hf
          obtain ⟨hR, hM, hf4, hC⟩ := hI2.run (show gRc C < gRc (m_begun C n1 n2.toNatClampNeg) from by rw [m_begun_rc _ _ _ hrc]; omega)
          have hT := hI2.top; have hF := hT.2.2.2.2.2.2 _ hf4; have hRs := hI2.runs
          refine lv_aload_n hx hb dX5_begin_85 rfl (lv_at hl 1 rfl) ?_
          refine lv_aload hx hb dX5_begin_86 (lv_at hl 0 rfl) ?_
          refine r_rvx X hw (r_runV X (c_m_startOver l G _ _ _ _ _ _ hT hR hM hf4 hC _) cy_X5_startOver ml_RX5_147 ⟨(Nat.le_of_ble_eq_true rfl), (Nat.le_of_ble_eq_true rfl)⟩ gP.blind (g_recv X hw 0 _ (hT.1) rfl rfl) (gP_call X hw _) rfl hl.1 rfl (Nat.le_of_ble_eq_true rfl) dX5_begin_88 ⟨(Nat.le_of_ble_eq_true rfl), (Nat.le_of_ble_eq_true rfl)⟩) (fun H locs hw => ?_)
          have hT' := m_so_top (r := gRc C) hT; have hR' := m_so_run hR; have hC' := m_so_code hT hf4
          have hf4' : (m_startOver (m_begun C n1 n2.toNatClampNeg) (gRc C) 11 (gRc C) 6).toNatClampNeg < 4 := by rw [(m_startOver_11 _ _).1]; exact hf4
          refine lv_aload_n hx hb dX5_begin_91 rfl (lv_at hl 1 rfl) ?_
          refine lv_aload hx hb dX5_begin_92 (lv_at hl 0 rfl) ?_
          refine r_rvx X hw (r_runV X (c_m_go l G _ _ _ _ _ _ hT' hR' hM hf4' hC' _) cy_X5_goOn ml_RX5_151 ⟨(Nat.le_of_ble_eq_true rfl), (Nat.le_of_ble_eq_true rfl)⟩ gP.blind (g_recv X hw 0 _ (hT.1) rfl rfl) (gP_call X hw _) rfl hl.1 rfl (Nat.le_of_ble_eq_true rfl) dX5_begin_94 ⟨(Nat.le_of_ble_eq_true rfl), (Nat.le_of_ble_eq_true rfl)⟩) (fun H locs hw => ?_)
          refine lv_aload_n hx hb dX5_begin_97 rfl (lv_at hl 1 rfl) ?_
          refine r_get X hw 0 _ 1 (hT.1) rfl rfl k_X5 (by decide) fl_RX5_18 dX5_begin_98 ?_
          refine r_rix X hw (r_runV X (c_size l G _ _ _ _ (hRs.1.1) _) cy_Jx4a65c_size_8abf5 ml_RX5_133 ⟨(Nat.le_of_ble_eq_true rfl), (Nat.le_of_ble_eq_true rfl)⟩ gP.blind (g_recv X hw 2 _ (hRs.1.1) rfl rfl) (gP_call X hw _) rfl hl.1 rfl (Nat.le_of_ble_eq_true rfl) dX5_begin_101 ⟨(Nat.le_of_ble_eq_true rfl), (Nat.le_of_ble_eq_true rfl)⟩) (fun H locs hw => ?_)
          refine lv_topi (fun x13 ex13 => ?_)
          refine lv_iconst (v := 1) hx hb dX5_begin_104 (by decide) ?_
          refine lv_isub hx hb dX5_begin_105 ?_
          refine lv_topi (fun x14 ex14 => ?_)
          subst ex14 ex13
          exact z_iret X hw hr rfl hlk (Nat.le_of_ble_eq_true rfl) (Nat.le_of_ble_eq_true rfl) ((m_go_str gSx.rf _).lv.trans (m_startOver_lv _ _)) hAd ((if_neg h2).trans ((if_pos h3).trans ((if_neg h5).trans ((if_pos h7).trans ((if_pos h9).trans rfl))))) dX5_begin_106
        · subst ex8 ex6 ex4 ex1
          exact r_throw X hst hw 3 (Or.inr (Or.inr ⟨rfl, rfl⟩)) (by decide) cl_RX5_77 ini_IllegalStateException sx_136 x_at_3 x_gd_3 hl.1 dX5_begin_54 dX5_begin_57 dX5_begin_58 dX5_begin_60 dX5_begin_63 ht (Nat.le_of_ble_eq_true rfl) (Nat.le_of_ble_eq_true rfl) (Nat.le_of_ble_eq_true rfl) (Nat.le_of_ble_eq_true rfl) hlk (Nat.le_of_ble_eq_true rfl) (Nat.le_of_ble_eq_true rfl) (congrArg Prod.fst ((if_neg h2).trans ((if_pos h3).trans ((if_neg h5).trans ((if_pos h7).trans ((if_neg h9).trans rfl))))))
  · subst ex1
    exact r_throw X hst hw 1 (Or.inl ⟨rfl, rfl⟩) (by decide) cl_RX5_113 ini_IndexOutOfBoundsException sx_127 x_at_1 x_gd_1 hl.1 dX5_begin_10 dX5_begin_13 dX5_begin_14 dX5_begin_16 dX5_begin_19 ht (Nat.le_of_ble_eq_true rfl) (Nat.le_of_ble_eq_true rfl) (Nat.le_of_ble_eq_true rfl) (Nat.le_of_ble_eq_true rfl) hlk (Nat.le_of_ble_eq_true rfl) (Nat.le_of_ble_eq_true rfl) (congrArg Prod.fst ((if_pos h2).trans rfl))

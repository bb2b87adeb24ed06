theorem pb_vn {C : gCT} {f : Nat} (hI : gInv C) (hf : f < 4) (h : C 4 f 0 < 6) : gVn C f < 6 := by
  have h1 := hI.vn hf
  rw [h1.2.1] at h
  exact (nI_ltI (a := gVn C f) (b := 6) (by omega) (by omega)).mp h
def m_publish (C : gCT) (n1 : Int32) : Nat × Int32 × gCT :=
  if (m_formAt C n1) = 0 then (
    let x2 : Int32 := C 14 (8 * n1.toNatClampNeg + (C 4 n1.toNatClampNeg 0).toNatClampNeg + 1) 0;
    if x2 = 0 then (
      (3, 0, C)
    ) else (
      let x4 : Int32 := C 4 n1.toNatClampNeg 0;
      if x4 < 6 then (
        let C6 : gCT := m_makeVersion C n1.toNatClampNeg;
        let x7 : Int32 := (m_newest C6 n1.toNatClampNeg).1;
        (0, x7, C6)
      ) else (
        (3, 0, C)
      )
    )
  ) else ((m_formAt C n1), 0, C)
set_option maxHeartbeats 4000000 in
set_option maxRecDepth 100000 in
theorem c_m_publish (l : Launch) (hst : l.stackTraces = false) (G : gG) (C : gCT) (n1 : Int32) (hI : gInv C) : gMzi l yX5_publish cX5_publish 3 (some .int) (gRm 7 103 6 80) G (fun ad => [.ref (ad 0 0), .int n1]) C (m_publish C n1) := by
  intro ad
  refine x_met (own := RX5) (XC := fun sz => gXC G (gA (gLvO C) ad sz) (gLvO C) ad (gF G C ad) _) (by decide) rfl (Nat.le_of_ble_eq_true rfl) ?_
  intro p e s m below meth c ls X hw hr hlk ht hl
  have hx := X.1.1; have hb := X.1.2.1; have hml := X.1.2.2.1; have hown := X.1.2.2.2.1; have hts := X.1.2.2.2.2
  have hT := hI.top; have hRs := hI.runs
  have hl : lv_has ls 3 [(0, .ref (ad 0 0)), (1, .int n1)] := hl
  refine lv_aload_n hx hb dX5_publish_0 rfl (lv_at hl 0 rfl) ?_
  refine lv_iload_n hx hb dX5_publish_1 rfl (lv_at hl 1 rfl) ?_
  refine x_rr X hw (x_runV X (c_m_formAt l hst G _ _ _ _ hT _) cy_X5_formAt ml_RX5_40 ⟨(Nat.le_of_ble_eq_true rfl), (Nat.le_of_ble_eq_true rfl)⟩ gP.blind (g_recv X hw 0 _ (hT.1) rfl rfl) (gP_call X hw _) rfl hl.1 rfl (Nat.le_of_ble_eq_true rfl) dX5_publish_2 ⟨(Nat.le_of_ble_eq_true rfl), (Nat.le_of_ble_eq_true rfl)⟩) (fun E ce q H locs hE hw q1 q2 q3 => ?_) (fun H locs h1 hw => ?_)
  · exact x_on X hw hE ht hlk q1 q2 q3 (Nat.le_of_ble_eq_true rfl) (Nat.le_of_ble_eq_true rfl) (congrArg Prod.fst ((if_neg (gExc_ne hE)).trans rfl))
  have hf := m_formAt_lt _ h1; have hF := hT.2.2.2.2.2.2 _ hf
  refine lv_astore_n (lv' := [(2, .ref (ad 4 n1.toNatClampNeg)), (0, .ref (ad 0 0)), (1, .int n1)]) hx hb dX5_publish_5 rfl hl (by decide) rfl (fun ls hl => ?_)
  refine lv_aload_n hx hb dX5_publish_6 rfl (lv_at hl 0 rfl) ?_
  refine r_get X hw 4 _ 0 (hF.1) rfl rfl k_X2 (by decide) fl_RX5_67 dX5_publish_7 ?_
  refine r_get X hw 14 _ 2 (hF.2.2.2.2.1.1) rfl rfl k_X1 (by decide) fl_RX5_86 dX5_publish_10 ?_
  refine lv_topi (fun x2 ex2 => ?_)
  refine lv_if_eq (tgt := 25) hx hb dX5_publish_13 (by decide) (fun h3 => ?_) (fun h3 => ?_)
  · subst ex2
    exact r_throw X hst hw 3 (Or.inr (Or.inr ⟨rfl, rfl⟩)) (by decide) cl_RX5_77 ini_IllegalStateException sx_93 x_at_3 x_gd_3 hl.1 dX5_publish_25 dX5_publish_28 dX5_publish_29 dX5_publish_31 dX5_publish_34 ht (Nat.le_of_ble_eq_true rfl) (Nat.le_of_ble_eq_true rfl) (Nat.le_of_ble_eq_true rfl) (Nat.le_of_ble_eq_true rfl) hlk (Nat.le_of_ble_eq_true rfl) (Nat.le_of_ble_eq_true rfl) (congrArg Prod.fst ((if_pos h1).trans ((if_pos h3).trans rfl)))
  · refine lv_aload_n hx hb dX5_publish_16 rfl (lv_at hl 0 rfl) ?_
    refine r_get X hw 4 _ 2 (hF.1) rfl rfl k_X2 (by decide) fl_RX5_90 dX5_publish_17 ?_
    refine lv_topi (fun x4 ex4 => ?_)
    refine lv_bipush (v := 6) hx hb dX5_publish_20 (by decide) ?_
    refine lv_icmp_lt (tgt := 35) hx hb dX5_publish_22 (by decide) (fun h5 => ?_) (fun h5 => ?_)
    · refine lv_aload_n hx hb dX5_publish_35 rfl (lv_at hl 0 rfl) ?_
      have hv6 : gVn C n1.toNatClampNeg < 6 := pb_vn hI hf (by subst_vars; assumption)
      refine r_rv X hw (r_runV X (c_makeVersion l G _ C n1.toNatClampNeg hI hf hv6 _) cy_X2_makeVersion ml_RX5_95 ⟨(Nat.le_of_ble_eq_true rfl), (Nat.le_of_ble_eq_true rfl)⟩ gP.blind (g_recv X hw 4 _ hF.1 rfl rfl) (gP_call X hw _) rfl hl.1 rfl (Nat.le_of_ble_eq_true rfl) dX5_publish_36 ⟨(Nat.le_of_ble_eq_true rfl), (Nat.le_of_ble_eq_true rfl)⟩) (fun u H locs hp hw => ?_)
      obtain ⟨ad, rfl, hAd⟩ := hp
      have hw : gW G _ s.heap H locs (gLvO (m_makeVersion C n1.toNatClampNeg)) ad (gF G (m_makeVersion C n1.toNatClampNeg) ad) := hw
      rw [← hAd 4 _ hF.1, ← hAd 0 0 rfl] at hl
      have hI2 := m_mv_inv hI hf hv6
      have hT := hI2.top; have hF := hT.2.2.2.2.2.2 _ hf
      refine lv_aload_n hx hb dX5_publish_39 rfl (lv_at hl 0 rfl) ?_
      refine r_rix X hw (r_runV X (c_m_newest_ro l G _ _ _ _  hF _) cy_X2_newestNumber ml_RX5_98 ⟨(Nat.le_of_ble_eq_true rfl), (Nat.le_of_ble_eq_true rfl)⟩ gP.blind (g_recv X hw 4 _ (hF.1) rfl rfl) (gP_call X hw _) rfl hl.1 rfl (Nat.le_of_ble_eq_true rfl) dX5_publish_40 ⟨(Nat.le_of_ble_eq_true rfl), (Nat.le_of_ble_eq_true rfl)⟩) (fun H locs hw => ?_)
      refine lv_topi (fun x7 ex7 => ?_)
      subst ex7 ex4 ex2
      exact z_iret X hw hr rfl hlk (Nat.le_of_ble_eq_true rfl) (Nat.le_of_ble_eq_true rfl) rfl ⟨hAd 0 0 rfl, fun n hn => hAd 22 n hn⟩ ((if_pos h1).trans ((if_neg h3).trans ((if_pos h5).trans rfl))) dX5_publish_43
    · subst ex4 ex2
      exact r_throw X hst hw 3 (Or.inr (Or.inr ⟨rfl, rfl⟩)) (by decide) cl_RX5_77 ini_IllegalStateException sx_93 x_at_3 x_gd_3 hl.1 dX5_publish_25 dX5_publish_28 dX5_publish_29 dX5_publish_31 dX5_publish_34 ht (Nat.le_of_ble_eq_true rfl) (Nat.le_of_ble_eq_true rfl) (Nat.le_of_ble_eq_true rfl) (Nat.le_of_ble_eq_true rfl) hlk (Nat.le_of_ble_eq_true rfl) (Nat.le_of_ble_eq_true rfl) (congrArg Prod.fst ((if_pos h1).trans ((if_neg h3).trans ((if_neg h5).trans rfl))))

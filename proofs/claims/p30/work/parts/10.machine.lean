def m_isWithin (n1 n2 n3 : Int32) : Int32 :=
  if n1 < n2 then (
    0
  ) else (
    if n3 < n1 then (
      0
    ) else (
      1
    )
  )
set_option maxHeartbeats 4000000 in
set_option maxRecDepth 100000 in
/-- isWithin(number, least, most) -/
theorem c_m_isWithin (l : Launch) (n1 n2 n3 : Int32) : gMp l yX5_isWithin cX5_isWithin 3 (some .boolean) (gRm 0 0 0 0) [.int n1, .int n2, .int n3] (fun _ => True) (some (.int (m_isWithin n1 n2 n3))) := by
  refine r_metp (own := RX5) (by decide) rfl (Nat.le_of_ble_eq_true rfl) ?_
  intro p e s m below meth c ls X0 _ hr hlk hl
  obtain ⟨hx, hb, hml, hown, hts⟩ := id X0
  have hl : lv_has ls 3 [(0, .int n1), (1, .int n2), (2, .int n3)] := hl
  refine lv_iload_n hx hb dX5_isWithin_0 rfl (lv_at hl 0 rfl) ?_
  refine lv_iload_n hx hb dX5_isWithin_1 rfl (lv_at hl 1 rfl) ?_
  refine lv_icmp_lt (tgt := 14) hx hb dX5_isWithin_2 (by decide) (fun h1 => ?_) (fun h1 => ?_)
  · refine lv_iconst (v := 0) hx hb dX5_isWithin_14 (by decide) ?_
    exact r_piret hx hb hr nar_b0 hlk ((if_pos h1).trans rfl).symm dX5_isWithin_15
  · refine lv_iload_n hx hb dX5_isWithin_5 rfl (lv_at hl 0 rfl) ?_
    refine lv_iload_n hx hb dX5_isWithin_6 rfl (lv_at hl 2 rfl) ?_
    refine lv_icmp_gt (tgt := 14) hx hb dX5_isWithin_7 (by decide) (fun h2 => ?_) (fun h2 => ?_)
    · refine lv_iconst (v := 0) hx hb dX5_isWithin_14 (by decide) ?_
      exact r_piret hx hb hr nar_b0 hlk ((if_neg h1).trans ((if_pos h2).trans rfl)).symm dX5_isWithin_15
    · refine lv_iconst (v := 1) hx hb dX5_isWithin_10 (by decide) ?_
      refine lv_goto (tgt := 15) hx hb dX5_isWithin_11 (by decide) ?_
      exact r_piret hx hb hr nar_b1 hlk ((if_neg h1).trans ((if_neg h2).trans rfl)).symm dX5_isWithin_15
theorem sub_toInt' {x y : Int32} (h1 : -2147483648 ≤ x.toInt - y.toInt) (h2 : x.toInt - y.toInt < 2147483648) : (x - y).toInt = x.toInt - y.toInt := by
  rw [Int32.toInt_sub]
  rw [Int.bmod_def]
  omega
theorem m_isWithin_of {x a b : Int32} (h : ¬ m_isWithin x a b = 0) : ¬ x < a ∧ ¬ b < x := by
  unfold m_isWithin at h
  by_cases h1 : x < a
  · simp [h1] at h
  · by_cases h2 : b < x
    · simp [h1, h2] at h
    · exact ⟨h1, h2⟩
theorem vp_in_w {x k : Int32} {n : Nat} (h : ¬ m_isWithin x 0 k = 0) (hk : k.toInt < n) : vp_in x n := by
  obtain ⟨h1, h2⟩ := m_isWithin_of h
  exact vp_in_le (Int32.not_lt.mp h1) (Int32.not_lt.mp h2) hk
theorem vp_in_w1 {x : Int32} (h : ¬ m_isWithin x 1 8 = 0) : vp_in (x - 1) 8 := by
  obtain ⟨h1, h2⟩ := m_isWithin_of h
  have h3 := Int32.le_iff_toInt_le.mp (Int32.not_lt.mp h1)
  have h4 := Int32.le_iff_toInt_le.mp (Int32.not_lt.mp h2)
  simp at h3 h4
  have h5 : (x - 1).toInt = x.toInt - 1 := sub_toInt' (by simp; omega) (by simp; omega)
  rw [vp_in_iff, h5]
  omega
theorem cs_s (C : gCT) (κ n j : Nat) (v : Int32) : cs C κ n j v κ n j = v := by simp [cs, g2, upd]
theorem cs_k (C : gCT) {κ κ' : Nat} (n j : Nat) (v : Int32) (h : κ' ≠ κ) : cs C κ n j v κ' = C κ' := by funext a b; simp [cs, g2, h]
def gM (lv : gLv) (k : Nat) : Prop := lv 7 k ∧ lv 8 k ∧ lv 9 k ∧ lv 10 k
def m_held (n1 : Int32) : Int32 :=
  let x1 : Int32 := if n1 < 9999 then n1 else 9999;
  let x2 : Int32 := if (-9999) < x1 then x1 else (-9999);
  x2
set_option maxHeartbeats 4000000 in
set_option maxRecDepth 100000 in
theorem c_m_held (l : Launch) (n1 : Int32) : gMp l yX3_held cX3_held 1 (some .int) (gRm 1 14 0 0) [.int n1] (fun _ => True) (some (.int (m_held n1))) := by
  refine r_metp (own := RX3) (by decide) rfl (Nat.le_of_ble_eq_true rfl) ?_
  intro p e s m below meth c ls X0 _ hr hlk hl
  obtain ⟨hx, hb, hml, hown, hts⟩ := id X0
  have hl : lv_has ls 1 [(0, .int n1)] := hl
  refine lv_sipush (v := (-9999)) hx hb dX3_held_0 (by decide) ?_
  refine lv_sipush (v := 9999) hx hb dX3_held_3 (by decide) ?_
  refine lv_iload_n hx hb dX3_held_6 rfl (lv_at hl 0 rfl) ?_
  refine va_mmin hx hb (hml.trans hl.1.symm) hown (hts _ ml_RX3_120) (hts _ mm_st_min) (hts _ mm_ini) (hts _ mm_co_min) (Nat.le_of_ble_eq_true rfl) (Nat.le_of_ble_eq_true rfl) (Nat.le_of_ble_eq_true rfl) (Nat.le_of_ble_eq_true rfl) dX3_held_7 ?_
  refine lv_topi (fun x1 ex1 => ?_)
  refine va_mmax hx hb (hml.trans hl.1.symm) hown (hts _ ml_RX3_125) (hts _ mm_st_max) (hts _ mm_ini) (hts _ mm_co_max) (Nat.le_of_ble_eq_true rfl) (Nat.le_of_ble_eq_true rfl) (Nat.le_of_ble_eq_true rfl) (Nat.le_of_ble_eq_true rfl) dX3_held_10 ?_
  refine lv_topi (fun x2 ex2 => ?_)
  subst ex2 ex1
  exact r_piret hx hb hr rfl hlk (rfl).symm dX3_held_13
def m_combined (n1 n2 n3 : Int32) : Int32 :=
  if n1 = 4 then (
    let x2 : Int32 := n2 + n3;
    let x3 : Int32 := m_held x2;
    x3
  ) else if n1 = 5 then (
    let x5 : Int32 := n2 - n3;
    let x6 : Int32 := m_held x5;
    x6
  ) else if n1 = 6 then (
    if n3 ≤ n2 then (
      0
    ) else (
      1
    )
  ) else (
    if n2 = n3 then (
      1
    ) else (
      0
    )
  )
set_option maxHeartbeats 4000000 in
set_option maxRecDepth 100000 in
theorem c_m_combined (l : Launch) (n1 n2 n3 : Int32) : gMp l yX3_combined cX3_combined 3 (some .int) (gRm 2 34 0 0) [.int n1, .int n2, .int n3] (fun _ => True) (some (.int (m_combined n1 n2 n3))) := by
  refine r_metp (own := RX3) (by decide) rfl (Nat.le_of_ble_eq_true rfl) ?_
  intro p e s m below meth c ls X0 _ hr hlk hl
  obtain ⟨hx, hb, hml, hown, hts⟩ := id X0
  have hl : lv_has ls 3 [(0, .int n1), (1, .int n2), (2, .int n3)] := hl
  refine lv_iload_n hx hb dX3_combined_0 rfl (lv_at hl 0 rfl) ?_
  rcases Decidable.em (n1 = 4) with h1 | h1
  · refine lv_tableIn (tgt := 28) hx hb dX3_combined_1 (by rw [h1]; decide) (by rw [h1]; decide) (off := 27) (by rw [h1]; rfl) (by decide) ?_
    refine lv_iload_n hx hb dX3_combined_28 rfl (lv_at hl 1 rfl) ?_
    refine lv_iload_n hx hb dX3_combined_29 rfl (lv_at hl 2 rfl) ?_
    refine lv_iadd hx hb dX3_combined_30 ?_
    refine lv_topi (fun x2 ex2 => ?_)
    refine r_rp (r_runS1 X0 (c_m_held l x2) cy_X3_held ml_RX3_116 ⟨(Nat.le_of_ble_eq_true rfl), (Nat.le_of_ble_eq_true rfl)⟩ gPc_blind (fun _ _ _ => ⟨rfl, trivial⟩) rfl hl.1 rfl (Nat.le_of_ble_eq_true rfl) dX3_combined_31 ⟨(Nat.le_of_ble_eq_true rfl), (Nat.le_of_ble_eq_true rfl)⟩) ?_
    refine lv_topi (fun x3 ex3 => ?_)
    subst ex3 ex2
    exact r_piret hx hb hr rfl hlk ((if_pos h1).trans rfl).symm dX3_combined_34
  rcases Decidable.em (n1 = 5) with h4 | h4
  · refine lv_tableIn (tgt := 35) hx hb dX3_combined_1 (by rw [h4]; decide) (by rw [h4]; decide) (off := 34) (by rw [h4]; rfl) (by decide) ?_
    refine lv_iload_n hx hb dX3_combined_35 rfl (lv_at hl 1 rfl) ?_
    refine lv_iload_n hx hb dX3_combined_36 rfl (lv_at hl 2 rfl) ?_
    refine lv_isub hx hb dX3_combined_37 ?_
    refine lv_topi (fun x5 ex5 => ?_)
    refine r_rp (r_runS1 X0 (c_m_held l x5) cy_X3_held ml_RX3_116 ⟨(Nat.le_of_ble_eq_true rfl), (Nat.le_of_ble_eq_true rfl)⟩ gPc_blind (fun _ _ _ => ⟨rfl, trivial⟩) rfl hl.1 rfl (Nat.le_of_ble_eq_true rfl) dX3_combined_38 ⟨(Nat.le_of_ble_eq_true rfl), (Nat.le_of_ble_eq_true rfl)⟩) ?_
    refine lv_topi (fun x6 ex6 => ?_)
    subst ex6 ex5
    exact r_piret hx hb hr rfl hlk ((if_neg h1).trans ((if_pos h4).trans rfl)).symm dX3_combined_41
  rcases Decidable.em (n1 = 6) with h7 | h7
  · refine lv_tableIn (tgt := 42) hx hb dX3_combined_1 (by rw [h7]; decide) (by rw [h7]; decide) (off := 41) (by rw [h7]; rfl) (by decide) ?_
    refine lv_iload_n hx hb dX3_combined_42 rfl (lv_at hl 1 rfl) ?_
    refine lv_iload_n hx hb dX3_combined_43 rfl (lv_at hl 2 rfl) ?_
    refine lv_icmp_ge (tgt := 51) hx hb dX3_combined_44 (by decide) (fun h8 => ?_) (fun h8 => ?_)
    · refine lv_iconst (v := 0) hx hb dX3_combined_51 (by decide) ?_
      exact r_piret hx hb hr rfl hlk ((if_neg h1).trans ((if_neg h4).trans ((if_pos h7).trans ((if_pos h8).trans rfl)))).symm dX3_combined_52
    · refine lv_iconst (v := 1) hx hb dX3_combined_47 (by decide) ?_
      refine lv_goto (tgt := 52) hx hb dX3_combined_48 (by decide) ?_
      exact r_piret hx hb hr rfl hlk ((if_neg h1).trans ((if_neg h4).trans ((if_pos h7).trans ((if_neg h8).trans rfl)))).symm dX3_combined_52
  refine lv_tableOut (tgt := 53) hx hb dX3_combined_1 (ts_out_4_6 h1 h4 h7) (by decide) ?_
  refine lv_iload_n hx hb dX3_combined_53 rfl (lv_at hl 1 rfl) ?_
  refine lv_iload_n hx hb dX3_combined_54 rfl (lv_at hl 2 rfl) ?_
  refine lv_icmp_ne (tgt := 62) hx hb dX3_combined_55 (by decide) (fun h9 => ?_) (fun h9 => ?_)
  · refine lv_iconst (v := 0) hx hb dX3_combined_62 (by decide) ?_
    exact r_piret hx hb hr rfl hlk ((if_neg h1).trans ((if_neg h4).trans ((if_neg h7).trans ((if_neg h9).trans rfl)))).symm dX3_combined_63
  · refine lv_iconst (v := 1) hx hb dX3_combined_58 (by decide) ?_
    refine lv_goto (tgt := 63) hx hb dX3_combined_59 (by decide) ?_
    exact r_piret hx hb hr rfl hlk ((if_neg h1).trans ((if_neg h4).trans ((if_neg h7).trans ((if_pos h9).trans rfl)))).symm dX3_combined_63
def m_put (C : gCT) (k : Nat) (v : Int32) : gCT :=
  let x1 : Int32 := C 7 k 0;
  let x2 : Int32 := m_isWithin x1 0 7;
  if x2 = 0 then (
    let C9 : gCT := cs C 7 k 4 5;
    C9
  ) else (
    let x4 : Int32 := C 7 k 0;
    let C5 : gCT := cs C 8 k x4.toNatClampNeg v;
    let x6 : Int32 := C5 7 k 0;
    let x7 : Int32 := x6 + 1;
    let C8 : gCT := cs C5 7 k 0 x7;
    C8
  )
set_option maxHeartbeats 4000000 in
set_option maxRecDepth 100000 in
theorem c_m_put (l : Launch) (G : gG) (lv : gLv) (ad : gAd) (C : gCT) (k : Nat) (v : Int32) (hM : gM lv k) : gMv l yX3_put cX3_put 2 (gRm 1 22 0 0) G [.ref (ad 7 k), .int v] lv ad (gF G C ad) (gEv lv ad (gF G (m_put C k v) ad)) := by
  refine r_met (own := RX3) (by decide) rfl (Nat.le_of_ble_eq_true rfl) ?_
  intro p e s m below meth c ls X hw hr hlk _ hl
  have hx := X.1.1; have hb := X.1.2.1; have hml := X.1.2.2.1; have hown := X.1.2.2.2.1; have hts := X.1.2.2.2.2
  have hl : lv_has ls 2 [(0, .ref (ad 7 k)), (1, .int v)] := hl
  refine lv_aload_n hx hb dX3_put_0 rfl (lv_at hl 0 rfl) ?_
  refine r_get X hw 7 _ 3 (hM.1) rfl rfl k_X3 (by decide) fl_RX3_21 dX3_put_1 ?_
  refine lv_topi (fun x1 ex1 => ?_)
  refine lv_iconst (v := 0) hx hb dX3_put_4 (by decide) ?_
  refine lv_bipush (v := 7) hx hb dX3_put_5 (by decide) ?_
  refine r_rp (r_runSN X (c_m_isWithin l x1 0 7) cy_X5_isWithin mn_RX3_76 ⟨(Nat.le_of_ble_eq_true rfl), (Nat.le_of_ble_eq_true rfl)⟩ gPc_blind (fun _ _ _ => ⟨rfl, trivial⟩) rfl hl.1 rfl (Nat.le_of_ble_eq_true rfl) dX3_put_7 ⟨(Nat.le_of_ble_eq_true rfl), (Nat.le_of_ble_eq_true rfl)⟩) ?_
  refine lv_topi (fun x2 ex2 => ?_)
  refine lv_if_ne (tgt := 19) hx hb dX3_put_10 (by decide) (fun h3 => ?_) (fun h3 => ?_)
  · refine lv_aload_n hx hb dX3_put_19 rfl (lv_at hl 0 rfl) ?_
    refine r_get X hw 7 _ 0 (hM.1) rfl rfl k_X3 (by decide) fl_RX3_9 dX3_put_20 ?_
    refine lv_aload_n hx hb dX3_put_23 rfl (lv_at hl 0 rfl) ?_
    refine r_get X hw 7 _ 3 (hM.1) rfl rfl k_X3 (by decide) fl_RX3_21 dX3_put_24 ?_
    refine lv_topi (fun x4 ex4 => ?_)
    refine lv_iload_n hx hb dX3_put_27 rfl (lv_at hl 1 rfl) ?_
    refine s_iast X hw 8 _ (hM.2.1) rfl (fun _ => rfl) (by subst ex4 ex2 ex1; exact vp_in_w h3 (by decide)) dX3_put_28 (fun H locs hw => ?_)
    refine lv_aload_n hx hb dX3_put_29 rfl (lv_at hl 0 rfl) ?_
    refine lv_dup hx hb dX3_put_30 rfl ?_
    refine r_get X hw 7 _ 3 (hM.1) rfl rfl k_X3 (by decide) fl_RX3_21 dX3_put_31 ?_
    refine lv_topi (fun x6 ex6 => ?_)
    refine lv_iconst (v := 1) hx hb dX3_put_34 (by decide) ?_
    refine lv_iadd hx hb dX3_put_35 ?_
    refine lv_topi (fun x7 ex7 => ?_)
    refine s_put X hw 7 _ 3 0 (hM.1) rfl rfl k_X3 (by decide) (Nat.le_of_ble_eq_true rfl) fl_RX3_21 rfl rfl dX3_put_36 (fun H locs hw => ?_)
    subst ex7 ex6 ex4 ex2 ex1
    exact r_vret X hw hr hlk (Nat.le_of_ble_eq_true rfl) (Nat.le_of_ble_eq_true rfl) (gEv_of ((if_neg h3).trans rfl)) dX3_put_39
  · refine lv_aload_n hx hb dX3_put_13 rfl (lv_at hl 0 rfl) ?_
    refine lv_iconst (v := 5) hx hb dX3_put_14 (by decide) ?_
    refine s_put X hw 7 _ 7 4 (hM.1) rfl rfl k_X3 (by decide) (Nat.le_of_ble_eq_true rfl) fl_RX3_34 rfl rfl dX3_put_15 (fun H locs hw => ?_)
    subst ex2 ex1
    exact r_vret X hw hr hlk (Nat.le_of_ble_eq_true rfl) (Nat.le_of_ble_eq_true rfl) (gEv_of ((if_pos h3).trans rfl)) dX3_put_18
def m_take (C : gCT) (k : Nat) : Int32 × gCT :=
  let x1 : Int32 := C 7 k 0;
  let x2 : Int32 := m_isWithin x1 1 8;
  if x2 = 0 then (
    let C9 : gCT := cs C 7 k 4 5;
    (0, C9)
  ) else (
    let x4 : Int32 := C 7 k 0;
    let x5 : Int32 := x4 - 1;
    let C6 : gCT := cs C 7 k 0 x5;
    let x7 : Int32 := C6 7 k 0;
    let x8 : Int32 := C6 8 k x7.toNatClampNeg;
    (x8, C6)
  )
set_option maxHeartbeats 4000000 in
set_option maxRecDepth 100000 in
theorem c_m_take (l : Launch) (G : gG) (lv : gLv) (ad : gAd) (C : gCT) (k : Nat) (hM : gM lv k) : gMi l yX3_take cX3_take 1 (some .int) (gRm 1 22 0 0) G [.ref (ad 7 k)] lv ad (gF G C ad) (gE (m_take C k).1 lv ad (gF G (m_take C k).2 ad)) := by
  refine r_met (own := RX3) (by decide) rfl (Nat.le_of_ble_eq_true rfl) ?_
  intro p e s m below meth c ls X hw hr hlk _ hl
  have hx := X.1.1; have hb := X.1.2.1; have hml := X.1.2.2.1; have hown := X.1.2.2.2.1; have hts := X.1.2.2.2.2
  have hl : lv_has ls 1 [(0, .ref (ad 7 k))] := hl
  refine lv_aload_n hx hb dX3_take_0 rfl (lv_at hl 0 rfl) ?_
  refine r_get X hw 7 _ 3 (hM.1) rfl rfl k_X3 (by decide) fl_RX3_21 dX3_take_1 ?_
  refine lv_topi (fun x1 ex1 => ?_)
  refine lv_iconst (v := 1) hx hb dX3_take_4 (by decide) ?_
  refine lv_bipush (v := 8) hx hb dX3_take_5 (by decide) ?_
  refine r_rp (r_runSN X (c_m_isWithin l x1 1 8) cy_X5_isWithin mn_RX3_76 ⟨(Nat.le_of_ble_eq_true rfl), (Nat.le_of_ble_eq_true rfl)⟩ gPc_blind (fun _ _ _ => ⟨rfl, trivial⟩) rfl hl.1 rfl (Nat.le_of_ble_eq_true rfl) dX3_take_7 ⟨(Nat.le_of_ble_eq_true rfl), (Nat.le_of_ble_eq_true rfl)⟩) ?_
  refine lv_topi (fun x2 ex2 => ?_)
  refine lv_if_ne (tgt := 20) hx hb dX3_take_10 (by decide) (fun h3 => ?_) (fun h3 => ?_)
  · refine lv_aload_n hx hb dX3_take_20 rfl (lv_at hl 0 rfl) ?_
    refine lv_dup hx hb dX3_take_21 rfl ?_
    refine r_get X hw 7 _ 3 (hM.1) rfl rfl k_X3 (by decide) fl_RX3_21 dX3_take_22 ?_
    refine lv_topi (fun x4 ex4 => ?_)
    refine lv_iconst (v := 1) hx hb dX3_take_25 (by decide) ?_
    refine lv_isub hx hb dX3_take_26 ?_
    refine lv_topi (fun x5 ex5 => ?_)
    refine s_put X hw 7 _ 3 0 (hM.1) rfl rfl k_X3 (by decide) (Nat.le_of_ble_eq_true rfl) fl_RX3_21 rfl rfl dX3_take_27 (fun H locs hw => ?_)
    refine lv_aload_n hx hb dX3_take_30 rfl (lv_at hl 0 rfl) ?_
    refine r_get X hw 7 _ 0 (hM.1) rfl rfl k_X3 (by decide) fl_RX3_9 dX3_take_31 ?_
    refine lv_aload_n hx hb dX3_take_34 rfl (lv_at hl 0 rfl) ?_
    refine r_get X hw 7 _ 3 (hM.1) rfl rfl k_X3 (by decide) fl_RX3_21 dX3_take_35 ?_
    refine lv_topi (fun x7 ex7 => ?_)
    refine r_iald X hw 8 _ (hM.2.1) rfl (by subst ex7 ex5 ex4 ex2 ex1; rw [cs_s]; exact vp_in_w1 h3) dX3_take_38 ?_
    refine lv_topi (fun x8 ex8 => ?_)
    subst ex8 ex7 ex5 ex4 ex2 ex1
    exact r_iret X hw hr rfl hlk (Nat.le_of_ble_eq_true rfl) (Nat.le_of_ble_eq_true rfl) (gE_of ((if_neg h3).trans rfl)) dX3_take_39
  · refine lv_aload_n hx hb dX3_take_13 rfl (lv_at hl 0 rfl) ?_
    refine lv_iconst (v := 5) hx hb dX3_take_14 (by decide) ?_
    refine s_put X hw 7 _ 7 4 (hM.1) rfl rfl k_X3 (by decide) (Nat.le_of_ble_eq_true rfl) fl_RX3_34 rfl rfl dX3_take_15 (fun H locs hw => ?_)
    refine lv_iconst (v := 0) hx hb dX3_take_18 (by decide) ?_
    subst ex2 ex1
    exact r_iret X hw hr rfl hlk (Nat.le_of_ble_eq_true rfl) (Nat.le_of_ble_eq_true rfl) (gE_of ((if_pos h3).trans rfl)) dX3_take_19
def m_takeAnswer (C : gCT) (k : Nat) (v : Int32) : gCT :=
  let C1 : gCT := cs C 7 k 4 7;
  let C2 : gCT := m_put C1 k v;
  C2
set_option maxHeartbeats 4000000 in
set_option maxRecDepth 100000 in
theorem c_m_takeAnswer (l : Launch) (G : gG) (lv : gLv) (ad : gAd) (C : gCT) (k : Nat) (v : Int32) (hM : gM lv k) : gMv l yX3_takeAnswer cX3_takeAnswer 2 (gRm 2 43 0 0) G [.ref (ad 7 k), .int v] lv ad (gF G C ad) (gEv lv ad (gF G (m_takeAnswer C k v) ad)) := by
  refine r_met (own := RX3) (by decide) rfl (Nat.le_of_ble_eq_true rfl) ?_
  intro p e s m below meth c ls X hw hr hlk _ hl
  have hx := X.1.1; have hb := X.1.2.1; have hml := X.1.2.2.1; have hown := X.1.2.2.2.1; have hts := X.1.2.2.2.2
  have hl : lv_has ls 2 [(0, .ref (ad 7 k)), (1, .int v)] := hl
  refine lv_aload_n hx hb dX3_takeAnswer_0 rfl (lv_at hl 0 rfl) ?_
  refine lv_bipush (v := 7) hx hb dX3_takeAnswer_1 (by decide) ?_
  refine s_put X hw 7 _ 7 4 (hM.1) rfl rfl k_X3 (by decide) (Nat.le_of_ble_eq_true rfl) fl_RX3_34 rfl rfl dX3_takeAnswer_3 (fun H locs hw => ?_)
  refine lv_aload_n hx hb dX3_takeAnswer_6 rfl (lv_at hl 0 rfl) ?_
  refine lv_iload_n hx hb dX3_takeAnswer_7 rfl (lv_at hl 1 rfl) ?_
  refine r_rvx X hw (r_runV X (c_m_put l G lv ad _ _ _ hM _) cy_X3_put ml_RX3_40 ⟨(Nat.le_of_ble_eq_true rfl), (Nat.le_of_ble_eq_true rfl)⟩ gP.blind (g_recv X hw 7 _ (hM.1) rfl rfl) (gP_call X hw _) rfl hl.1 rfl (Nat.le_of_ble_eq_true rfl) dX3_takeAnswer_8 ⟨(Nat.le_of_ble_eq_true rfl), (Nat.le_of_ble_eq_true rfl)⟩) (fun H locs hw => ?_)
  exact r_vret X hw hr hlk (Nat.le_of_ble_eq_true rfl) (Nat.le_of_ble_eq_true rfl) (gEv_of (rfl)) dX3_takeAnswer_11
def m_store (C : gCT) (k : Nat) (v : Int32) : gCT :=
  let r1 : Int32 × gCT := m_take C k;
  let x3 : Int32 := r1.1;
  let C2 : gCT := r1.2;
  let x4 : Int32 := C2 7 k 4;
  if x4 = 7 then (
    let x6 : Int32 := m_isWithin v 0 7;
    if x6 = 0 then (
      C2
    ) else (
      let C8 : gCT := cs C2 9 k v.toNatClampNeg x3;
      C8
    )
  ) else (
    C2
  )
set_option maxHeartbeats 4000000 in
set_option maxRecDepth 100000 in
theorem c_m_store (l : Launch) (G : gG) (lv : gLv) (ad : gAd) (C : gCT) (k : Nat) (v : Int32) (hM : gM lv k) : gMv l yX3_store cX3_store 3 (gRm 2 42 0 0) G [.ref (ad 7 k), .int v] lv ad (gF G C ad) (gEv lv ad (gF G (m_store C k v) ad)) := by
  refine r_met (own := RX3) (by decide) rfl (Nat.le_of_ble_eq_true rfl) ?_
  intro p e s m below meth c ls X hw hr hlk _ hl
  have hx := X.1.1; have hb := X.1.2.1; have hml := X.1.2.2.1; have hown := X.1.2.2.2.1; have hts := X.1.2.2.2.2
  have hl : lv_has ls 3 [(0, .ref (ad 7 k)), (1, .int v)] := hl
  refine lv_aload_n hx hb dX3_store_0 rfl (lv_at hl 0 rfl) ?_
  refine r_rix X hw (r_runV X (c_m_take l G lv ad _ _  hM _) cy_X3_take ml_RX3_108 ⟨(Nat.le_of_ble_eq_true rfl), (Nat.le_of_ble_eq_true rfl)⟩ gP.blind (g_recv X hw 7 _ (hM.1) rfl rfl) (gP_call X hw _) rfl hl.1 rfl (Nat.le_of_ble_eq_true rfl) dX3_store_1 ⟨(Nat.le_of_ble_eq_true rfl), (Nat.le_of_ble_eq_true rfl)⟩) (fun H locs hw => ?_)
  refine lv_topi (fun x3 ex3 => ?_)
  refine lv_istore_n (lv' := [(2, .int x3), (0, .ref (ad 7 k)), (1, .int v)]) hx hb dX3_store_4 rfl hl (by decide) rfl (fun ls hl => ?_)
  refine lv_aload_n hx hb dX3_store_5 rfl (lv_at hl 1 rfl) ?_
  refine r_get X hw 7 _ 7 (hM.1) rfl rfl k_X3 (by decide) fl_RX3_34 dX3_store_6 ?_
  refine lv_topi (fun x4 ex4 => ?_)
  refine lv_bipush (v := 7) hx hb dX3_store_9 (by decide) ?_
  refine lv_icmp_ne (tgt := 31) hx hb dX3_store_11 (by decide) (fun h5 => ?_) (fun h5 => ?_)
  · subst ex4 ex3
    exact r_vret X hw hr hlk (Nat.le_of_ble_eq_true rfl) (Nat.le_of_ble_eq_true rfl) (gEv_of ((if_neg h5).trans rfl)) dX3_store_31
  · refine lv_iload_n hx hb dX3_store_14 rfl (lv_at hl 2 rfl) ?_
    refine lv_iconst (v := 0) hx hb dX3_store_15 (by decide) ?_
    refine lv_bipush (v := 7) hx hb dX3_store_16 (by decide) ?_
    refine r_rp (r_runSN X (c_m_isWithin l v 0 7) cy_X5_isWithin mn_RX3_76 ⟨(Nat.le_of_ble_eq_true rfl), (Nat.le_of_ble_eq_true rfl)⟩ gPc_blind (fun _ _ _ => ⟨rfl, trivial⟩) rfl hl.1 rfl (Nat.le_of_ble_eq_true rfl) dX3_store_18 ⟨(Nat.le_of_ble_eq_true rfl), (Nat.le_of_ble_eq_true rfl)⟩) ?_
    refine lv_topi (fun x6 ex6 => ?_)
    refine lv_if_eq (tgt := 31) hx hb dX3_store_21 (by decide) (fun h7 => ?_) (fun h7 => ?_)
    · subst ex6 ex4 ex3
      exact r_vret X hw hr hlk (Nat.le_of_ble_eq_true rfl) (Nat.le_of_ble_eq_true rfl) (gEv_of ((if_pos h5).trans ((if_pos h7).trans rfl))) dX3_store_31
    · refine lv_aload_n hx hb dX3_store_24 rfl (lv_at hl 1 rfl) ?_
      refine r_get X hw 7 _ 1 (hM.1) rfl rfl k_X3 (by decide) fl_RX3_15 dX3_store_25 ?_
      refine lv_iload_n hx hb dX3_store_28 rfl (lv_at hl 2 rfl) ?_
      refine lv_iload_n hx hb dX3_store_29 rfl (lv_at hl 0 rfl) ?_
      refine s_iast X hw 9 _ (hM.2.2.1) rfl (fun _ => rfl) (by subst ex6 ex4 ex3; exact vp_in_w h7 (by decide)) dX3_store_30 (fun H locs hw => ?_)
      subst ex6 ex4 ex3
      exact r_vret X hw hr hlk (Nat.le_of_ble_eq_true rfl) (Nat.le_of_ble_eq_true rfl) (gEv_of ((if_pos h5).trans ((if_neg h7).trans rfl))) dX3_store_31
def m_jumpIfZero (C : gCT) (k : Nat) (v : Int32) : gCT :=
  let r1 : Int32 × gCT := m_take C k;
  let x3 : Int32 := r1.1;
  let C2 : gCT := r1.2;
  let x4 : Int32 := C2 7 k 4;
  if x4 = 7 then (
    if x3 = 0 then (
      let C7 : gCT := cs C2 7 k 1 v;
      C7
    ) else (
      C2
    )
  ) else (
    C2
  )
set_option maxHeartbeats 4000000 in
set_option maxRecDepth 100000 in
theorem c_m_jumpIfZero (l : Launch) (G : gG) (lv : gLv) (ad : gAd) (C : gCT) (k : Nat) (v : Int32) (hM : gM lv k) : gMv l yX3_jumpIfZero cX3_jumpIfZero 3 (gRm 2 42 0 0) G [.ref (ad 7 k), .int v] lv ad (gF G C ad) (gEv lv ad (gF G (m_jumpIfZero C k v) ad)) := by
  refine r_met (own := RX3) (by decide) rfl (Nat.le_of_ble_eq_true rfl) ?_
  intro p e s m below meth c ls X hw hr hlk _ hl
  have hx := X.1.1; have hb := X.1.2.1; have hml := X.1.2.2.1; have hown := X.1.2.2.2.1; have hts := X.1.2.2.2.2
  have hl : lv_has ls 3 [(0, .ref (ad 7 k)), (1, .int v)] := hl
  refine lv_aload_n hx hb dX3_jumpIfZero_0 rfl (lv_at hl 0 rfl) ?_
  refine r_rix X hw (r_runV X (c_m_take l G lv ad _ _  hM _) cy_X3_take ml_RX3_108 ⟨(Nat.le_of_ble_eq_true rfl), (Nat.le_of_ble_eq_true rfl)⟩ gP.blind (g_recv X hw 7 _ (hM.1) rfl rfl) (gP_call X hw _) rfl hl.1 rfl (Nat.le_of_ble_eq_true rfl) dX3_jumpIfZero_1 ⟨(Nat.le_of_ble_eq_true rfl), (Nat.le_of_ble_eq_true rfl)⟩) (fun H locs hw => ?_)
  refine lv_topi (fun x3 ex3 => ?_)
  refine lv_istore_n (lv' := [(2, .int x3), (0, .ref (ad 7 k)), (1, .int v)]) hx hb dX3_jumpIfZero_4 rfl hl (by decide) rfl (fun ls hl => ?_)
  refine lv_aload_n hx hb dX3_jumpIfZero_5 rfl (lv_at hl 1 rfl) ?_
  refine r_get X hw 7 _ 7 (hM.1) rfl rfl k_X3 (by decide) fl_RX3_34 dX3_jumpIfZero_6 ?_
  refine lv_topi (fun x4 ex4 => ?_)
  refine lv_bipush (v := 7) hx hb dX3_jumpIfZero_9 (by decide) ?_
  refine lv_icmp_ne (tgt := 23) hx hb dX3_jumpIfZero_11 (by decide) (fun h5 => ?_) (fun h5 => ?_)
  · subst ex4 ex3
    exact r_vret X hw hr hlk (Nat.le_of_ble_eq_true rfl) (Nat.le_of_ble_eq_true rfl) (gEv_of ((if_neg h5).trans rfl)) dX3_jumpIfZero_23
  · refine lv_iload_n hx hb dX3_jumpIfZero_14 rfl (lv_at hl 0 rfl) ?_
    refine lv_if_ne (tgt := 23) hx hb dX3_jumpIfZero_15 (by decide) (fun h6 => ?_) (fun h6 => ?_)
    · subst ex4 ex3
      exact r_vret X hw hr hlk (Nat.le_of_ble_eq_true rfl) (Nat.le_of_ble_eq_true rfl) (gEv_of ((if_pos h5).trans ((if_neg h6).trans rfl))) dX3_jumpIfZero_23
    · refine lv_aload_n hx hb dX3_jumpIfZero_18 rfl (lv_at hl 1 rfl) ?_
      refine lv_iload_n hx hb dX3_jumpIfZero_19 rfl (lv_at hl 2 rfl) ?_
      refine s_put X hw 7 _ 4 1 (hM.1) rfl rfl k_X3 (by decide) (Nat.le_of_ble_eq_true rfl) fl_RX3_25 rfl rfl dX3_jumpIfZero_20 (fun H locs hw => ?_)
      subst ex4 ex3
      exact r_vret X hw hr hlk (Nat.le_of_ble_eq_true rfl) (Nat.le_of_ble_eq_true rfl) (gEv_of ((if_pos h5).trans ((if_pos h6).trans rfl))) dX3_jumpIfZero_23
def m_combine (C : gCT) (k : Nat) (v : Int32) : gCT :=
  let r1 : Int32 × gCT := m_take C k;
  let x3 : Int32 := r1.1;
  let C2 : gCT := r1.2;
  let r4 : Int32 × gCT := m_take C2 k;
  let x6 : Int32 := r4.1;
  let C5 : gCT := r4.2;
  let x7 : Int32 := C5 7 k 4;
  if x7 = 7 then (
    let x9 : Int32 := m_combined v x6 x3;
    let C10 : gCT := m_put C5 k x9;
    C10
  ) else (
    C5
  )
set_option maxHeartbeats 4000000 in
set_option maxRecDepth 100000 in
theorem c_m_combine (l : Launch) (G : gG) (lv : gLv) (ad : gAd) (C : gCT) (k : Nat) (v : Int32) (hM : gM lv k) : gMv l yX3_combine cX3_combine 4 (gRm 3 56 0 0) G [.ref (ad 7 k), .int v] lv ad (gF G C ad) (gEv lv ad (gF G (m_combine C k v) ad)) := by
  refine r_met (own := RX3) (by decide) rfl (Nat.le_of_ble_eq_true rfl) ?_
  intro p e s m below meth c ls X hw hr hlk _ hl
  have hx := X.1.1; have hb := X.1.2.1; have hml := X.1.2.2.1; have hown := X.1.2.2.2.1; have hts := X.1.2.2.2.2
  have hl : lv_has ls 4 [(0, .ref (ad 7 k)), (1, .int v)] := hl
  refine lv_aload_n hx hb dX3_combine_0 rfl (lv_at hl 0 rfl) ?_
  refine r_rix X hw (r_runV X (c_m_take l G lv ad _ _  hM _) cy_X3_take ml_RX3_108 ⟨(Nat.le_of_ble_eq_true rfl), (Nat.le_of_ble_eq_true rfl)⟩ gP.blind (g_recv X hw 7 _ (hM.1) rfl rfl) (gP_call X hw _) rfl hl.1 rfl (Nat.le_of_ble_eq_true rfl) dX3_combine_1 ⟨(Nat.le_of_ble_eq_true rfl), (Nat.le_of_ble_eq_true rfl)⟩) (fun H locs hw => ?_)
  refine lv_topi (fun x3 ex3 => ?_)
  refine lv_istore_n (lv' := [(2, .int x3), (0, .ref (ad 7 k)), (1, .int v)]) hx hb dX3_combine_4 rfl hl (by decide) rfl (fun ls hl => ?_)
  refine lv_aload_n hx hb dX3_combine_5 rfl (lv_at hl 1 rfl) ?_
  refine r_rix X hw (r_runV X (c_m_take l G lv ad _ _  hM _) cy_X3_take ml_RX3_108 ⟨(Nat.le_of_ble_eq_true rfl), (Nat.le_of_ble_eq_true rfl)⟩ gP.blind (g_recv X hw 7 _ (hM.1) rfl rfl) (gP_call X hw _) rfl hl.1 rfl (Nat.le_of_ble_eq_true rfl) dX3_combine_6 ⟨(Nat.le_of_ble_eq_true rfl), (Nat.le_of_ble_eq_true rfl)⟩) (fun H locs hw => ?_)
  refine lv_topi (fun x6 ex6 => ?_)
  refine lv_istore_n (lv' := [(3, .int x6), (2, .int x3), (0, .ref (ad 7 k)), (1, .int v)]) hx hb dX3_combine_9 rfl hl (by decide) rfl (fun ls hl => ?_)
  refine lv_aload_n hx hb dX3_combine_10 rfl (lv_at hl 2 rfl) ?_
  refine r_get X hw 7 _ 7 (hM.1) rfl rfl k_X3 (by decide) fl_RX3_34 dX3_combine_11 ?_
  refine lv_topi (fun x7 ex7 => ?_)
  refine lv_bipush (v := 7) hx hb dX3_combine_14 (by decide) ?_
  refine lv_icmp_ne (tgt := 29) hx hb dX3_combine_16 (by decide) (fun h8 => ?_) (fun h8 => ?_)
  · subst ex7 ex6 ex3
    exact r_vret X hw hr hlk (Nat.le_of_ble_eq_true rfl) (Nat.le_of_ble_eq_true rfl) (gEv_of ((if_neg h8).trans rfl)) dX3_combine_29
  · refine lv_aload_n hx hb dX3_combine_19 rfl (lv_at hl 2 rfl) ?_
    refine lv_iload_n hx hb dX3_combine_20 rfl (lv_at hl 3 rfl) ?_
    refine lv_iload_n hx hb dX3_combine_21 rfl (lv_at hl 0 rfl) ?_
    refine lv_iload_n hx hb dX3_combine_22 rfl (lv_at hl 1 rfl) ?_
    refine r_rp (r_runS X (c_m_combined l v x6 x3) cy_X3_combined ml_RX3_112 ⟨(Nat.le_of_ble_eq_true rfl), (Nat.le_of_ble_eq_true rfl)⟩ gPc_blind (fun _ _ _ => ⟨rfl, trivial⟩) rfl hl.1 rfl (Nat.le_of_ble_eq_true rfl) dX3_combine_23 ⟨(Nat.le_of_ble_eq_true rfl), (Nat.le_of_ble_eq_true rfl)⟩) ?_
    refine lv_topi (fun x9 ex9 => ?_)
    refine r_rvx X hw (r_runV X (c_m_put l G lv ad _ _ _ hM _) cy_X3_put ml_RX3_40 ⟨(Nat.le_of_ble_eq_true rfl), (Nat.le_of_ble_eq_true rfl)⟩ gP.blind (g_recv X hw 7 _ (hM.1) rfl rfl) (gP_call X hw _) rfl hl.1 rfl (Nat.le_of_ble_eq_true rfl) dX3_combine_26 ⟨(Nat.le_of_ble_eq_true rfl), (Nat.le_of_ble_eq_true rfl)⟩) (fun H locs hw => ?_)
    subst ex9 ex7 ex6 ex3
    exact r_vret X hw hr hlk (Nat.le_of_ble_eq_true rfl) (Nat.le_of_ble_eq_true rfl) (gEv_of ((if_pos h8).trans rfl)) dX3_combine_29
def m_passesGate (C : gCT) (k : Nat) : Int32 × gCT :=
  let x1 : Int32 := C 7 k 7;
  if 0 < x1 then (
    let x3 : Int32 := C 7 k 7;
    let x4 : Int32 := x3 - 1;
    let C5 : gCT := cs C 7 k 7 x4;
    let x6 : Int32 := C5 7 k 6;
    let x7 : Int32 := x6 + 1;
    let C8 : gCT := cs C5 7 k 6 x7;
    (1, C8)
  ) else (
    (0, C)
  )
set_option maxHeartbeats 4000000 in
set_option maxRecDepth 100000 in
theorem c_m_passesGate (l : Launch) (G : gG) (lv : gLv) (ad : gAd) (C : gCT) (k : Nat) (hM : gM lv k) : gMi l yX3_passesGate cX3_passesGate 1 (some .boolean) (gRm 0 0 0 0) G [.ref (ad 7 k)] lv ad (gF G C ad) (gE (m_passesGate C k).1 lv ad (gF G (m_passesGate C k).2 ad)) := by
  refine r_met (own := RX3) (by decide) rfl (Nat.le_of_ble_eq_true rfl) ?_
  intro p e s m below meth c ls X hw hr hlk _ hl
  have hx := X.1.1; have hb := X.1.2.1; have hml := X.1.2.2.1; have hown := X.1.2.2.2.1; have hts := X.1.2.2.2.2
  have hl : lv_has ls 1 [(0, .ref (ad 7 k))] := hl
  refine lv_aload_n hx hb dX3_passesGate_0 rfl (lv_at hl 0 rfl) ?_
  refine r_get X hw 7 _ 10 (hM.1) rfl rfl k_X3 (by decide) fl_RX3_44 dX3_passesGate_1 ?_
  refine lv_topi (fun x1 ex1 => ?_)
  refine lv_if_gt (tgt := 9) hx hb dX3_passesGate_4 (by decide) (fun h2 => ?_) (fun h2 => ?_)
  · refine lv_aload_n hx hb dX3_passesGate_9 rfl (lv_at hl 0 rfl) ?_
    refine lv_dup hx hb dX3_passesGate_10 rfl ?_
    refine r_get X hw 7 _ 10 (hM.1) rfl rfl k_X3 (by decide) fl_RX3_44 dX3_passesGate_11 ?_
    refine lv_topi (fun x3 ex3 => ?_)
    refine lv_iconst (v := 1) hx hb dX3_passesGate_14 (by decide) ?_
    refine lv_isub hx hb dX3_passesGate_15 ?_
    refine lv_topi (fun x4 ex4 => ?_)
    refine s_put X hw 7 _ 10 7 (hM.1) rfl rfl k_X3 (by decide) (Nat.le_of_ble_eq_true rfl) fl_RX3_44 rfl rfl dX3_passesGate_16 (fun H locs hw => ?_)
    refine lv_aload_n hx hb dX3_passesGate_19 rfl (lv_at hl 0 rfl) ?_
    refine lv_dup hx hb dX3_passesGate_20 rfl ?_
    refine r_get X hw 7 _ 9 (hM.1) rfl rfl k_X3 (by decide) fl_RX3_37 dX3_passesGate_21 ?_
    refine lv_topi (fun x6 ex6 => ?_)
    refine lv_iconst (v := 1) hx hb dX3_passesGate_24 (by decide) ?_
    refine lv_iadd hx hb dX3_passesGate_25 ?_
    refine lv_topi (fun x7 ex7 => ?_)
    refine s_put X hw 7 _ 9 6 (hM.1) rfl rfl k_X3 (by decide) (Nat.le_of_ble_eq_true rfl) fl_RX3_37 rfl rfl dX3_passesGate_26 (fun H locs hw => ?_)
    refine lv_iconst (v := 1) hx hb dX3_passesGate_29 (by decide) ?_
    subst ex7 ex6 ex4 ex3 ex1
    exact r_iret X hw hr nar_b1 hlk (Nat.le_of_ble_eq_true rfl) (Nat.le_of_ble_eq_true rfl) (gE_of ((if_pos h2).trans rfl)) dX3_passesGate_30
  · refine lv_iconst (v := 0) hx hb dX3_passesGate_7 (by decide) ?_
    subst ex1
    exact r_iret X hw hr nar_b0 hlk (Nat.le_of_ble_eq_true rfl) (Nat.le_of_ble_eq_true rfl) (gE_of ((if_neg h2).trans rfl)) dX3_passesGate_8

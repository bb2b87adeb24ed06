/-! ===== the tool's calls ===== -/
def gForm (lv : gLv) (C : gCT) (f : Nat) : Prop := lv 4 f ∧ lv 5 f ∧ lv 6 f ∧ gCode lv (8 * f + (C 4 f 0).toNatClampNeg) ∧ gCode lv (8 * f + (C 4 f 0).toNatClampNeg + 1) ∧ ∃ v : Nat, v ≤ 6 ∧ C 4 f 0 = nI v
def gTop (lv : gLv) (C : gCT) : Prop := lv 0 0 ∧ lv 1 0 ∧ lv 17 0 ∧ lv 18 0 ∧ lv 19 0 ∧ gM lv 24 ∧ ∀ f, f < 4 → gForm lv C f
def gRuns (lv : gLv) (C : gCT) (rc bcap : Nat) : Prop := gL lv C 24 rc bcap ∧ rc ≤ 24 ∧ ∀ r, r < rc → ∃ cnt cap, gRun lv C r cnt cap ∧ gM lv r ∧ (C 11 r 6).toNatClampNeg < 4 ∧ gCode lv (C 11 r 7).toNatClampNeg
theorem vp_in_wm {x : Int32} {c : Nat} (hc : c < 2 ^ 31) (h : ¬ m_isWithin x 0 (nI c - 1) = 0) : vp_in x c := by
  obtain ⟨h1, h2⟩ := m_isWithin_of h
  have h3 := Int32.le_iff_toInt_le.mp (Int32.not_lt.mp h1)
  have h4 := Int32.le_iff_toInt_le.mp (Int32.not_lt.mp h2)
  have h5 : (nI c - 1).toInt = (nI c).toInt - (1 : Int32).toInt := sub_toInt' (by rw [nI_toInt hc]; simp; omega) (by rw [nI_toInt hc]; simp; omega)
  rw [h5, nI_toInt hc] at h4
  simp at h3 h4
  rw [vp_in_iff]
  omega
def m_formAt (C : gCT) (n1 : Int32) : Nat :=
  let x1 : Int32 := m_isWithin n1 0 3;
  if x1 = 0 then (
    1
  ) else (
    0
  )
set_option maxHeartbeats 4000000 in
set_option maxRecDepth 100000 in
theorem c_m_formAt (l : Launch) (hst : l.stackTraces = false) (G : gG) (lv : gLv) (ad : gAd) (C : gCT) (n1 : Int32) (hT : gTop lv C) : gMxr l yX5_formAt cX5_formAt 2 (some (.object "AskMachine$Form")) (gRm 6 82 1 6) G [.ref (ad 0 0), .int n1] lv ad C (m_formAt C n1) (ad 4 n1.toNatClampNeg) := by
  refine x_met (own := RX5) (XC := fun sz => gXC G (gA lv ad sz) lv ad (gF G C ad) _) (by decide) rfl (Nat.le_of_ble_eq_true rfl) ?_
  intro p e s m below meth c ls X hw hr hlk ht hl
  have hx := X.1.1; have hb := X.1.2.1; have hml := X.1.2.2.1; have hown := X.1.2.2.2.1; have hts := X.1.2.2.2.2
  have hl : lv_has ls 2 [(0, .ref (ad 0 0)), (1, .int n1)] := hl
  refine lv_iload_n hx hb dX5_formAt_0 rfl (lv_at hl 1 rfl) ?_
  refine lv_iconst (v := 0) hx hb dX5_formAt_1 (by decide) ?_
  refine lv_iconst (v := 3) hx hb dX5_formAt_2 (by decide) ?_
  refine r_rp (r_runS X (c_m_isWithin l n1 0 3) cy_X5_isWithin ml_RX5_44 ⟨(Nat.le_of_ble_eq_true rfl), (Nat.le_of_ble_eq_true rfl)⟩ gPc_blind (fun _ _ _ => ⟨rfl, trivial⟩) rfl hl.1 rfl (Nat.le_of_ble_eq_true rfl) dX5_formAt_3 ⟨(Nat.le_of_ble_eq_true rfl), (Nat.le_of_ble_eq_true rfl)⟩) ?_
  refine lv_topi (fun x1 ex1 => ?_)
  refine lv_if_ne (tgt := 19) hx hb dX5_formAt_6 (by decide) (fun h2 => ?_) (fun h2 => ?_)
  · refine lv_aload_n hx hb dX5_formAt_19 rfl (lv_at hl 0 rfl) ?_
    refine r_get X hw 0 _ 0 (hT.1) rfl rfl k_X5 (by decide) fl_RX5_11 dX5_formAt_20 ?_
    refine lv_iload_n hx hb dX5_formAt_23 rfl (lv_at hl 1 rfl) ?_
    refine r_fald X hw 1 _ (hT.2.1) rfl (by subst ex1; exact vp_in_w h2 (by decide)) (v := .ref (ad 4 n1.toNatClampNeg)) (congrArg va_rf (if_pos (vp_lt (by subst ex1; exact vp_in_w h2 (by decide))))) dX5_formAt_24 ?_
    subst ex1
    exact x_aret X hw hr (Or.inl ⟨_, rfl⟩) hlk (Nat.le_of_ble_eq_true rfl) (Nat.le_of_ble_eq_true rfl) ((if_neg h2).trans rfl) rfl dX5_formAt_25
  · subst ex1
    exact r_throw X hst hw 1 (Or.inl ⟨rfl, rfl⟩) (by decide) cl_RX5_113 ini_IndexOutOfBoundsException sx_238 x_at_1 x_gd_1 hl.1 dX5_formAt_9 dX5_formAt_12 dX5_formAt_13 dX5_formAt_15 dX5_formAt_18 ht (Nat.le_of_ble_eq_true rfl) (Nat.le_of_ble_eq_true rfl) (Nat.le_of_ble_eq_true rfl) (Nat.le_of_ble_eq_true rfl) hlk (Nat.le_of_ble_eq_true rfl) (Nat.le_of_ble_eq_true rfl) ((if_pos h2).trans rfl)
theorem m_formAt_lt {n : Int32} (C : gCT) (h : m_formAt C n = 0) : n.toNatClampNeg < 4 := by
  unfold m_formAt at h
  dsimp only at h
  split at h
  · exact absurd h (by decide)
  · exact vp_lt (vp_in_w (k := 3) (n := 4) (by assumption) (by decide))
def m_runAt (C : gCT) (n1 : Int32) : Nat :=
  let x1 : Int32 := C 2 24 1;
  let x2 : Int32 := x1 - 1;
  let x3 : Int32 := m_isWithin n1 0 x2;
  if x3 = 0 then (
    1
  ) else (
    0
  )
set_option maxHeartbeats 4000000 in
set_option maxRecDepth 100000 in
theorem c_m_runAt (l : Launch) (hst : l.stackTraces = false) (G : gG) (lv : gLv) (ad : gAd) (C : gCT) (n1 : Int32) (rc bcap : Nat) (hT : gTop lv C) (hRs : gRuns lv C rc bcap) : gMxr l yX5_runAt cX5_runAt 2 (some (.object "AskMachine$Run")) (gRm 6 82 1 6) G [.ref (ad 0 0), .int n1] lv ad C (m_runAt C n1) (ad 11 n1.toNatClampNeg) := by
  refine x_met (own := RX5) (XC := fun sz => gXC G (gA lv ad sz) lv ad (gF G C ad) _) (by decide) rfl (Nat.le_of_ble_eq_true rfl) ?_
  intro p e s m below meth c ls X hw hr hlk ht hl
  have hx := X.1.1; have hb := X.1.2.1; have hml := X.1.2.2.1; have hown := X.1.2.2.2.1; have hts := X.1.2.2.2.2
  have hl : lv_has ls 2 [(0, .ref (ad 0 0)), (1, .int n1)] := hl
  refine lv_iload_n hx hb dX5_runAt_0 rfl (lv_at hl 1 rfl) ?_
  refine lv_iconst (v := 0) hx hb dX5_runAt_1 (by decide) ?_
  refine lv_aload_n hx hb dX5_runAt_2 rfl (lv_at hl 0 rfl) ?_
  refine r_get X hw 0 _ 1 (hT.1) rfl rfl k_X5 (by decide) fl_RX5_18 dX5_runAt_3 ?_
  refine r_rix X hw (r_runV X (c_size l G lv ad _ _ (hRs.1.1) _) cy_Jx4a65c_size_8abf5 ml_RX5_133 ⟨(Nat.le_of_ble_eq_true rfl), (Nat.le_of_ble_eq_true rfl)⟩ gP.blind (g_recv X hw 2 _ (hRs.1.1) rfl rfl) (gP_call X hw _) rfl hl.1 rfl (Nat.le_of_ble_eq_true rfl) dX5_runAt_6 ⟨(Nat.le_of_ble_eq_true rfl), (Nat.le_of_ble_eq_true rfl)⟩) (fun H locs hw => ?_)
  refine lv_topi (fun x1 ex1 => ?_)
  refine lv_iconst (v := 1) hx hb dX5_runAt_9 (by decide) ?_
  refine lv_isub hx hb dX5_runAt_10 ?_
  refine lv_topi (fun x2 ex2 => ?_)
  refine r_rp (r_runS X (c_m_isWithin l n1 0 x2) cy_X5_isWithin ml_RX5_44 ⟨(Nat.le_of_ble_eq_true rfl), (Nat.le_of_ble_eq_true rfl)⟩ gPc_blind (fun _ _ _ => ⟨rfl, trivial⟩) rfl hl.1 rfl (Nat.le_of_ble_eq_true rfl) dX5_runAt_11 ⟨(Nat.le_of_ble_eq_true rfl), (Nat.le_of_ble_eq_true rfl)⟩) ?_
  refine lv_topi (fun x3 ex3 => ?_)
  refine lv_if_ne (tgt := 27) hx hb dX5_runAt_14 (by decide) (fun h4 => ?_) (fun h4 => ?_)
  · have hin : vp_in n1 rc := by subst ex3 ex2 ex1; rw [hRs.1.2.1] at h4; exact vp_in_wm (by have := hRs.2.1; omega) h4
    have hL11 : lv 11 n1.toNatClampNeg := by obtain ⟨cnt, cap, hR, -⟩ := hRs.2.2 _ (vp_lt hin); exact hR.2.1
    refine lv_aload_n hx hb dX5_runAt_27 rfl (lv_at hl 0 rfl) ?_
    refine r_get X hw 0 _ 1 (hT.1) rfl rfl k_X5 (by decide) fl_RX5_18 dX5_runAt_28 ?_
    refine lv_iload_n hx hb dX5_runAt_31 rfl (lv_at hl 1 rfl) ?_
    refine r_rrx X hw (r_runV X (c_lgetR l G lv ad _  _ _ n1 hRs.1 hin _) cy_Jx4a65c_get_915e3 ml_RX5_219 ⟨(Nat.le_of_ble_eq_true rfl), (Nat.le_of_ble_eq_true rfl)⟩ gP.blind (g_recv X hw 2 _ (hRs.1.1) rfl rfl) (gP_call X hw _) rfl hl.1 rfl (Nat.le_of_ble_eq_true rfl) dX5_runAt_32 ⟨(Nat.le_of_ble_eq_true rfl), (Nat.le_of_ble_eq_true rfl)⟩) (fun H locs hw => ?_)
    refine r_cast X hw 11 _ (hL11) rfl k_X4 cl_RX5_138 dX5_runAt_35 ?_
    subst ex3 ex2 ex1
    exact x_aret X hw hr (Or.inl ⟨_, rfl⟩) hlk (Nat.le_of_ble_eq_true rfl) (Nat.le_of_ble_eq_true rfl) ((if_neg h4).trans rfl) rfl dX5_runAt_38
  · subst ex3 ex2 ex1
    exact r_throw X hst hw 1 (Or.inl ⟨rfl, rfl⟩) (by decide) cl_RX5_113 ini_IndexOutOfBoundsException sx_240 x_at_1 x_gd_1 hl.1 dX5_runAt_17 dX5_runAt_20 dX5_runAt_21 dX5_runAt_23 dX5_runAt_26 ht (Nat.le_of_ble_eq_true rfl) (Nat.le_of_ble_eq_true rfl) (Nat.le_of_ble_eq_true rfl) (Nat.le_of_ble_eq_true rfl) hlk (Nat.le_of_ble_eq_true rfl) (Nat.le_of_ble_eq_true rfl) ((if_pos h4).trans rfl)
theorem m_runAt_lt {lv : gLv} {C : gCT} {rc bcap : Nat} {n : Int32} (hRs : gRuns lv C rc bcap) (h : m_runAt C n = 0) : n.toNatClampNeg < rc := by
  unfold m_runAt at h
  dsimp only at h
  split at h
  · exact absurd h (by decide)
  · refine vp_lt (vp_in_wm (by have := hRs.2.1; omega) (x := n) ?_)
    rw [← hRs.1.2.1]
    assumption
def m_isFull (C : gCT) (d : Nat) : Int32 × gCT :=
  let x1 : Int32 := C 14 d 0;
  if x1 < 24 then (
    (0, C)
  ) else (
    (1, C)
  )
set_option maxHeartbeats 4000000 in
set_option maxRecDepth 100000 in
theorem c_m_isFull (l : Launch) (G : gG) (lv : gLv) (ad : gAd) (C : gCT) (d : Nat) (hC : gCode lv d) : gMi l yX1_isFull cX1_isFull 1 (some .boolean) (gRm 0 0 0 0) G [.ref (ad 14 d)] lv ad (gF G C ad) (gE (m_isFull C d).1 lv ad (gF G (m_isFull C d).2 ad)) := by
  refine r_met (own := RX1) (by decide) rfl (Nat.le_of_ble_eq_true rfl) ?_
  intro p e s m below meth c ls X hw hr hlk _ hl
  have hx := X.1.1; have hb := X.1.2.1; have hml := X.1.2.2.1; have hown := X.1.2.2.2.1; have hts := X.1.2.2.2.2
  have hl : lv_has ls 1 [(0, .ref (ad 14 d))] := hl
  refine lv_aload_n hx hb dX1_isFull_0 rfl (lv_at hl 0 rfl) ?_
  refine r_get X hw 14 _ 2 (hC.1) rfl rfl k_X1 (by decide) fl_RX1_18 dX1_isFull_1 ?_
  refine lv_topi (fun x1 ex1 => ?_)
  refine lv_bipush (v := 24) hx hb dX1_isFull_4 (by decide) ?_
  refine lv_icmp_lt (tgt := 13) hx hb dX1_isFull_6 (by decide) (fun h2 => ?_) (fun h2 => ?_)
  · refine lv_iconst (v := 0) hx hb dX1_isFull_13 (by decide) ?_
    subst ex1
    exact r_iret X hw hr nar_b0 hlk (Nat.le_of_ble_eq_true rfl) (Nat.le_of_ble_eq_true rfl) (gE_of ((if_pos h2).trans rfl)) dX1_isFull_14
  · refine lv_iconst (v := 1) hx hb dX1_isFull_9 (by decide) ?_
    refine lv_goto (tgt := 14) hx hb dX1_isFull_10 (by decide) ?_
    subst ex1
    exact r_iret X hw hr nar_b1 hlk (Nat.le_of_ble_eq_true rfl) (Nat.le_of_ble_eq_true rfl) (gE_of ((if_neg h2).trans rfl)) dX1_isFull_14
theorem m_isFull_C (C : gCT) (d : Nat) : (m_isFull C d).2 = C := by
  unfold m_isFull
  dsimp only
  split <;> rfl
theorem m_isFull_in {C : gCT} {d j : Nat} (hd : C 14 d 0 = nI j) (hj : j ≤ 24) (h : (m_isFull C d).1 = 0) : vp_in (C 14 d 0) 24 := by
  unfold m_isFull at h
  dsimp only at h
  split at h
  · refine vp_in_lt (j := j) (c := 24) (x := 24) hd rfl (by omega) (by omega) (Int32.not_le.mpr (by assumption))
  · exact absurd h (show ¬ (1 : Int32) = 0 by decide)
def m_append (C : gCT) (d : Nat) (v w : Int32) : gCT :=
  let r1 : Int32 × gCT := m_isFull C d;
  let x3 : Int32 := r1.1;
  let C2 : gCT := r1.2;
  if x3 = 0 then (
    let x5 : Int32 := C2 14 d 0;
    let C6 : gCT := cs C2 15 d x5.toNatClampNeg v;
    let x7 : Int32 := C6 14 d 0;
    let C8 : gCT := cs C6 16 d x7.toNatClampNeg w;
    let x9 : Int32 := C8 14 d 0;
    let x10 : Int32 := x9 + 1;
    let C11 : gCT := cs C8 14 d 0 x10;
    C11
  ) else (
    C2
  )
set_option maxHeartbeats 4000000 in
set_option maxRecDepth 100000 in
theorem c_m_append (l : Launch) (G : gG) (lv : gLv) (ad : gAd) (C : gCT) (d : Nat) (v w : Int32) (j : Nat) (hC : gCode lv d) (hd : C 14 d 0 = nI j) (hj : j ≤ 24) : gMv l yX1_append cX1_append 3 (gRm 1 20 0 0) G [.ref (ad 14 d), .int v, .int w] lv ad (gF G C ad) (gEv lv ad (gF G (m_append C d v w) ad)) := by
  refine r_met (own := RX1) (by decide) rfl (Nat.le_of_ble_eq_true rfl) ?_
  intro p e s m below meth c ls X hw hr hlk _ hl
  have hx := X.1.1; have hb := X.1.2.1; have hml := X.1.2.2.1; have hown := X.1.2.2.2.1; have hts := X.1.2.2.2.2
  have hl : lv_has ls 3 [(0, .ref (ad 14 d)), (1, .int v), (2, .int w)] := hl
  refine lv_aload_n hx hb dX1_append_0 rfl (lv_at hl 0 rfl) ?_
  refine r_rix X hw (r_runV X (c_m_isFull l G lv ad _ _  hC _) cy_X1_isFull ml_RX1_22 ⟨(Nat.le_of_ble_eq_true rfl), (Nat.le_of_ble_eq_true rfl)⟩ gP.blind (g_recv X hw 14 _ (hC.1) rfl rfl) (gP_call X hw _) rfl hl.1 rfl (Nat.le_of_ble_eq_true rfl) dX1_append_1 ⟨(Nat.le_of_ble_eq_true rfl), (Nat.le_of_ble_eq_true rfl)⟩) (fun H locs hw => ?_)
  refine lv_topi (fun x3 ex3 => ?_)
  refine lv_if_eq (tgt := 8) hx hb dX1_append_4 (by decide) (fun h4 => ?_) (fun h4 => ?_)
  · refine lv_aload_n hx hb dX1_append_8 rfl (lv_at hl 0 rfl) ?_
    refine r_get X hw 14 _ 0 (hC.1) rfl rfl k_X1 (by decide) fl_RX1_9 dX1_append_9 ?_
    refine lv_aload_n hx hb dX1_append_12 rfl (lv_at hl 0 rfl) ?_
    refine r_get X hw 14 _ 2 (hC.1) rfl rfl k_X1 (by decide) fl_RX1_18 dX1_append_13 ?_
    refine lv_topi (fun x5 ex5 => ?_)
    refine lv_iload_n hx hb dX1_append_16 rfl (lv_at hl 1 rfl) ?_
    refine s_iast X hw 15 _ (hC.2.1) rfl (fun _ => rfl) (by subst ex5 ex3; rw [m_isFull_C]; exact m_isFull_in hd hj (by assumption)) dX1_append_17 (fun H locs hw => ?_)
    refine lv_aload_n hx hb dX1_append_18 rfl (lv_at hl 0 rfl) ?_
    refine r_get X hw 14 _ 1 (hC.1) rfl rfl k_X1 (by decide) fl_RX1_15 dX1_append_19 ?_
    refine lv_aload_n hx hb dX1_append_22 rfl (lv_at hl 0 rfl) ?_
    refine r_get X hw 14 _ 2 (hC.1) rfl rfl k_X1 (by decide) fl_RX1_18 dX1_append_23 ?_
    refine lv_topi (fun x7 ex7 => ?_)
    refine lv_iload_n hx hb dX1_append_26 rfl (lv_at hl 2 rfl) ?_
    refine s_iast X hw 16 _ (hC.2.2) rfl (fun _ => rfl) (by subst ex7 ex5 ex3; rw [cs_k _ _ _ _ (by decide), m_isFull_C]; exact m_isFull_in hd hj (by assumption)) dX1_append_27 (fun H locs hw => ?_)
    refine lv_aload_n hx hb dX1_append_28 rfl (lv_at hl 0 rfl) ?_
    refine lv_dup hx hb dX1_append_29 rfl ?_
    refine r_get X hw 14 _ 2 (hC.1) rfl rfl k_X1 (by decide) fl_RX1_18 dX1_append_30 ?_
    refine lv_topi (fun x9 ex9 => ?_)
    refine lv_iconst (v := 1) hx hb dX1_append_33 (by decide) ?_
    refine lv_iadd hx hb dX1_append_34 ?_
    refine lv_topi (fun x10 ex10 => ?_)
    refine s_put X hw 14 _ 2 0 (hC.1) rfl rfl k_X1 (by decide) (Nat.le_of_ble_eq_true rfl) fl_RX1_18 rfl rfl dX1_append_35 (fun H locs hw => ?_)
    subst ex10 ex9 ex7 ex5 ex3
    exact r_vret X hw hr hlk (Nat.le_of_ble_eq_true rfl) (Nat.le_of_ble_eq_true rfl) (gEv_of ((if_pos h4).trans rfl)) dX1_append_38
  · subst ex3
    exact r_vret X hw hr hlk (Nat.le_of_ble_eq_true rfl) (Nat.le_of_ble_eq_true rfl) (gEv_of ((if_neg h4).trans rfl)) dX1_append_7
def m_newest (C : gCT) (f : Nat) : Int32 × gCT :=
  let x1 : Int32 := C 4 f 0;
  let x2 : Int32 := x1 - 1;
  (x2, C)
set_option maxHeartbeats 4000000 in
set_option maxRecDepth 100000 in
theorem c_m_newest (l : Launch) (G : gG) (lv : gLv) (ad : gAd) (C : gCT) (f : Nat) (hF : gForm lv C f) : gMi l yX2_newestNumber cX2_newestNumber 1 (some .int) (gRm 0 0 0 0) G [.ref (ad 4 f)] lv ad (gF G C ad) (gE (m_newest C f).1 lv ad (gF G (m_newest C f).2 ad)) := by
  refine r_met (own := RX2) (by decide) rfl (Nat.le_of_ble_eq_true rfl) ?_
  intro p e s m below meth c ls X hw hr hlk _ hl
  have hx := X.1.1; have hb := X.1.2.1; have hml := X.1.2.2.1; have hown := X.1.2.2.2.1; have hts := X.1.2.2.2.2
  have hl : lv_has ls 1 [(0, .ref (ad 4 f))] := hl
  refine lv_aload_n hx hb dX2_newestNumber_0 rfl (lv_at hl 0 rfl) ?_
  refine r_get X hw 4 _ 2 (hF.1) rfl rfl k_X2 (by decide) fl_RX2_32 dX2_newestNumber_1 ?_
  refine lv_topi (fun x1 ex1 => ?_)
  refine lv_iconst (v := 1) hx hb dX2_newestNumber_4 (by decide) ?_
  refine lv_isub hx hb dX2_newestNumber_5 ?_
  refine lv_topi (fun x2 ex2 => ?_)
  subst ex2 ex1
  exact r_iret X hw hr rfl hlk (Nat.le_of_ble_eq_true rfl) (Nat.le_of_ble_eq_true rfl) (gE_of (rfl)) dX2_newestNumber_6
theorem m_newest_C (C : gCT) (f : Nat) : (m_newest C f).2 = C := by
  unfold m_newest
  dsimp only
  repeat' split
  all_goals rfl
theorem c_m_newest_ro (l : Launch) (G : gG) (lv : gLv) (ad : gAd) (C : gCT) (f : Nat) (hF : gForm lv C f) : gMi l yX2_newestNumber cX2_newestNumber 1 (some .int) (gRm 0 0 0 0) G [.ref (ad 4 f)] lv ad (gF G C ad) (gE (m_newest C f).1 lv ad (gF G C ad)) := by
  have h := c_m_newest l G lv ad C f hF
  rwa [m_newest_C] at h
def m_isFullFor (C : gCT) (f : Nat) (n1 : Int32) : Int32 × gCT :=
  let x1 : Int32 := m_at (C 6 f) 4 n1;
  let x2 : Int32 := m_at (C 5 f) 4 n1;
  if x1 < x2 then (
    (0, C)
  ) else (
    (1, C)
  )
set_option maxHeartbeats 4000000 in
set_option maxRecDepth 100000 in
theorem c_m_isFullFor (l : Launch) (G : gG) (lv : gLv) (ad : gAd) (C : gCT) (f : Nat) (n1 : Int32) (hF : gForm lv C f) : gMi l yX2_isFullFor cX2_isFullFor 2 (some .boolean) (gRm 1 21 0 0) G [.ref (ad 4 f), .int n1] lv ad (gF G C ad) (gE (m_isFullFor C f n1).1 lv ad (gF G (m_isFullFor C f n1).2 ad)) := by
  refine r_met (own := RX2) (by decide) rfl (Nat.le_of_ble_eq_true rfl) ?_
  intro p e s m below meth c ls X hw hr hlk _ hl
  have hx := X.1.1; have hb := X.1.2.1; have hml := X.1.2.2.1; have hown := X.1.2.2.2.1; have hts := X.1.2.2.2.2
  have hl : lv_has ls 2 [(0, .ref (ad 4 f)), (1, .int n1)] := hl
  refine lv_aload_n hx hb dX2_isFullFor_0 rfl (lv_at hl 0 rfl) ?_
  refine r_get X hw 4 _ 6 (hF.1) rfl rfl k_X2 (by decide) fl_RX2_29 dX2_isFullFor_1 ?_
  refine lv_iload_n hx hb dX2_isFullFor_4 rfl (lv_at hl 1 rfl) ?_
  refine r_rp (r_runSN X (c_m_at l (ad 6 _) 4 _ n1 (by decide)) cy_X5_at mn_RX2_35 ⟨(Nat.le_of_ble_eq_true rfl), (Nat.le_of_ble_eq_true rfl)⟩ gArr_blind (fun U hU hW => ⟨rfl, gArr_call X hw 6 _ (hF.2.2.1) rfl U hU hW⟩) rfl hl.1 rfl (Nat.le_of_ble_eq_true rfl) dX2_isFullFor_5 ⟨(Nat.le_of_ble_eq_true rfl), (Nat.le_of_ble_eq_true rfl)⟩) ?_
  refine lv_topi (fun x1 ex1 => ?_)
  refine lv_aload_n hx hb dX2_isFullFor_8 rfl (lv_at hl 0 rfl) ?_
  refine r_get X hw 4 _ 5 (hF.1) rfl rfl k_X2 (by decide) fl_RX2_25 dX2_isFullFor_9 ?_
  refine lv_iload_n hx hb dX2_isFullFor_12 rfl (lv_at hl 1 rfl) ?_
  refine r_rp (r_runSN X (c_m_at l (ad 5 _) 4 _ n1 (by decide)) cy_X5_at mn_RX2_35 ⟨(Nat.le_of_ble_eq_true rfl), (Nat.le_of_ble_eq_true rfl)⟩ gArr_blind (fun U hU hW => ⟨rfl, gArr_call X hw 5 _ (hF.2.1) rfl U hU hW⟩) rfl hl.1 rfl (Nat.le_of_ble_eq_true rfl) dX2_isFullFor_13 ⟨(Nat.le_of_ble_eq_true rfl), (Nat.le_of_ble_eq_true rfl)⟩) ?_
  refine lv_topi (fun x2 ex2 => ?_)
  refine lv_icmp_lt (tgt := 23) hx hb dX2_isFullFor_16 (by decide) (fun h3 => ?_) (fun h3 => ?_)
  · refine lv_iconst (v := 0) hx hb dX2_isFullFor_23 (by decide) ?_
    subst ex2 ex1
    exact r_iret X hw hr nar_b0 hlk (Nat.le_of_ble_eq_true rfl) (Nat.le_of_ble_eq_true rfl) (gE_of ((if_pos h3).trans rfl)) dX2_isFullFor_24
  · refine lv_iconst (v := 1) hx hb dX2_isFullFor_19 (by decide) ?_
    refine lv_goto (tgt := 24) hx hb dX2_isFullFor_20 (by decide) ?_
    subst ex2 ex1
    exact r_iret X hw hr nar_b1 hlk (Nat.le_of_ble_eq_true rfl) (Nat.le_of_ble_eq_true rfl) (gE_of ((if_neg h3).trans rfl)) dX2_isFullFor_24
theorem m_isFullFor_C (C : gCT) (f : Nat) (n1 : Int32) : (m_isFullFor C f n1).2 = C := by
  unfold m_isFullFor
  dsimp only
  repeat' split
  all_goals rfl
theorem c_m_isFullFor_ro (l : Launch) (G : gG) (lv : gLv) (ad : gAd) (C : gCT) (f : Nat) (n1 : Int32) (hF : gForm lv C f) : gMi l yX2_isFullFor cX2_isFullFor 2 (some .boolean) (gRm 1 21 0 0) G [.ref (ad 4 f), .int n1] lv ad (gF G C ad) (gE (m_isFullFor C f n1).1 lv ad (gF G C ad)) := by
  have h := c_m_isFullFor l G lv ad C f n1 hF
  rwa [m_isFullFor_C] at h

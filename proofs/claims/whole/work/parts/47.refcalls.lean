def q_setFuel (C : gCT) (n1 n2 : Int32) : Int32 × gCT :=
  let x1 : Int32 := q_isBelow n1 4;
  let x2 : Int32 := q_isWithin n2 1 200;
  let x3 : Int32 := if q_thr x1 x2 1 = 0 then 1 else 0;
  let C4 : gCT := cs C 20 0 3 (q_thr x1 x2 1);
  if x3 = 0 then (
    (0, C4)
  ) else (
    let x6 : Int32 := C 21 7 n1.toNatClampNeg;
    let C7 : gCT := cs C4 21 7 n1.toNatClampNeg n2;
    (x6, C7)
  )
set_option maxHeartbeats 4000000 in
set_option maxRecDepth 100000 in
theorem c_q_setFuel (l : Launch) (G : gG) (lv : gLv) (ad : gAd) (C : gCT) (n1 n2 : Int32) (hL : gLM lv) (hB : MBI C)  : gMi l yX6_setFuel cX6_setFuel 4 (some .int) (gRm 1 23 0 0) G [.ref (ad 20 0), .int n1, .int n2] lv ad (gF G C ad) (gRi G lv ad MBI (q_setFuel C n1 n2)) := by
  refine r_met (own := RX6) (by decide) rfl (Nat.le_of_ble_eq_true rfl) ?_
  intro p e s m below meth c ls X hw hr hlk _ hl
  have hx := X.1.1; have hb := X.1.2.1; have hml := X.1.2.2.1; have hown := X.1.2.2.2.1; have hts := X.1.2.2.2.2
  have hl : lv_has ls 4 [(0, .ref (ad 20 0)), (1, .int n1), (2, .int n2)] := hl
  have hB0 := hB
  refine lv_aload_n hx hb dX6_setFuel_0 rfl (lv_at hl 0 rfl) ?_
  refine lv_iload_n hx hb dX6_setFuel_1 rfl (lv_at hl 1 rfl) ?_
  refine lv_iconst (v := 4) hx hb dX6_setFuel_2 (by decide) ?_
  refine r_rp (r_runS X (c_q_isBelow l n1 4) cy_X6_isBelow ml_RX6_114 ⟨(Nat.le_of_ble_eq_true rfl), (Nat.le_of_ble_eq_true rfl)⟩ gPc_blind (fun _ _ _ => ⟨rfl, trivial⟩) rfl hl.1 rfl (Nat.le_of_ble_eq_true rfl) dX6_setFuel_3 ⟨(Nat.le_of_ble_eq_true rfl), (Nat.le_of_ble_eq_true rfl)⟩) ?_
  refine lv_topi (fun x1 ex1 => ?_)
  refine lv_iload_n hx hb dX6_setFuel_6 rfl (lv_at hl 2 rfl) ?_
  refine lv_iconst (v := 1) hx hb dX6_setFuel_7 (by decide) ?_
  refine lv_sipush (v := 200) hx hb dX6_setFuel_8 (by decide) ?_
  refine r_rp (r_runS X (c_q_isWithin l n2 1 200) cy_X6_isWithin ml_RX6_110 ⟨(Nat.le_of_ble_eq_true rfl), (Nat.le_of_ble_eq_true rfl)⟩ gPc_blind (fun _ _ _ => ⟨rfl, trivial⟩) rfl hl.1 rfl (Nat.le_of_ble_eq_true rfl) dX6_setFuel_11 ⟨(Nat.le_of_ble_eq_true rfl), (Nat.le_of_ble_eq_true rfl)⟩) ?_
  refine lv_topi (fun x2 ex2 => ?_)
  refine lv_iconst (v := 1) hx hb dX6_setFuel_14 (by decide) ?_
  refine r_qi X hw (r_runV X (c_q_goes1 l G lv ad _ x1 x2 1 hL hB _) cy_X6_goes ml_RX6_121 ⟨(Nat.le_of_ble_eq_true rfl), (Nat.le_of_ble_eq_true rfl)⟩ gP.blind (g_recv X hw 20 0 hL.1 rfl rfl) (gP_call X hw _) rfl hl.1 rfl (Nat.le_of_ble_eq_true rfl) dX6_setFuel_15 ⟨(Nat.le_of_ble_eq_true rfl), (Nat.le_of_ble_eq_true rfl)⟩) (fun H locs hB hw => ?_)
  dsimp only at hB hw
  refine lv_topi (fun x3 ex3 => ?_)
  have ex3 : x3 = (if q_thr x1 x2 1 = 0 then 1 else 0) := ex3
  refine lv_if_ne (tgt := 23) hx hb dX6_setFuel_18 (by decide) (fun h5 => ?_) (fun h5 => ?_)
  · obtain ⟨g1, g2, g3⟩ := q_goes_of (a := x1) (b := x2) (c := 1) (by rw [← ex3]; exact h5)
    obtain ⟨pn1, bn1⟩ := q_isBelow_of (x := n1) (n := 4) (N := 4) rfl (by decide) (by rw [← ex1]; exact g1)
    obtain ⟨pn2, bn2⟩ := q_isWithin1_of (x := n2) (n := 200) (N := 200) rfl (by decide) (by rw [← ex2]; exact g2)
    refine lv_aload_n hx hb dX6_setFuel_23 rfl (lv_at hl 0 rfl) ?_
    refine r_get X hw 20 _ 7 (hL.1) rfl rfl k_X6 (by decide) fl_RX6_31 dX6_setFuel_24 ?_
    refine lv_iload_n hx hb dX6_setFuel_27 rfl (lv_at hl 1 rfl) ?_
    refine q_iald X hw 7 (hL.2 7 (by decide) (by decide) (by decide)) (j := n1.toNatClampNeg) pn1 (show n1.toNatClampNeg < 4 by omega) dX6_setFuel_28 ?_
    refine lv_topi (fun x6 ex6 => ?_)
    obtain ⟨px6, bx6⟩ := MBI.get hB 7 n1.toNatClampNeg (show n1.toNatClampNeg < 4 by omega) (by decide) ex6
    have bx6 : x6.toNatClampNeg < 201 := bx6
    have ex6 := ex6.trans (congrFun (congrFun (cs_k _ _ _ _ (by decide)) _) _)
    refine lv_istore_n (lv' := [(3, .int x6), (0, .ref (ad 20 0)), (1, .int n1), (2, .int n2)]) hx hb dX6_setFuel_29 rfl hl (by decide) rfl (fun ls hl => ?_)
    refine lv_aload_n hx hb dX6_setFuel_30 rfl (lv_at hl 1 rfl) ?_
    refine r_get X hw 20 _ 7 (hL.1) rfl rfl k_X6 (by decide) fl_RX6_31 dX6_setFuel_31 ?_
    refine lv_iload_n hx hb dX6_setFuel_34 rfl (lv_at hl 2 rfl) ?_
    refine lv_iload_n hx hb dX6_setFuel_35 rfl (lv_at hl 3 rfl) ?_
    refine q_iast X hw 7 (hL.2 7 (by decide) (by decide) (by decide)) (j := n1.toNatClampNeg) pn1 (show n1.toNatClampNeg < 4 by omega) dX6_setFuel_36 (fun H locs hw => ?_)
    have hB := MBI.set hB (k := 7) (j := n1.toNatClampNeg) (v := n2) (by decide) (fun _ => ⟨n2.toNatClampNeg, by show _ < 201; omega, pn2⟩)
    refine lv_iload_n hx hb dX6_setFuel_37 rfl (lv_at hl 0 rfl) ?_
    subst ex6 ex3 ex2 ex1
    exact r_iret X hw hr rfl hlk (Nat.le_of_ble_eq_true rfl) (Nat.le_of_ble_eq_true rfl) (gRE_of ((if_neg h5).trans rfl) hB) dX6_setFuel_38
  · refine lv_iconst (v := 0) hx hb dX6_setFuel_21 (by decide) ?_
    subst ex3 ex2 ex1
    exact r_iret X hw hr rfl hlk (Nat.le_of_ble_eq_true rfl) (Nat.le_of_ble_eq_true rfl) (gRE_of ((if_pos h5).trans rfl) hB) dX6_setFuel_22
def q_fund (C : gCT) (n1 n2 : Int32) : Int32 × gCT :=
  let x1 : Int32 := q_isBelow n1 4;
  let x2 : Int32 := q_isWithin n2 1 100000;
  let x3 : Int32 := if q_thr x1 x2 1 = 0 then 1 else 0;
  let C4 : gCT := cs C 20 0 3 (q_thr x1 x2 1);
  if x3 = 0 then (
    (0, C4)
  ) else (
    let x6 : Int32 := C 21 8 n1.toNatClampNeg;
    let x7 : Int32 := x6 + n2;
    let C8 : gCT := cs C4 21 8 n1.toNatClampNeg x7;
    (x7, C8)
  )
set_option maxHeartbeats 4000000 in
set_option maxRecDepth 100000 in
theorem c_q_fund (l : Launch) (G : gG) (lv : gLv) (ad : gAd) (C : gCT) (n1 n2 : Int32) (hL : gLM lv) (hB : MBI C)  : gMi l yX6_fund cX6_fund 3 (some .int) (gRm 1 23 0 0) G [.ref (ad 20 0), .int n1, .int n2] lv ad (gF G C ad) (gRi G lv ad MBI (q_fund C n1 n2)) := by
  refine r_met (own := RX6) (by decide) rfl (Nat.le_of_ble_eq_true rfl) ?_
  intro p e s m below meth c ls X hw hr hlk _ hl
  have hx := X.1.1; have hb := X.1.2.1; have hml := X.1.2.2.1; have hown := X.1.2.2.2.1; have hts := X.1.2.2.2.2
  have hl : lv_has ls 3 [(0, .ref (ad 20 0)), (1, .int n1), (2, .int n2)] := hl
  have hB0 := hB
  refine lv_aload_n hx hb dX6_fund_0 rfl (lv_at hl 0 rfl) ?_
  refine lv_iload_n hx hb dX6_fund_1 rfl (lv_at hl 1 rfl) ?_
  refine lv_iconst (v := 4) hx hb dX6_fund_2 (by decide) ?_
  refine r_rp (r_runS X (c_q_isBelow l n1 4) cy_X6_isBelow ml_RX6_114 ⟨(Nat.le_of_ble_eq_true rfl), (Nat.le_of_ble_eq_true rfl)⟩ gPc_blind (fun _ _ _ => ⟨rfl, trivial⟩) rfl hl.1 rfl (Nat.le_of_ble_eq_true rfl) dX6_fund_3 ⟨(Nat.le_of_ble_eq_true rfl), (Nat.le_of_ble_eq_true rfl)⟩) ?_
  refine lv_topi (fun x1 ex1 => ?_)
  refine lv_iload_n hx hb dX6_fund_6 rfl (lv_at hl 2 rfl) ?_
  refine lv_iconst (v := 1) hx hb dX6_fund_7 (by decide) ?_
  refine lv_ldc (v := 100000) hx hb hown (hts _ lc_RX6_125) dX6_fund_8 ?_
  refine r_rp (r_runS X (c_q_isWithin l n2 1 100000) cy_X6_isWithin ml_RX6_110 ⟨(Nat.le_of_ble_eq_true rfl), (Nat.le_of_ble_eq_true rfl)⟩ gPc_blind (fun _ _ _ => ⟨rfl, trivial⟩) rfl hl.1 rfl (Nat.le_of_ble_eq_true rfl) dX6_fund_10 ⟨(Nat.le_of_ble_eq_true rfl), (Nat.le_of_ble_eq_true rfl)⟩) ?_
  refine lv_topi (fun x2 ex2 => ?_)
  refine lv_iconst (v := 1) hx hb dX6_fund_13 (by decide) ?_
  refine r_qi X hw (r_runV X (c_q_goes1 l G lv ad _ x1 x2 1 hL hB _) cy_X6_goes ml_RX6_121 ⟨(Nat.le_of_ble_eq_true rfl), (Nat.le_of_ble_eq_true rfl)⟩ gP.blind (g_recv X hw 20 0 hL.1 rfl rfl) (gP_call X hw _) rfl hl.1 rfl (Nat.le_of_ble_eq_true rfl) dX6_fund_14 ⟨(Nat.le_of_ble_eq_true rfl), (Nat.le_of_ble_eq_true rfl)⟩) (fun H locs hB hw => ?_)
  dsimp only at hB hw
  refine lv_topi (fun x3 ex3 => ?_)
  have ex3 : x3 = (if q_thr x1 x2 1 = 0 then 1 else 0) := ex3
  refine lv_if_ne (tgt := 22) hx hb dX6_fund_17 (by decide) (fun h5 => ?_) (fun h5 => ?_)
  · obtain ⟨g1, g2, g3⟩ := q_goes_of (a := x1) (b := x2) (c := 1) (by rw [← ex3]; exact h5)
    obtain ⟨pn1, bn1⟩ := q_isBelow_of (x := n1) (n := 4) (N := 4) rfl (by decide) (by rw [← ex1]; exact g1)
    refine lv_aload_n hx hb dX6_fund_22 rfl (lv_at hl 0 rfl) ?_
    refine r_get X hw 20 _ 8 (hL.1) rfl rfl k_X6 (by decide) fl_RX6_34 dX6_fund_23 ?_
    refine lv_iload_n hx hb dX6_fund_26 rfl (lv_at hl 1 rfl) ?_
    refine lv_dup2_11 hx hb dX6_fund_27 rfl rfl ?_
    refine q_iald X hw 8 (hL.2 8 (by decide) (by decide) (by decide)) (j := n1.toNatClampNeg) pn1 (show n1.toNatClampNeg < 4 by omega) dX6_fund_28 ?_
    refine lv_topi (fun x6 ex6 => ?_)
    have ex6 := ex6.trans (congrFun (congrFun (cs_k _ _ _ _ (by decide)) _) _)
    refine lv_iload_n hx hb dX6_fund_29 rfl (lv_at hl 2 rfl) ?_
    refine lv_iadd hx hb dX6_fund_30 ?_
    refine lv_topi (fun x7 ex7 => ?_)
    refine q_iast X hw 8 (hL.2 8 (by decide) (by decide) (by decide)) (j := n1.toNatClampNeg) pn1 (show n1.toNatClampNeg < 4 by omega) dX6_fund_31 (fun H locs hw => ?_)
    have hB := MBI.set hB (k := 8) (j := n1.toNatClampNeg) (v := x7) (by decide) (fun h => absurd rfl h)
    refine lv_aload_n hx hb dX6_fund_32 rfl (lv_at hl 0 rfl) ?_
    refine r_get X hw 20 _ 8 (hL.1) rfl rfl k_X6 (by decide) fl_RX6_34 dX6_fund_33 ?_
    refine lv_iload_n hx hb dX6_fund_36 rfl (lv_at hl 1 rfl) ?_
    refine q_iald X hw 8 (hL.2 8 (by decide) (by decide) (by decide)) (j := n1.toNatClampNeg) pn1 (show n1.toNatClampNeg < 4 by omega) dX6_fund_37 ?_
    refine lv_topi (fun x9 ex9 => ?_)
    have ex9 := (ex9.trans (cs_s _ _ _ _ _)).symm; subst ex9
    subst ex7 ex6 ex3 ex2 ex1
    exact r_iret X hw hr rfl hlk (Nat.le_of_ble_eq_true rfl) (Nat.le_of_ble_eq_true rfl) (gRE_of ((if_neg h5).trans rfl) hB) dX6_fund_38
  · refine lv_iconst (v := 0) hx hb dX6_fund_20 (by decide) ?_
    subst ex3 ex2 ex1
    exact r_iret X hw hr rfl hlk (Nat.le_of_ble_eq_true rfl) (Nat.le_of_ble_eq_true rfl) (gRE_of ((if_pos h5).trans rfl) hB) dX6_fund_21
def q_setQuota (C : gCT) (n1 n2 n3 : Int32) : Int32 × gCT :=
  let x1 : Int32 := q_isBelow n1 4;
  let x6 : Int32 :=
    if x1 = 0 then (
      0
    ) else (
      let x3 : Int32 := q_isBelow n2 4;
      if x3 = 0 then (
        0
      ) else (
        1
      )
    );
  let x7 : Int32 := q_isWithin n3 0 20;
  let x8 : Int32 := if q_thr x6 x7 1 = 0 then 1 else 0;
  let C9 : gCT := cs C 20 0 3 (q_thr x6 x7 1);
  if x8 = 0 then (
    (0, C9)
  ) else (
    let x11 : Int32 := C 21 9 ((4 * n1.toNatClampNeg) + n2.toNatClampNeg);
    let C12 : gCT := cs C9 21 9 ((4 * n1.toNatClampNeg) + n2.toNatClampNeg) n3;
    (x11, C12)
  )
set_option maxHeartbeats 4000000 in
set_option maxRecDepth 100000 in
theorem c_q_setQuota (l : Launch) (G : gG) (lv : gLv) (ad : gAd) (C : gCT) (n1 n2 n3 : Int32) (hL : gLM lv) (hB : MBI C)  : gMi l yX6_setQuota cX6_setQuota 5 (some .int) (gRm 1 23 0 0) G [.ref (ad 20 0), .int n1, .int n2, .int n3] lv ad (gF G C ad) (gRi G lv ad MBI (q_setQuota C n1 n2 n3)) := by
  refine r_met (own := RX6) (by decide) rfl (Nat.le_of_ble_eq_true rfl) ?_
  intro p e s m below meth c ls X hw hr hlk _ hl
  have hx := X.1.1; have hb := X.1.2.1; have hml := X.1.2.2.1; have hown := X.1.2.2.2.1; have hts := X.1.2.2.2.2
  have hl : lv_has ls 5 [(0, .ref (ad 20 0)), (1, .int n1), (2, .int n2), (3, .int n3)] := hl
  have hB0 := hB
  refine lv_aload_n hx hb dX6_setQuota_0 rfl (lv_at hl 0 rfl) ?_
  refine lv_iload_n hx hb dX6_setQuota_1 rfl (lv_at hl 1 rfl) ?_
  refine lv_iconst (v := 4) hx hb dX6_setQuota_2 (by decide) ?_
  refine r_rp (r_runS X (c_q_isBelow l n1 4) cy_X6_isBelow ml_RX6_114 ⟨(Nat.le_of_ble_eq_true rfl), (Nat.le_of_ble_eq_true rfl)⟩ gPc_blind (fun _ _ _ => ⟨rfl, trivial⟩) rfl hl.1 rfl (Nat.le_of_ble_eq_true rfl) dX6_setQuota_3 ⟨(Nat.le_of_ble_eq_true rfl), (Nat.le_of_ble_eq_true rfl)⟩) ?_
  refine lv_topi (fun x1 ex1 => ?_)
  refine r_J (nL := 5) (J := 22) (rest := [.ref (ad 20 0)]) (L := [(0, .ref (ad 20 0)), (1, .int n1), (2, .int n2), (3, .int n3)]) (if x1 = 0 then ( 0 ) else ( let x3 : Int32 := q_isBelow n2 4; if x3 = 0 then ( 0 ) else ( 1 ) )) (fun x6 ex6 ls hl => ?_) (fun J5 => ?_)
  · refine lv_iload_n hx hb dX6_setQuota_22 rfl (lv_at hl 3 rfl) ?_
    refine lv_iconst (v := 0) hx hb dX6_setQuota_23 (by decide) ?_
    refine lv_bipush (v := 20) hx hb dX6_setQuota_24 (by decide) ?_
    refine r_rp (r_runS X (c_q_isWithin l n3 0 20) cy_X6_isWithin ml_RX6_110 ⟨(Nat.le_of_ble_eq_true rfl), (Nat.le_of_ble_eq_true rfl)⟩ gPc_blind (fun _ _ _ => ⟨rfl, trivial⟩) rfl hl.1 rfl (Nat.le_of_ble_eq_true rfl) dX6_setQuota_26 ⟨(Nat.le_of_ble_eq_true rfl), (Nat.le_of_ble_eq_true rfl)⟩) ?_
    refine lv_topi (fun x7 ex7 => ?_)
    refine lv_iconst (v := 1) hx hb dX6_setQuota_29 (by decide) ?_
    refine r_qi X hw (r_runV X (c_q_goes1 l G lv ad _ x6 x7 1 hL hB _) cy_X6_goes ml_RX6_121 ⟨(Nat.le_of_ble_eq_true rfl), (Nat.le_of_ble_eq_true rfl)⟩ gP.blind (g_recv X hw 20 0 hL.1 rfl rfl) (gP_call X hw _) rfl hl.1 rfl (Nat.le_of_ble_eq_true rfl) dX6_setQuota_30 ⟨(Nat.le_of_ble_eq_true rfl), (Nat.le_of_ble_eq_true rfl)⟩) (fun H locs hB hw => ?_)
    dsimp only at hB hw
    refine lv_topi (fun x8 ex8 => ?_)
    have ex8 : x8 = (if q_thr x6 x7 1 = 0 then 1 else 0) := ex8
    refine lv_if_ne (tgt := 38) hx hb dX6_setQuota_33 (by decide) (fun h10 => ?_) (fun h10 => ?_)
    · obtain ⟨g1, g2, g3⟩ := q_goes_of (a := x6) (b := x7) (c := 1) (by rw [← ex8]; exact h10)
      have g4 := g1; rw [ex6] at g4; obtain ⟨g5, g6⟩ := and2_of (a := x1) (b := q_isBelow n2 4) g4
      rw [ex1] at g5
      obtain ⟨pn1, bn1⟩ := q_isBelow_of (x := n1) (n := 4) (N := 4) rfl (by decide) g5
      obtain ⟨pn2, bn2⟩ := q_isBelow_of (x := n2) (n := 4) (N := 4) rfl (by decide) g6
      refine lv_aload_n hx hb dX6_setQuota_38 rfl (lv_at hl 0 rfl) ?_
      refine r_get X hw 20 _ 9 (hL.1) rfl rfl k_X6 (by decide) fl_RX6_37 dX6_setQuota_39 ?_
      refine lv_iconst (v := 4) hx hb dX6_setQuota_42 (by decide) ?_
      refine lv_iload_n hx hb dX6_setQuota_43 rfl (lv_at hl 1 rfl) ?_
      refine lv_imul hx hb dX6_setQuota_44 ?_
      refine lv_iload_n hx hb dX6_setQuota_45 rfl (lv_at hl 2 rfl) ?_
      refine lv_iadd hx hb dX6_setQuota_46 ?_
      refine q_iald X hw 9 (hL.2 9 (by decide) (by decide) (by decide)) (j := ((4 * n1.toNatClampNeg) + n2.toNatClampNeg)) (nat_add (nat_mul (show (4 : Int32) = nI 4 from rfl) pn1) pn2) (show ((4 * n1.toNatClampNeg) + n2.toNatClampNeg) < 16 by omega) dX6_setQuota_47 ?_
      refine lv_topi (fun x11 ex11 => ?_)
      have ex11 := ex11.trans (congrFun (congrFun (cs_k _ _ _ _ (by decide)) _) _)
      refine lv_istore (lv' := [(4, .int x11), (0, .ref (ad 20 0)), (1, .int n1), (2, .int n2), (3, .int n3)]) hx hb dX6_setQuota_48 hl (by decide) rfl (fun ls hl => ?_)
      refine lv_aload_n hx hb dX6_setQuota_50 rfl (lv_at hl 1 rfl) ?_
      refine r_get X hw 20 _ 9 (hL.1) rfl rfl k_X6 (by decide) fl_RX6_37 dX6_setQuota_51 ?_
      refine lv_iconst (v := 4) hx hb dX6_setQuota_54 (by decide) ?_
      refine lv_iload_n hx hb dX6_setQuota_55 rfl (lv_at hl 2 rfl) ?_
      refine lv_imul hx hb dX6_setQuota_56 ?_
      refine lv_iload_n hx hb dX6_setQuota_57 rfl (lv_at hl 3 rfl) ?_
      refine lv_iadd hx hb dX6_setQuota_58 ?_
      refine lv_iload_n hx hb dX6_setQuota_59 rfl (lv_at hl 4 rfl) ?_
      refine q_iast X hw 9 (hL.2 9 (by decide) (by decide) (by decide)) (j := ((4 * n1.toNatClampNeg) + n2.toNatClampNeg)) (nat_add (nat_mul (show (4 : Int32) = nI 4 from rfl) pn1) pn2) (show ((4 * n1.toNatClampNeg) + n2.toNatClampNeg) < 16 by omega) dX6_setQuota_60 (fun H locs hw => ?_)
      have hB := MBI.set hB (k := 9) (j := ((4 * n1.toNatClampNeg) + n2.toNatClampNeg)) (v := n3) (by decide) (fun h => absurd rfl h)
      refine lv_iload hx hb dX6_setQuota_61 (lv_at hl 0 rfl) ?_
      subst ex11 ex8 ex7 ex6 ex1
      exact r_iret X hw hr rfl hlk (Nat.le_of_ble_eq_true rfl) (Nat.le_of_ble_eq_true rfl) (gRE_of ((if_neg h10).trans rfl) hB) dX6_setQuota_63
    · refine lv_iconst (v := 0) hx hb dX6_setQuota_36 (by decide) ?_
      subst ex8 ex7 ex6 ex1
      exact r_iret X hw hr rfl hlk (Nat.le_of_ble_eq_true rfl) (Nat.le_of_ble_eq_true rfl) (gRE_of ((if_pos h10).trans rfl) hB) dX6_setQuota_37
  · refine lv_if_eq (tgt := 21) hx hb dX6_setQuota_6 (by decide) (fun h2 => ?_) (fun h2 => ?_)
    · refine lv_iconst (v := 0) hx hb dX6_setQuota_21 (by decide) ?_
      exact J5 _ ((if_pos h2).trans rfl).symm _ hl
    · refine lv_iload_n hx hb dX6_setQuota_9 rfl (lv_at hl 2 rfl) ?_
      refine lv_iconst (v := 4) hx hb dX6_setQuota_10 (by decide) ?_
      refine r_rp (r_runS X (c_q_isBelow l n2 4) cy_X6_isBelow ml_RX6_114 ⟨(Nat.le_of_ble_eq_true rfl), (Nat.le_of_ble_eq_true rfl)⟩ gPc_blind (fun _ _ _ => ⟨rfl, trivial⟩) rfl hl.1 rfl (Nat.le_of_ble_eq_true rfl) dX6_setQuota_11 ⟨(Nat.le_of_ble_eq_true rfl), (Nat.le_of_ble_eq_true rfl)⟩) ?_
      refine lv_topi (fun x3 ex3 => ?_)
      refine lv_if_eq (tgt := 21) hx hb dX6_setQuota_14 (by decide) (fun h4 => ?_) (fun h4 => ?_)
      · refine lv_iconst (v := 0) hx hb dX6_setQuota_21 (by decide) ?_
        subst ex3; exact J5 _ ((if_neg h2).trans ((if_pos h4).trans rfl)).symm _ hl
      · refine lv_iconst (v := 1) hx hb dX6_setQuota_17 (by decide) ?_
        refine lv_goto (tgt := 22) hx hb dX6_setQuota_18 (by decide) ?_
        subst ex3; exact J5 _ ((if_neg h2).trans ((if_neg h4).trans rfl)).symm _ hl
def q_setPrice (C : gCT) (n1 n2 : Int32) : Int32 × gCT :=
  let x1 : Int32 := q_isBelow n1 16;
  let x2 : Int32 := q_isWithin n2 0 1000;
  let x3 : Int32 := if q_thr x1 x2 1 = 0 then 1 else 0;
  let C4 : gCT := cs C 20 0 3 (q_thr x1 x2 1);
  if x3 = 0 then (
    (0, C4)
  ) else (
    let x6 : Int32 := C 21 11 n1.toNatClampNeg;
    let C7 : gCT := cs C4 21 11 n1.toNatClampNeg n2;
    (x6, C7)
  )
set_option maxHeartbeats 4000000 in
set_option maxRecDepth 100000 in
theorem c_q_setPrice (l : Launch) (G : gG) (lv : gLv) (ad : gAd) (C : gCT) (n1 n2 : Int32) (hL : gLM lv) (hB : MBI C)  : gMi l yX6_setPrice cX6_setPrice 4 (some .int) (gRm 1 23 0 0) G [.ref (ad 20 0), .int n1, .int n2] lv ad (gF G C ad) (gRi G lv ad MBI (q_setPrice C n1 n2)) := by
  refine r_met (own := RX6) (by decide) rfl (Nat.le_of_ble_eq_true rfl) ?_
  intro p e s m below meth c ls X hw hr hlk _ hl
  have hx := X.1.1; have hb := X.1.2.1; have hml := X.1.2.2.1; have hown := X.1.2.2.2.1; have hts := X.1.2.2.2.2
  have hl : lv_has ls 4 [(0, .ref (ad 20 0)), (1, .int n1), (2, .int n2)] := hl
  have hB0 := hB
  refine lv_aload_n hx hb dX6_setPrice_0 rfl (lv_at hl 0 rfl) ?_
  refine lv_iload_n hx hb dX6_setPrice_1 rfl (lv_at hl 1 rfl) ?_
  refine lv_bipush (v := 16) hx hb dX6_setPrice_2 (by decide) ?_
  refine r_rp (r_runS X (c_q_isBelow l n1 16) cy_X6_isBelow ml_RX6_114 ⟨(Nat.le_of_ble_eq_true rfl), (Nat.le_of_ble_eq_true rfl)⟩ gPc_blind (fun _ _ _ => ⟨rfl, trivial⟩) rfl hl.1 rfl (Nat.le_of_ble_eq_true rfl) dX6_setPrice_4 ⟨(Nat.le_of_ble_eq_true rfl), (Nat.le_of_ble_eq_true rfl)⟩) ?_
  refine lv_topi (fun x1 ex1 => ?_)
  refine lv_iload_n hx hb dX6_setPrice_7 rfl (lv_at hl 2 rfl) ?_
  refine lv_iconst (v := 0) hx hb dX6_setPrice_8 (by decide) ?_
  refine lv_sipush (v := 1000) hx hb dX6_setPrice_9 (by decide) ?_
  refine r_rp (r_runS X (c_q_isWithin l n2 0 1000) cy_X6_isWithin ml_RX6_110 ⟨(Nat.le_of_ble_eq_true rfl), (Nat.le_of_ble_eq_true rfl)⟩ gPc_blind (fun _ _ _ => ⟨rfl, trivial⟩) rfl hl.1 rfl (Nat.le_of_ble_eq_true rfl) dX6_setPrice_12 ⟨(Nat.le_of_ble_eq_true rfl), (Nat.le_of_ble_eq_true rfl)⟩) ?_
  refine lv_topi (fun x2 ex2 => ?_)
  refine lv_iconst (v := 1) hx hb dX6_setPrice_15 (by decide) ?_
  refine r_qi X hw (r_runV X (c_q_goes1 l G lv ad _ x1 x2 1 hL hB _) cy_X6_goes ml_RX6_121 ⟨(Nat.le_of_ble_eq_true rfl), (Nat.le_of_ble_eq_true rfl)⟩ gP.blind (g_recv X hw 20 0 hL.1 rfl rfl) (gP_call X hw _) rfl hl.1 rfl (Nat.le_of_ble_eq_true rfl) dX6_setPrice_16 ⟨(Nat.le_of_ble_eq_true rfl), (Nat.le_of_ble_eq_true rfl)⟩) (fun H locs hB hw => ?_)
  dsimp only at hB hw
  refine lv_topi (fun x3 ex3 => ?_)
  have ex3 : x3 = (if q_thr x1 x2 1 = 0 then 1 else 0) := ex3
  refine lv_if_ne (tgt := 24) hx hb dX6_setPrice_19 (by decide) (fun h5 => ?_) (fun h5 => ?_)
  · obtain ⟨g1, g2, g3⟩ := q_goes_of (a := x1) (b := x2) (c := 1) (by rw [← ex3]; exact h5)
    obtain ⟨pn1, bn1⟩ := q_isBelow_of (x := n1) (n := 16) (N := 16) rfl (by decide) (by rw [← ex1]; exact g1)
    refine lv_aload_n hx hb dX6_setPrice_24 rfl (lv_at hl 0 rfl) ?_
    refine r_get X hw 20 _ 11 (hL.1) rfl rfl k_X6 (by decide) fl_RX6_43 dX6_setPrice_25 ?_
    refine lv_iload_n hx hb dX6_setPrice_28 rfl (lv_at hl 1 rfl) ?_
    refine q_iald X hw 11 (hL.2 11 (by decide) (by decide) (by decide)) (j := n1.toNatClampNeg) pn1 (show n1.toNatClampNeg < 16 by omega) dX6_setPrice_29 ?_
    refine lv_topi (fun x6 ex6 => ?_)
    have ex6 := ex6.trans (congrFun (congrFun (cs_k _ _ _ _ (by decide)) _) _)
    refine lv_istore_n (lv' := [(3, .int x6), (0, .ref (ad 20 0)), (1, .int n1), (2, .int n2)]) hx hb dX6_setPrice_30 rfl hl (by decide) rfl (fun ls hl => ?_)
    refine lv_aload_n hx hb dX6_setPrice_31 rfl (lv_at hl 1 rfl) ?_
    refine r_get X hw 20 _ 11 (hL.1) rfl rfl k_X6 (by decide) fl_RX6_43 dX6_setPrice_32 ?_
    refine lv_iload_n hx hb dX6_setPrice_35 rfl (lv_at hl 2 rfl) ?_
    refine lv_iload_n hx hb dX6_setPrice_36 rfl (lv_at hl 3 rfl) ?_
    refine q_iast X hw 11 (hL.2 11 (by decide) (by decide) (by decide)) (j := n1.toNatClampNeg) pn1 (show n1.toNatClampNeg < 16 by omega) dX6_setPrice_37 (fun H locs hw => ?_)
    have hB := MBI.set hB (k := 11) (j := n1.toNatClampNeg) (v := n2) (by decide) (fun h => absurd rfl h)
    refine lv_iload_n hx hb dX6_setPrice_38 rfl (lv_at hl 0 rfl) ?_
    subst ex6 ex3 ex2 ex1
    exact r_iret X hw hr rfl hlk (Nat.le_of_ble_eq_true rfl) (Nat.le_of_ble_eq_true rfl) (gRE_of ((if_neg h5).trans rfl) hB) dX6_setPrice_39
  · refine lv_iconst (v := 0) hx hb dX6_setPrice_22 (by decide) ?_
    subst ex3 ex2 ex1
    exact r_iret X hw hr rfl hlk (Nat.le_of_ble_eq_true rfl) (Nat.le_of_ble_eq_true rfl) (gRE_of ((if_pos h5).trans rfl) hB) dX6_setPrice_23
def q_reword (C : gCT) (n1 : Int32) : Int32 × gCT :=
  let x1 : Int32 := q_isBelow n1 16;
  let x2 : Int32 := if q_thr x1 1 1 = 0 then 1 else 0;
  let C3 : gCT := cs C 20 0 3 (q_thr x1 1 1);
  if x2 = 0 then (
    (0, C3)
  ) else (
    let x5 : Int32 := C 21 12 n1.toNatClampNeg;
    let x6 : Int32 := x5 + 1;
    let C7 : gCT := cs C3 21 12 n1.toNatClampNeg x6;
    (x6, C7)
  )
set_option maxHeartbeats 4000000 in
set_option maxRecDepth 100000 in
theorem c_q_reword (l : Launch) (G : gG) (lv : gLv) (ad : gAd) (C : gCT) (n1 : Int32) (hL : gLM lv) (hB : MBI C)  : gMi l yX6_reword cX6_reword 2 (some .int) (gRm 1 23 0 0) G [.ref (ad 20 0), .int n1] lv ad (gF G C ad) (gRi G lv ad MBI (q_reword C n1)) := by
  refine r_met (own := RX6) (by decide) rfl (Nat.le_of_ble_eq_true rfl) ?_
  intro p e s m below meth c ls X hw hr hlk _ hl
  have hx := X.1.1; have hb := X.1.2.1; have hml := X.1.2.2.1; have hown := X.1.2.2.2.1; have hts := X.1.2.2.2.2
  have hl : lv_has ls 2 [(0, .ref (ad 20 0)), (1, .int n1)] := hl
  have hB0 := hB
  refine lv_aload_n hx hb dX6_reword_0 rfl (lv_at hl 0 rfl) ?_
  refine lv_iload_n hx hb dX6_reword_1 rfl (lv_at hl 1 rfl) ?_
  refine lv_bipush (v := 16) hx hb dX6_reword_2 (by decide) ?_
  refine r_rp (r_runS X (c_q_isBelow l n1 16) cy_X6_isBelow ml_RX6_114 ⟨(Nat.le_of_ble_eq_true rfl), (Nat.le_of_ble_eq_true rfl)⟩ gPc_blind (fun _ _ _ => ⟨rfl, trivial⟩) rfl hl.1 rfl (Nat.le_of_ble_eq_true rfl) dX6_reword_4 ⟨(Nat.le_of_ble_eq_true rfl), (Nat.le_of_ble_eq_true rfl)⟩) ?_
  refine lv_topi (fun x1 ex1 => ?_)
  refine lv_iconst (v := 1) hx hb dX6_reword_7 (by decide) ?_
  refine lv_iconst (v := 1) hx hb dX6_reword_8 (by decide) ?_
  refine r_qi X hw (r_runV X (c_q_goes1 l G lv ad _ x1 1 1 hL hB _) cy_X6_goes ml_RX6_121 ⟨(Nat.le_of_ble_eq_true rfl), (Nat.le_of_ble_eq_true rfl)⟩ gP.blind (g_recv X hw 20 0 hL.1 rfl rfl) (gP_call X hw _) rfl hl.1 rfl (Nat.le_of_ble_eq_true rfl) dX6_reword_9 ⟨(Nat.le_of_ble_eq_true rfl), (Nat.le_of_ble_eq_true rfl)⟩) (fun H locs hB hw => ?_)
  dsimp only at hB hw
  refine lv_topi (fun x2 ex2 => ?_)
  have ex2 : x2 = (if q_thr x1 1 1 = 0 then 1 else 0) := ex2
  refine lv_if_ne (tgt := 17) hx hb dX6_reword_12 (by decide) (fun h4 => ?_) (fun h4 => ?_)
  · obtain ⟨g1, g2, g3⟩ := q_goes_of (a := x1) (b := 1) (c := 1) (by rw [← ex2]; exact h4)
    obtain ⟨pn1, bn1⟩ := q_isBelow_of (x := n1) (n := 16) (N := 16) rfl (by decide) (by rw [← ex1]; exact g1)
    refine lv_aload_n hx hb dX6_reword_17 rfl (lv_at hl 0 rfl) ?_
    refine r_get X hw 20 _ 12 (hL.1) rfl rfl k_X6 (by decide) fl_RX6_46 dX6_reword_18 ?_
    refine lv_iload_n hx hb dX6_reword_21 rfl (lv_at hl 1 rfl) ?_
    refine lv_dup2_11 hx hb dX6_reword_22 rfl rfl ?_
    refine q_iald X hw 12 (hL.2 12 (by decide) (by decide) (by decide)) (j := n1.toNatClampNeg) pn1 (show n1.toNatClampNeg < 16 by omega) dX6_reword_23 ?_
    refine lv_topi (fun x5 ex5 => ?_)
    have ex5 := ex5.trans (congrFun (congrFun (cs_k _ _ _ _ (by decide)) _) _)
    refine lv_iconst (v := 1) hx hb dX6_reword_24 (by decide) ?_
    refine lv_iadd hx hb dX6_reword_25 ?_
    refine lv_topi (fun x6 ex6 => ?_)
    refine q_iast X hw 12 (hL.2 12 (by decide) (by decide) (by decide)) (j := n1.toNatClampNeg) pn1 (show n1.toNatClampNeg < 16 by omega) dX6_reword_26 (fun H locs hw => ?_)
    have hB := MBI.set hB (k := 12) (j := n1.toNatClampNeg) (v := x6) (by decide) (fun h => absurd rfl h)
    refine lv_aload_n hx hb dX6_reword_27 rfl (lv_at hl 0 rfl) ?_
    refine r_get X hw 20 _ 12 (hL.1) rfl rfl k_X6 (by decide) fl_RX6_46 dX6_reword_28 ?_
    refine lv_iload_n hx hb dX6_reword_31 rfl (lv_at hl 1 rfl) ?_
    refine q_iald X hw 12 (hL.2 12 (by decide) (by decide) (by decide)) (j := n1.toNatClampNeg) pn1 (show n1.toNatClampNeg < 16 by omega) dX6_reword_32 ?_
    refine lv_topi (fun x8 ex8 => ?_)
    have ex8 := (ex8.trans (cs_s _ _ _ _ _)).symm; subst ex8
    subst ex6 ex5 ex2 ex1
    exact r_iret X hw hr rfl hlk (Nat.le_of_ble_eq_true rfl) (Nat.le_of_ble_eq_true rfl) (gRE_of ((if_neg h4).trans rfl) hB) dX6_reword_33
  · refine lv_iconst (v := 0) hx hb dX6_reword_15 (by decide) ?_
    subst ex2 ex1
    exact r_iret X hw hr rfl hlk (Nat.le_of_ble_eq_true rfl) (Nat.le_of_ble_eq_true rfl) (gRE_of ((if_pos h4).trans rfl) hB) dX6_reword_16
def q_reward (C : gCT) (n1 : Int32) : Int32 × gCT :=
  let x1 : Int32 := q_isBelow n1 16;
  let x2 : Int32 := if q_thr x1 1 1 = 0 then 1 else 0;
  let C3 : gCT := cs C 20 0 3 (q_thr x1 1 1);
  if x2 = 0 then (
    (0, C3)
  ) else (
    let x5 : Int32 := C 21 13 n1.toNatClampNeg;
    (x5, C3)
  )
set_option maxHeartbeats 4000000 in
set_option maxRecDepth 100000 in
theorem c_q_reward (l : Launch) (G : gG) (lv : gLv) (ad : gAd) (C : gCT) (n1 : Int32) (hL : gLM lv) (hB : MBI C)  : gMi l yX6_reward cX6_reward 2 (some .int) (gRm 1 23 0 0) G [.ref (ad 20 0), .int n1] lv ad (gF G C ad) (gRi G lv ad MBI (q_reward C n1)) := by
  refine r_met (own := RX6) (by decide) rfl (Nat.le_of_ble_eq_true rfl) ?_
  intro p e s m below meth c ls X hw hr hlk _ hl
  have hx := X.1.1; have hb := X.1.2.1; have hml := X.1.2.2.1; have hown := X.1.2.2.2.1; have hts := X.1.2.2.2.2
  have hl : lv_has ls 2 [(0, .ref (ad 20 0)), (1, .int n1)] := hl
  have hB0 := hB
  refine lv_aload_n hx hb dX6_reward_0 rfl (lv_at hl 0 rfl) ?_
  refine lv_iload_n hx hb dX6_reward_1 rfl (lv_at hl 1 rfl) ?_
  refine lv_bipush (v := 16) hx hb dX6_reward_2 (by decide) ?_
  refine r_rp (r_runS X (c_q_isBelow l n1 16) cy_X6_isBelow ml_RX6_114 ⟨(Nat.le_of_ble_eq_true rfl), (Nat.le_of_ble_eq_true rfl)⟩ gPc_blind (fun _ _ _ => ⟨rfl, trivial⟩) rfl hl.1 rfl (Nat.le_of_ble_eq_true rfl) dX6_reward_4 ⟨(Nat.le_of_ble_eq_true rfl), (Nat.le_of_ble_eq_true rfl)⟩) ?_
  refine lv_topi (fun x1 ex1 => ?_)
  refine lv_iconst (v := 1) hx hb dX6_reward_7 (by decide) ?_
  refine lv_iconst (v := 1) hx hb dX6_reward_8 (by decide) ?_
  refine r_qi X hw (r_runV X (c_q_goes1 l G lv ad _ x1 1 1 hL hB _) cy_X6_goes ml_RX6_121 ⟨(Nat.le_of_ble_eq_true rfl), (Nat.le_of_ble_eq_true rfl)⟩ gP.blind (g_recv X hw 20 0 hL.1 rfl rfl) (gP_call X hw _) rfl hl.1 rfl (Nat.le_of_ble_eq_true rfl) dX6_reward_9 ⟨(Nat.le_of_ble_eq_true rfl), (Nat.le_of_ble_eq_true rfl)⟩) (fun H locs hB hw => ?_)
  dsimp only at hB hw
  refine lv_topi (fun x2 ex2 => ?_)
  have ex2 : x2 = (if q_thr x1 1 1 = 0 then 1 else 0) := ex2
  refine lv_if_eq (tgt := 24) hx hb dX6_reward_12 (by decide) (fun h4 => ?_) (fun h4 => ?_)
  · refine lv_iconst (v := 0) hx hb dX6_reward_24 (by decide) ?_
    subst ex2 ex1
    exact r_iret X hw hr rfl hlk (Nat.le_of_ble_eq_true rfl) (Nat.le_of_ble_eq_true rfl) (gRE_of ((if_pos h4).trans rfl) hB) dX6_reward_25
  · obtain ⟨g1, g2, g3⟩ := q_goes_of (a := x1) (b := 1) (c := 1) (by rw [← ex2]; exact h4)
    obtain ⟨pn1, bn1⟩ := q_isBelow_of (x := n1) (n := 16) (N := 16) rfl (by decide) (by rw [← ex1]; exact g1)
    refine lv_aload_n hx hb dX6_reward_15 rfl (lv_at hl 0 rfl) ?_
    refine r_get X hw 20 _ 13 (hL.1) rfl rfl k_X6 (by decide) fl_RX6_49 dX6_reward_16 ?_
    refine lv_iload_n hx hb dX6_reward_19 rfl (lv_at hl 1 rfl) ?_
    refine q_iald X hw 13 (hL.2 13 (by decide) (by decide) (by decide)) (j := n1.toNatClampNeg) pn1 (show n1.toNatClampNeg < 16 by omega) dX6_reward_20 ?_
    refine lv_topi (fun x5 ex5 => ?_)
    have ex5 := ex5.trans (congrFun (congrFun (cs_k _ _ _ _ (by decide)) _) _)
    refine lv_goto (tgt := 25) hx hb dX6_reward_21 (by decide) ?_
    subst ex5 ex2 ex1
    exact r_iret X hw hr rfl hlk (Nat.le_of_ble_eq_true rfl) (Nat.le_of_ble_eq_true rfl) (gRE_of ((if_neg h4).trans rfl) hB) dX6_reward_25
def q_budget (C : gCT) (n1 : Int32) : Int32 × gCT :=
  let x1 : Int32 := q_isBelow n1 4;
  let x2 : Int32 := if q_thr x1 1 1 = 0 then 1 else 0;
  let C3 : gCT := cs C 20 0 3 (q_thr x1 1 1);
  if x2 = 0 then (
    (0, C3)
  ) else (
    let x5 : Int32 := C 21 8 n1.toNatClampNeg;
    (x5, C3)
  )
set_option maxHeartbeats 4000000 in
set_option maxRecDepth 100000 in
theorem c_q_budget (l : Launch) (G : gG) (lv : gLv) (ad : gAd) (C : gCT) (n1 : Int32) (hL : gLM lv) (hB : MBI C)  : gMi l yX6_budget cX6_budget 2 (some .int) (gRm 1 23 0 0) G [.ref (ad 20 0), .int n1] lv ad (gF G C ad) (gRi G lv ad MBI (q_budget C n1)) := by
  refine r_met (own := RX6) (by decide) rfl (Nat.le_of_ble_eq_true rfl) ?_
  intro p e s m below meth c ls X hw hr hlk _ hl
  have hx := X.1.1; have hb := X.1.2.1; have hml := X.1.2.2.1; have hown := X.1.2.2.2.1; have hts := X.1.2.2.2.2
  have hl : lv_has ls 2 [(0, .ref (ad 20 0)), (1, .int n1)] := hl
  have hB0 := hB
  refine lv_aload_n hx hb dX6_budget_0 rfl (lv_at hl 0 rfl) ?_
  refine lv_iload_n hx hb dX6_budget_1 rfl (lv_at hl 1 rfl) ?_
  refine lv_iconst (v := 4) hx hb dX6_budget_2 (by decide) ?_
  refine r_rp (r_runS X (c_q_isBelow l n1 4) cy_X6_isBelow ml_RX6_114 ⟨(Nat.le_of_ble_eq_true rfl), (Nat.le_of_ble_eq_true rfl)⟩ gPc_blind (fun _ _ _ => ⟨rfl, trivial⟩) rfl hl.1 rfl (Nat.le_of_ble_eq_true rfl) dX6_budget_3 ⟨(Nat.le_of_ble_eq_true rfl), (Nat.le_of_ble_eq_true rfl)⟩) ?_
  refine lv_topi (fun x1 ex1 => ?_)
  refine lv_iconst (v := 1) hx hb dX6_budget_6 (by decide) ?_
  refine lv_iconst (v := 1) hx hb dX6_budget_7 (by decide) ?_
  refine r_qi X hw (r_runV X (c_q_goes1 l G lv ad _ x1 1 1 hL hB _) cy_X6_goes ml_RX6_121 ⟨(Nat.le_of_ble_eq_true rfl), (Nat.le_of_ble_eq_true rfl)⟩ gP.blind (g_recv X hw 20 0 hL.1 rfl rfl) (gP_call X hw _) rfl hl.1 rfl (Nat.le_of_ble_eq_true rfl) dX6_budget_8 ⟨(Nat.le_of_ble_eq_true rfl), (Nat.le_of_ble_eq_true rfl)⟩) (fun H locs hB hw => ?_)
  dsimp only at hB hw
  refine lv_topi (fun x2 ex2 => ?_)
  have ex2 : x2 = (if q_thr x1 1 1 = 0 then 1 else 0) := ex2
  refine lv_if_eq (tgt := 23) hx hb dX6_budget_11 (by decide) (fun h4 => ?_) (fun h4 => ?_)
  · refine lv_iconst (v := 0) hx hb dX6_budget_23 (by decide) ?_
    subst ex2 ex1
    exact r_iret X hw hr rfl hlk (Nat.le_of_ble_eq_true rfl) (Nat.le_of_ble_eq_true rfl) (gRE_of ((if_pos h4).trans rfl) hB) dX6_budget_24
  · obtain ⟨g1, g2, g3⟩ := q_goes_of (a := x1) (b := 1) (c := 1) (by rw [← ex2]; exact h4)
    obtain ⟨pn1, bn1⟩ := q_isBelow_of (x := n1) (n := 4) (N := 4) rfl (by decide) (by rw [← ex1]; exact g1)
    refine lv_aload_n hx hb dX6_budget_14 rfl (lv_at hl 0 rfl) ?_
    refine r_get X hw 20 _ 8 (hL.1) rfl rfl k_X6 (by decide) fl_RX6_34 dX6_budget_15 ?_
    refine lv_iload_n hx hb dX6_budget_18 rfl (lv_at hl 1 rfl) ?_
    refine q_iald X hw 8 (hL.2 8 (by decide) (by decide) (by decide)) (j := n1.toNatClampNeg) pn1 (show n1.toNatClampNeg < 4 by omega) dX6_budget_19 ?_
    refine lv_topi (fun x5 ex5 => ?_)
    have ex5 := ex5.trans (congrFun (congrFun (cs_k _ _ _ _ (by decide)) _) _)
    refine lv_goto (tgt := 24) hx hb dX6_budget_20 (by decide) ?_
    subst ex5 ex2 ex1
    exact r_iret X hw hr rfl hlk (Nat.le_of_ble_eq_true rfl) (Nat.le_of_ble_eq_true rfl) (gRE_of ((if_neg h4).trans rfl) hB) dX6_budget_24
def q_done (C : gCT) (n1 n2 : Int32) : Int32 × gCT :=
  let x1 : Int32 := q_isBelow n1 4;
  let x6 : Int32 :=
    if x1 = 0 then (
      0
    ) else (
      let x3 : Int32 := q_isBelow n2 4;
      if x3 = 0 then (
        0
      ) else (
        1
      )
    );
  let x7 : Int32 := if q_thr x6 1 1 = 0 then 1 else 0;
  let C8 : gCT := cs C 20 0 3 (q_thr x6 1 1);
  if x7 = 0 then (
    (0, C8)
  ) else (
    let x10 : Int32 := C 21 10 ((4 * n1.toNatClampNeg) + n2.toNatClampNeg);
    (x10, C8)
  )
set_option maxHeartbeats 4000000 in
set_option maxRecDepth 100000 in
theorem c_q_done (l : Launch) (G : gG) (lv : gLv) (ad : gAd) (C : gCT) (n1 n2 : Int32) (hL : gLM lv) (hB : MBI C)  : gMi l yX6_done cX6_done 3 (some .int) (gRm 1 23 0 0) G [.ref (ad 20 0), .int n1, .int n2] lv ad (gF G C ad) (gRi G lv ad MBI (q_done C n1 n2)) := by
  refine r_met (own := RX6) (by decide) rfl (Nat.le_of_ble_eq_true rfl) ?_
  intro p e s m below meth c ls X hw hr hlk _ hl
  have hx := X.1.1; have hb := X.1.2.1; have hml := X.1.2.2.1; have hown := X.1.2.2.2.1; have hts := X.1.2.2.2.2
  have hl : lv_has ls 3 [(0, .ref (ad 20 0)), (1, .int n1), (2, .int n2)] := hl
  have hB0 := hB
  refine lv_aload_n hx hb dX6_done_0 rfl (lv_at hl 0 rfl) ?_
  refine lv_iload_n hx hb dX6_done_1 rfl (lv_at hl 1 rfl) ?_
  refine lv_iconst (v := 4) hx hb dX6_done_2 (by decide) ?_
  refine r_rp (r_runS X (c_q_isBelow l n1 4) cy_X6_isBelow ml_RX6_114 ⟨(Nat.le_of_ble_eq_true rfl), (Nat.le_of_ble_eq_true rfl)⟩ gPc_blind (fun _ _ _ => ⟨rfl, trivial⟩) rfl hl.1 rfl (Nat.le_of_ble_eq_true rfl) dX6_done_3 ⟨(Nat.le_of_ble_eq_true rfl), (Nat.le_of_ble_eq_true rfl)⟩) ?_
  refine lv_topi (fun x1 ex1 => ?_)
  refine r_J (nL := 3) (J := 22) (rest := [.ref (ad 20 0)]) (L := [(0, .ref (ad 20 0)), (1, .int n1), (2, .int n2)]) (if x1 = 0 then ( 0 ) else ( let x3 : Int32 := q_isBelow n2 4; if x3 = 0 then ( 0 ) else ( 1 ) )) (fun x6 ex6 ls hl => ?_) (fun J5 => ?_)
  · refine lv_iconst (v := 1) hx hb dX6_done_22 (by decide) ?_
    refine lv_iconst (v := 1) hx hb dX6_done_23 (by decide) ?_
    refine r_qi X hw (r_runV X (c_q_goes1 l G lv ad _ x6 1 1 hL hB _) cy_X6_goes ml_RX6_121 ⟨(Nat.le_of_ble_eq_true rfl), (Nat.le_of_ble_eq_true rfl)⟩ gP.blind (g_recv X hw 20 0 hL.1 rfl rfl) (gP_call X hw _) rfl hl.1 rfl (Nat.le_of_ble_eq_true rfl) dX6_done_24 ⟨(Nat.le_of_ble_eq_true rfl), (Nat.le_of_ble_eq_true rfl)⟩) (fun H locs hB hw => ?_)
    dsimp only at hB hw
    refine lv_topi (fun x7 ex7 => ?_)
    have ex7 : x7 = (if q_thr x6 1 1 = 0 then 1 else 0) := ex7
    refine lv_if_eq (tgt := 43) hx hb dX6_done_27 (by decide) (fun h9 => ?_) (fun h9 => ?_)
    · refine lv_iconst (v := 0) hx hb dX6_done_43 (by decide) ?_
      subst ex7 ex6 ex1
      exact r_iret X hw hr rfl hlk (Nat.le_of_ble_eq_true rfl) (Nat.le_of_ble_eq_true rfl) (gRE_of ((if_pos h9).trans rfl) hB) dX6_done_44
    · obtain ⟨g1, g2, g3⟩ := q_goes_of (a := x6) (b := 1) (c := 1) (by rw [← ex7]; exact h9)
      have g4 := g1; rw [ex6] at g4; obtain ⟨g5, g6⟩ := and2_of (a := x1) (b := q_isBelow n2 4) g4
      rw [ex1] at g5
      obtain ⟨pn1, bn1⟩ := q_isBelow_of (x := n1) (n := 4) (N := 4) rfl (by decide) g5
      obtain ⟨pn2, bn2⟩ := q_isBelow_of (x := n2) (n := 4) (N := 4) rfl (by decide) g6
      refine lv_aload_n hx hb dX6_done_30 rfl (lv_at hl 0 rfl) ?_
      refine r_get X hw 20 _ 10 (hL.1) rfl rfl k_X6 (by decide) fl_RX6_40 dX6_done_31 ?_
      refine lv_iconst (v := 4) hx hb dX6_done_34 (by decide) ?_
      refine lv_iload_n hx hb dX6_done_35 rfl (lv_at hl 1 rfl) ?_
      refine lv_imul hx hb dX6_done_36 ?_
      refine lv_iload_n hx hb dX6_done_37 rfl (lv_at hl 2 rfl) ?_
      refine lv_iadd hx hb dX6_done_38 ?_
      refine q_iald X hw 10 (hL.2 10 (by decide) (by decide) (by decide)) (j := ((4 * n1.toNatClampNeg) + n2.toNatClampNeg)) (nat_add (nat_mul (show (4 : Int32) = nI 4 from rfl) pn1) pn2) (show ((4 * n1.toNatClampNeg) + n2.toNatClampNeg) < 16 by omega) dX6_done_39 ?_
      refine lv_topi (fun x10 ex10 => ?_)
      have ex10 := ex10.trans (congrFun (congrFun (cs_k _ _ _ _ (by decide)) _) _)
      refine lv_goto (tgt := 44) hx hb dX6_done_40 (by decide) ?_
      subst ex10 ex7 ex6 ex1
      exact r_iret X hw hr rfl hlk (Nat.le_of_ble_eq_true rfl) (Nat.le_of_ble_eq_true rfl) (gRE_of ((if_neg h9).trans rfl) hB) dX6_done_44
  · refine lv_if_eq (tgt := 21) hx hb dX6_done_6 (by decide) (fun h2 => ?_) (fun h2 => ?_)
    · refine lv_iconst (v := 0) hx hb dX6_done_21 (by decide) ?_
      exact J5 _ ((if_pos h2).trans rfl).symm _ hl
    · refine lv_iload_n hx hb dX6_done_9 rfl (lv_at hl 2 rfl) ?_
      refine lv_iconst (v := 4) hx hb dX6_done_10 (by decide) ?_
      refine r_rp (r_runS X (c_q_isBelow l n2 4) cy_X6_isBelow ml_RX6_114 ⟨(Nat.le_of_ble_eq_true rfl), (Nat.le_of_ble_eq_true rfl)⟩ gPc_blind (fun _ _ _ => ⟨rfl, trivial⟩) rfl hl.1 rfl (Nat.le_of_ble_eq_true rfl) dX6_done_11 ⟨(Nat.le_of_ble_eq_true rfl), (Nat.le_of_ble_eq_true rfl)⟩) ?_
      refine lv_topi (fun x3 ex3 => ?_)
      refine lv_if_eq (tgt := 21) hx hb dX6_done_14 (by decide) (fun h4 => ?_) (fun h4 => ?_)
      · refine lv_iconst (v := 0) hx hb dX6_done_21 (by decide) ?_
        subst ex3; exact J5 _ ((if_neg h2).trans ((if_pos h4).trans rfl)).symm _ hl
      · refine lv_iconst (v := 1) hx hb dX6_done_17 (by decide) ?_
        refine lv_goto (tgt := 22) hx hb dX6_done_18 (by decide) ?_
        subst ex3; exact J5 _ ((if_neg h2).trans ((if_neg h4).trans rfl)).symm _ hl
def q_repaid (C : gCT)  : Int32 × gCT :=
  let C1 : gCT := cs C 20 0 3 0;
  let x2 : Int32 := C 20 0 0;
  (x2, C1)
set_option maxHeartbeats 4000000 in
set_option maxRecDepth 100000 in
theorem c_q_repaid (l : Launch) (G : gG) (lv : gLv) (ad : gAd) (C : gCT)  (hL : gLM lv) (hB : MBI C)  : gMi l yX6_repaid cX6_repaid 1 (some .int) (gRm 0 0 0 0) G [.ref (ad 20 0)] lv ad (gF G C ad) (gRi G lv ad MBI (q_repaid C )) := by
  refine r_met (own := RX6) (by decide) rfl (Nat.le_of_ble_eq_true rfl) ?_
  intro p e s m below meth c ls X hw hr hlk _ hl
  have hx := X.1.1; have hb := X.1.2.1; have hml := X.1.2.2.1; have hown := X.1.2.2.2.1; have hts := X.1.2.2.2.2
  have hl : lv_has ls 1 [(0, .ref (ad 20 0))] := hl
  have hB0 := hB
  refine lv_aload_n hx hb dX6_repaid_0 rfl (lv_at hl 0 rfl) ?_
  refine lv_iconst (v := 0) hx hb dX6_repaid_1 (by decide) ?_
  refine s_put X hw 20 _ 35 3 (hL.1) rfl rfl k_X6 (by decide) (Nat.le_of_ble_eq_true rfl) fl_RX6_106 rfl rfl dX6_repaid_2 (fun H locs hw => ?_)
  have hB := MBI.set0 hB (j := 3) (v := 0) (by decide)
  refine lv_aload_n hx hb dX6_repaid_5 rfl (lv_at hl 0 rfl) ?_
  refine r_get X hw 20 _ 14 (hL.1) rfl rfl k_X6 (by decide) fl_RX6_126 dX6_repaid_6 ?_
  refine lv_topi (fun x2 ex2 => ?_)
  have ex2 := ex2.trans (cs_o _ _ _ _ (by decide))
  subst ex2
  exact r_iret X hw hr rfl hlk (Nat.le_of_ble_eq_true rfl) (Nat.le_of_ble_eq_true rfl) (gRE_of (rfl) hB) dX6_repaid_9
def q_runs (C : gCT)  : Int32 × gCT :=
  let C1 : gCT := cs C 20 0 3 0;
  let x2 : Int32 := C 20 0 1;
  (x2, C1)
set_option maxHeartbeats 4000000 in
set_option maxRecDepth 100000 in
theorem c_q_runs (l : Launch) (G : gG) (lv : gLv) (ad : gAd) (C : gCT)  (hL : gLM lv) (hB : MBI C)  : gMi l yX6_runs cX6_runs 1 (some .int) (gRm 0 0 0 0) G [.ref (ad 20 0)] lv ad (gF G C ad) (gRi G lv ad MBI (q_runs C )) := by
  refine r_met (own := RX6) (by decide) rfl (Nat.le_of_ble_eq_true rfl) ?_
  intro p e s m below meth c ls X hw hr hlk _ hl
  have hx := X.1.1; have hb := X.1.2.1; have hml := X.1.2.2.1; have hown := X.1.2.2.2.1; have hts := X.1.2.2.2.2
  have hl : lv_has ls 1 [(0, .ref (ad 20 0))] := hl
  have hB0 := hB
  refine lv_aload_n hx hb dX6_runs_0 rfl (lv_at hl 0 rfl) ?_
  refine lv_iconst (v := 0) hx hb dX6_runs_1 (by decide) ?_
  refine s_put X hw 20 _ 35 3 (hL.1) rfl rfl k_X6 (by decide) (Nat.le_of_ble_eq_true rfl) fl_RX6_106 rfl rfl dX6_runs_2 (fun H locs hw => ?_)
  have hB := MBI.set0 hB (j := 3) (v := 0) (by decide)
  refine lv_aload_n hx hb dX6_runs_5 rfl (lv_at hl 0 rfl) ?_
  refine r_get X hw 20 _ 29 (hL.1) rfl rfl k_X6 (by decide) fl_RX6_174 dX6_runs_6 ?_
  refine lv_topi (fun x2 ex2 => ?_)
  obtain ⟨px2, bx2⟩ := MBI.runs hB ex2
  have ex2 := ex2.trans (cs_o _ _ _ _ (by decide))
  subst ex2
  exact r_iret X hw hr rfl hlk (Nat.le_of_ble_eq_true rfl) (Nat.le_of_ble_eq_true rfl) (gRE_of (rfl) hB) dX6_runs_9
def q_state (C : gCT) (n1 : Int32) : Int32 × gCT :=
  let x1 : Int32 := (q_isRun C n1).1;
  let x2 : Int32 := if q_thr x1 1 1 = 0 then 1 else 0;
  let C3 : gCT := cs C 20 0 3 (q_thr x1 1 1);
  if x2 = 0 then (
    (0, C3)
  ) else (
    let x5 : Int32 := C 21 24 n1.toNatClampNeg;
    (x5, C3)
  )
set_option maxHeartbeats 4000000 in
set_option maxRecDepth 100000 in
theorem c_q_state (l : Launch) (G : gG) (lv : gLv) (ad : gAd) (C : gCT) (n1 : Int32) (hL : gLM lv) (hB : MBI C)  : gMi l yX6_state cX6_state 2 (some .int) (gRm 2 42 0 0) G [.ref (ad 20 0), .int n1] lv ad (gF G C ad) (gRi G lv ad MBI (q_state C n1)) := by
  refine r_met (own := RX6) (by decide) rfl (Nat.le_of_ble_eq_true rfl) ?_
  intro p e s m below meth c ls X hw hr hlk _ hl
  have hx := X.1.1; have hb := X.1.2.1; have hml := X.1.2.2.1; have hown := X.1.2.2.2.1; have hts := X.1.2.2.2.2
  have hl : lv_has ls 2 [(0, .ref (ad 20 0)), (1, .int n1)] := hl
  have hB0 := hB
  refine lv_aload_n hx hb dX6_state_0 rfl (lv_at hl 0 rfl) ?_
  refine lv_aload_n hx hb dX6_state_1 rfl (lv_at hl 0 rfl) ?_
  refine lv_iload_n hx hb dX6_state_2 rfl (lv_at hl 1 rfl) ?_
  refine r_qiro X hw (q_isRun_C _ n1) (r_runV X (c_q_isRun l G lv ad _ n1 hL hB  _) cy_X6_isRun ml_RX6_180 ⟨(Nat.le_of_ble_eq_true rfl), (Nat.le_of_ble_eq_true rfl)⟩ gP.blind (g_recv X hw 20 0 hL.1 rfl rfl) (gP_call X hw _) rfl hl.1 rfl (Nat.le_of_ble_eq_true rfl) dX6_state_3 ⟨(Nat.le_of_ble_eq_true rfl), (Nat.le_of_ble_eq_true rfl)⟩) (fun H locs hw => ?_)
  refine lv_topi (fun x1 ex1 => ?_)
  refine lv_iconst (v := 1) hx hb dX6_state_6 (by decide) ?_
  refine lv_iconst (v := 1) hx hb dX6_state_7 (by decide) ?_
  refine r_qi X hw (r_runV X (c_q_goes1 l G lv ad _ x1 1 1 hL hB _) cy_X6_goes ml_RX6_121 ⟨(Nat.le_of_ble_eq_true rfl), (Nat.le_of_ble_eq_true rfl)⟩ gP.blind (g_recv X hw 20 0 hL.1 rfl rfl) (gP_call X hw _) rfl hl.1 rfl (Nat.le_of_ble_eq_true rfl) dX6_state_8 ⟨(Nat.le_of_ble_eq_true rfl), (Nat.le_of_ble_eq_true rfl)⟩) (fun H locs hB hw => ?_)
  dsimp only at hB hw
  refine lv_topi (fun x2 ex2 => ?_)
  have ex2 : x2 = (if q_thr x1 1 1 = 0 then 1 else 0) := ex2
  refine lv_if_eq (tgt := 23) hx hb dX6_state_11 (by decide) (fun h4 => ?_) (fun h4 => ?_)
  · refine lv_iconst (v := 0) hx hb dX6_state_23 (by decide) ?_
    subst ex2 ex1
    exact r_iret X hw hr rfl hlk (Nat.le_of_ble_eq_true rfl) (Nat.le_of_ble_eq_true rfl) (gRE_of ((if_pos h4).trans rfl) hB) dX6_state_24
  · obtain ⟨g1, g2, g3⟩ := q_goes_of (a := x1) (b := 1) (c := 1) (by rw [← ex2]; exact h4)
    obtain ⟨pn1, bn1, rn1⟩ := q_isRun_of hB0 (n := n1) (by rw [← ex1]; exact g1)
    refine lv_aload_n hx hb dX6_state_14 rfl (lv_at hl 0 rfl) ?_
    refine r_get X hw 20 _ 24 (hL.1) rfl rfl k_X6 (by decide) fl_RX6_79 dX6_state_15 ?_
    refine lv_iload_n hx hb dX6_state_18 rfl (lv_at hl 1 rfl) ?_
    refine q_iald X hw 24 (hL.2 24 (by decide) (by decide) (by decide)) (j := n1.toNatClampNeg) pn1 (show n1.toNatClampNeg < 24 by omega) dX6_state_19 ?_
    refine lv_topi (fun x5 ex5 => ?_)
    have ex5 := ex5.trans (congrFun (congrFun (cs_k _ _ _ _ (by decide)) _) _)
    refine lv_goto (tgt := 24) hx hb dX6_state_20 (by decide) ?_
    subst ex5 ex2 ex1
    exact r_iret X hw hr rfl hlk (Nat.le_of_ble_eq_true rfl) (Nat.le_of_ble_eq_true rfl) (gRE_of ((if_neg h4).trans rfl) hB) dX6_state_24
def q_version (C : gCT) (n1 : Int32) : Int32 × gCT :=
  let x1 : Int32 := (q_isRun C n1).1;
  let x2 : Int32 := if q_thr x1 1 1 = 0 then 1 else 0;
  let C3 : gCT := cs C 20 0 3 (q_thr x1 1 1);
  if x2 = 0 then (
    (0, C3)
  ) else (
    let x5 : Int32 := C 21 17 n1.toNatClampNeg;
    (x5, C3)
  )
set_option maxHeartbeats 4000000 in
set_option maxRecDepth 100000 in
theorem c_q_version (l : Launch) (G : gG) (lv : gLv) (ad : gAd) (C : gCT) (n1 : Int32) (hL : gLM lv) (hB : MBI C)  : gMi l yX6_version cX6_version 2 (some .int) (gRm 2 42 0 0) G [.ref (ad 20 0), .int n1] lv ad (gF G C ad) (gRi G lv ad MBI (q_version C n1)) := by
  refine r_met (own := RX6) (by decide) rfl (Nat.le_of_ble_eq_true rfl) ?_
  intro p e s m below meth c ls X hw hr hlk _ hl
  have hx := X.1.1; have hb := X.1.2.1; have hml := X.1.2.2.1; have hown := X.1.2.2.2.1; have hts := X.1.2.2.2.2
  have hl : lv_has ls 2 [(0, .ref (ad 20 0)), (1, .int n1)] := hl
  have hB0 := hB
  refine lv_aload_n hx hb dX6_version_0 rfl (lv_at hl 0 rfl) ?_
  refine lv_aload_n hx hb dX6_version_1 rfl (lv_at hl 0 rfl) ?_
  refine lv_iload_n hx hb dX6_version_2 rfl (lv_at hl 1 rfl) ?_
  refine r_qiro X hw (q_isRun_C _ n1) (r_runV X (c_q_isRun l G lv ad _ n1 hL hB  _) cy_X6_isRun ml_RX6_180 ⟨(Nat.le_of_ble_eq_true rfl), (Nat.le_of_ble_eq_true rfl)⟩ gP.blind (g_recv X hw 20 0 hL.1 rfl rfl) (gP_call X hw _) rfl hl.1 rfl (Nat.le_of_ble_eq_true rfl) dX6_version_3 ⟨(Nat.le_of_ble_eq_true rfl), (Nat.le_of_ble_eq_true rfl)⟩) (fun H locs hw => ?_)
  refine lv_topi (fun x1 ex1 => ?_)
  refine lv_iconst (v := 1) hx hb dX6_version_6 (by decide) ?_
  refine lv_iconst (v := 1) hx hb dX6_version_7 (by decide) ?_
  refine r_qi X hw (r_runV X (c_q_goes1 l G lv ad _ x1 1 1 hL hB _) cy_X6_goes ml_RX6_121 ⟨(Nat.le_of_ble_eq_true rfl), (Nat.le_of_ble_eq_true rfl)⟩ gP.blind (g_recv X hw 20 0 hL.1 rfl rfl) (gP_call X hw _) rfl hl.1 rfl (Nat.le_of_ble_eq_true rfl) dX6_version_8 ⟨(Nat.le_of_ble_eq_true rfl), (Nat.le_of_ble_eq_true rfl)⟩) (fun H locs hB hw => ?_)
  dsimp only at hB hw
  refine lv_topi (fun x2 ex2 => ?_)
  have ex2 : x2 = (if q_thr x1 1 1 = 0 then 1 else 0) := ex2
  refine lv_if_eq (tgt := 23) hx hb dX6_version_11 (by decide) (fun h4 => ?_) (fun h4 => ?_)
  · refine lv_iconst (v := 0) hx hb dX6_version_23 (by decide) ?_
    subst ex2 ex1
    exact r_iret X hw hr rfl hlk (Nat.le_of_ble_eq_true rfl) (Nat.le_of_ble_eq_true rfl) (gRE_of ((if_pos h4).trans rfl) hB) dX6_version_24
  · obtain ⟨g1, g2, g3⟩ := q_goes_of (a := x1) (b := 1) (c := 1) (by rw [← ex2]; exact h4)
    obtain ⟨pn1, bn1, rn1⟩ := q_isRun_of hB0 (n := n1) (by rw [← ex1]; exact g1)
    refine lv_aload_n hx hb dX6_version_14 rfl (lv_at hl 0 rfl) ?_
    refine r_get X hw 20 _ 17 (hL.1) rfl rfl k_X6 (by decide) fl_RX6_58 dX6_version_15 ?_
    refine lv_iload_n hx hb dX6_version_18 rfl (lv_at hl 1 rfl) ?_
    refine q_iald X hw 17 (hL.2 17 (by decide) (by decide) (by decide)) (j := n1.toNatClampNeg) pn1 (show n1.toNatClampNeg < 24 by omega) dX6_version_19 ?_
    refine lv_topi (fun x5 ex5 => ?_)
    obtain ⟨px5, bx5⟩ := MBI.get hB 17 n1.toNatClampNeg (show n1.toNatClampNeg < 24 by omega) (by decide) ex5
    have bx5 : x5.toNatClampNeg < 6 := bx5
    have ex5 := ex5.trans (congrFun (congrFun (cs_k _ _ _ _ (by decide)) _) _)
    refine lv_goto (tgt := 24) hx hb dX6_version_20 (by decide) ?_
    subst ex5 ex2 ex1
    exact r_iret X hw hr rfl hlk (Nat.le_of_ble_eq_true rfl) (Nat.le_of_ble_eq_true rfl) (gRE_of ((if_neg h4).trans rfl) hB) dX6_version_24
def q_fuel (C : gCT) (n1 : Int32) : Int32 × gCT :=
  let x1 : Int32 := (q_isRun C n1).1;
  let x2 : Int32 := if q_thr x1 1 1 = 0 then 1 else 0;
  let C3 : gCT := cs C 20 0 3 (q_thr x1 1 1);
  if x2 = 0 then (
    (0, C3)
  ) else (
    let x5 : Int32 := C 21 23 n1.toNatClampNeg;
    (x5, C3)
  )
set_option maxHeartbeats 4000000 in
set_option maxRecDepth 100000 in
theorem c_q_fuel (l : Launch) (G : gG) (lv : gLv) (ad : gAd) (C : gCT) (n1 : Int32) (hL : gLM lv) (hB : MBI C)  : gMi l yX6_fuel cX6_fuel 2 (some .int) (gRm 2 42 0 0) G [.ref (ad 20 0), .int n1] lv ad (gF G C ad) (gRi G lv ad MBI (q_fuel C n1)) := by
  refine r_met (own := RX6) (by decide) rfl (Nat.le_of_ble_eq_true rfl) ?_
  intro p e s m below meth c ls X hw hr hlk _ hl
  have hx := X.1.1; have hb := X.1.2.1; have hml := X.1.2.2.1; have hown := X.1.2.2.2.1; have hts := X.1.2.2.2.2
  have hl : lv_has ls 2 [(0, .ref (ad 20 0)), (1, .int n1)] := hl
  have hB0 := hB
  refine lv_aload_n hx hb dX6_fuel_0 rfl (lv_at hl 0 rfl) ?_
  refine lv_aload_n hx hb dX6_fuel_1 rfl (lv_at hl 0 rfl) ?_
  refine lv_iload_n hx hb dX6_fuel_2 rfl (lv_at hl 1 rfl) ?_
  refine r_qiro X hw (q_isRun_C _ n1) (r_runV X (c_q_isRun l G lv ad _ n1 hL hB  _) cy_X6_isRun ml_RX6_180 ⟨(Nat.le_of_ble_eq_true rfl), (Nat.le_of_ble_eq_true rfl)⟩ gP.blind (g_recv X hw 20 0 hL.1 rfl rfl) (gP_call X hw _) rfl hl.1 rfl (Nat.le_of_ble_eq_true rfl) dX6_fuel_3 ⟨(Nat.le_of_ble_eq_true rfl), (Nat.le_of_ble_eq_true rfl)⟩) (fun H locs hw => ?_)
  refine lv_topi (fun x1 ex1 => ?_)
  refine lv_iconst (v := 1) hx hb dX6_fuel_6 (by decide) ?_
  refine lv_iconst (v := 1) hx hb dX6_fuel_7 (by decide) ?_
  refine r_qi X hw (r_runV X (c_q_goes1 l G lv ad _ x1 1 1 hL hB _) cy_X6_goes ml_RX6_121 ⟨(Nat.le_of_ble_eq_true rfl), (Nat.le_of_ble_eq_true rfl)⟩ gP.blind (g_recv X hw 20 0 hL.1 rfl rfl) (gP_call X hw _) rfl hl.1 rfl (Nat.le_of_ble_eq_true rfl) dX6_fuel_8 ⟨(Nat.le_of_ble_eq_true rfl), (Nat.le_of_ble_eq_true rfl)⟩) (fun H locs hB hw => ?_)
  dsimp only at hB hw
  refine lv_topi (fun x2 ex2 => ?_)
  have ex2 : x2 = (if q_thr x1 1 1 = 0 then 1 else 0) := ex2
  refine lv_if_eq (tgt := 23) hx hb dX6_fuel_11 (by decide) (fun h4 => ?_) (fun h4 => ?_)
  · refine lv_iconst (v := 0) hx hb dX6_fuel_23 (by decide) ?_
    subst ex2 ex1
    exact r_iret X hw hr rfl hlk (Nat.le_of_ble_eq_true rfl) (Nat.le_of_ble_eq_true rfl) (gRE_of ((if_pos h4).trans rfl) hB) dX6_fuel_24
  · obtain ⟨g1, g2, g3⟩ := q_goes_of (a := x1) (b := 1) (c := 1) (by rw [← ex2]; exact h4)
    obtain ⟨pn1, bn1, rn1⟩ := q_isRun_of hB0 (n := n1) (by rw [← ex1]; exact g1)
    refine lv_aload_n hx hb dX6_fuel_14 rfl (lv_at hl 0 rfl) ?_
    refine r_get X hw 20 _ 23 (hL.1) rfl rfl k_X6 (by decide) fl_RX6_76 dX6_fuel_15 ?_
    refine lv_iload_n hx hb dX6_fuel_18 rfl (lv_at hl 1 rfl) ?_
    refine q_iald X hw 23 (hL.2 23 (by decide) (by decide) (by decide)) (j := n1.toNatClampNeg) pn1 (show n1.toNatClampNeg < 24 by omega) dX6_fuel_19 ?_
    refine lv_topi (fun x5 ex5 => ?_)
    obtain ⟨px5, bx5⟩ := MBI.get hB 23 n1.toNatClampNeg (show n1.toNatClampNeg < 24 by omega) (by decide) ex5
    have bx5 : x5.toNatClampNeg < 201 := bx5
    have ex5 := ex5.trans (congrFun (congrFun (cs_k _ _ _ _ (by decide)) _) _)
    refine lv_goto (tgt := 24) hx hb dX6_fuel_20 (by decide) ?_
    subst ex5 ex2 ex1
    exact r_iret X hw hr rfl hlk (Nat.le_of_ble_eq_true rfl) (Nat.le_of_ble_eq_true rfl) (gRE_of ((if_neg h4).trans rfl) hB) dX6_fuel_24
def q_depth (C : gCT) (n1 : Int32) : Int32 × gCT :=
  let x1 : Int32 := (q_isRun C n1).1;
  let x2 : Int32 := if q_thr x1 1 1 = 0 then 1 else 0;
  let C3 : gCT := cs C 20 0 3 (q_thr x1 1 1);
  if x2 = 0 then (
    (0, C3)
  ) else (
    let x5 : Int32 := C 21 20 n1.toNatClampNeg;
    (x5, C3)
  )
set_option maxHeartbeats 4000000 in
set_option maxRecDepth 100000 in
theorem c_q_depth (l : Launch) (G : gG) (lv : gLv) (ad : gAd) (C : gCT) (n1 : Int32) (hL : gLM lv) (hB : MBI C)  : gMi l yX6_depth cX6_depth 2 (some .int) (gRm 2 42 0 0) G [.ref (ad 20 0), .int n1] lv ad (gF G C ad) (gRi G lv ad MBI (q_depth C n1)) := by
  refine r_met (own := RX6) (by decide) rfl (Nat.le_of_ble_eq_true rfl) ?_
  intro p e s m below meth c ls X hw hr hlk _ hl
  have hx := X.1.1; have hb := X.1.2.1; have hml := X.1.2.2.1; have hown := X.1.2.2.2.1; have hts := X.1.2.2.2.2
  have hl : lv_has ls 2 [(0, .ref (ad 20 0)), (1, .int n1)] := hl
  have hB0 := hB
  refine lv_aload_n hx hb dX6_depth_0 rfl (lv_at hl 0 rfl) ?_
  refine lv_aload_n hx hb dX6_depth_1 rfl (lv_at hl 0 rfl) ?_
  refine lv_iload_n hx hb dX6_depth_2 rfl (lv_at hl 1 rfl) ?_
  refine r_qiro X hw (q_isRun_C _ n1) (r_runV X (c_q_isRun l G lv ad _ n1 hL hB  _) cy_X6_isRun ml_RX6_180 ⟨(Nat.le_of_ble_eq_true rfl), (Nat.le_of_ble_eq_true rfl)⟩ gP.blind (g_recv X hw 20 0 hL.1 rfl rfl) (gP_call X hw _) rfl hl.1 rfl (Nat.le_of_ble_eq_true rfl) dX6_depth_3 ⟨(Nat.le_of_ble_eq_true rfl), (Nat.le_of_ble_eq_true rfl)⟩) (fun H locs hw => ?_)
  refine lv_topi (fun x1 ex1 => ?_)
  refine lv_iconst (v := 1) hx hb dX6_depth_6 (by decide) ?_
  refine lv_iconst (v := 1) hx hb dX6_depth_7 (by decide) ?_
  refine r_qi X hw (r_runV X (c_q_goes1 l G lv ad _ x1 1 1 hL hB _) cy_X6_goes ml_RX6_121 ⟨(Nat.le_of_ble_eq_true rfl), (Nat.le_of_ble_eq_true rfl)⟩ gP.blind (g_recv X hw 20 0 hL.1 rfl rfl) (gP_call X hw _) rfl hl.1 rfl (Nat.le_of_ble_eq_true rfl) dX6_depth_8 ⟨(Nat.le_of_ble_eq_true rfl), (Nat.le_of_ble_eq_true rfl)⟩) (fun H locs hB hw => ?_)
  dsimp only at hB hw
  refine lv_topi (fun x2 ex2 => ?_)
  have ex2 : x2 = (if q_thr x1 1 1 = 0 then 1 else 0) := ex2
  refine lv_if_eq (tgt := 23) hx hb dX6_depth_11 (by decide) (fun h4 => ?_) (fun h4 => ?_)
  · refine lv_iconst (v := 0) hx hb dX6_depth_23 (by decide) ?_
    subst ex2 ex1
    exact r_iret X hw hr rfl hlk (Nat.le_of_ble_eq_true rfl) (Nat.le_of_ble_eq_true rfl) (gRE_of ((if_pos h4).trans rfl) hB) dX6_depth_24
  · obtain ⟨g1, g2, g3⟩ := q_goes_of (a := x1) (b := 1) (c := 1) (by rw [← ex2]; exact h4)
    obtain ⟨pn1, bn1, rn1⟩ := q_isRun_of hB0 (n := n1) (by rw [← ex1]; exact g1)
    refine lv_aload_n hx hb dX6_depth_14 rfl (lv_at hl 0 rfl) ?_
    refine r_get X hw 20 _ 20 (hL.1) rfl rfl k_X6 (by decide) fl_RX6_67 dX6_depth_15 ?_
    refine lv_iload_n hx hb dX6_depth_18 rfl (lv_at hl 1 rfl) ?_
    refine q_iald X hw 20 (hL.2 20 (by decide) (by decide) (by decide)) (j := n1.toNatClampNeg) pn1 (show n1.toNatClampNeg < 24 by omega) dX6_depth_19 ?_
    refine lv_topi (fun x5 ex5 => ?_)
    obtain ⟨px5, bx5⟩ := MBI.get hB 20 n1.toNatClampNeg (show n1.toNatClampNeg < 24 by omega) (by decide) ex5
    have bx5 : x5.toNatClampNeg < 9 := bx5
    have ex5 := ex5.trans (congrFun (congrFun (cs_k _ _ _ _ (by decide)) _) _)
    refine lv_goto (tgt := 24) hx hb dX6_depth_20 (by decide) ?_
    subst ex5 ex2 ex1
    exact r_iret X hw hr rfl hlk (Nat.le_of_ble_eq_true rfl) (Nat.le_of_ble_eq_true rfl) (gRE_of ((if_neg h4).trans rfl) hB) dX6_depth_24
def q_question (C : gCT) (n1 : Int32) : Int32 × gCT :=
  let x1 : Int32 := (q_isRun C n1).1;
  let x2 : Int32 := if q_thr x1 1 1 = 0 then 1 else 0;
  let C3 : gCT := cs C 20 0 3 (q_thr x1 1 1);
  if x2 = 0 then (
    (0, C3)
  ) else (
    let x5 : Int32 := C 21 24 n1.toNatClampNeg;
    if x5 ≤ 1 then (
      let x7 : Int32 := C 21 25 n1.toNatClampNeg;
      (x7, C3)
    ) else (
      if x5 = 6 then (
        let x10 : Int32 := C 21 25 n1.toNatClampNeg;
        (x10, C3)
      ) else (
        ((-1), C3)
      )
    )
  )
set_option maxHeartbeats 4000000 in
set_option maxRecDepth 100000 in
theorem c_q_question (l : Launch) (G : gG) (lv : gLv) (ad : gAd) (C : gCT) (n1 : Int32) (hL : gLM lv) (hB : MBI C)  : gMi l yX6_question cX6_question 2 (some .int) (gRm 2 42 0 0) G [.ref (ad 20 0), .int n1] lv ad (gF G C ad) (gRi G lv ad MBI (q_question C n1)) := by
  refine r_met (own := RX6) (by decide) rfl (Nat.le_of_ble_eq_true rfl) ?_
  intro p e s m below meth c ls X hw hr hlk _ hl
  have hx := X.1.1; have hb := X.1.2.1; have hml := X.1.2.2.1; have hown := X.1.2.2.2.1; have hts := X.1.2.2.2.2
  have hl : lv_has ls 2 [(0, .ref (ad 20 0)), (1, .int n1)] := hl
  have hB0 := hB
  refine lv_aload_n hx hb dX6_question_0 rfl (lv_at hl 0 rfl) ?_
  refine lv_aload_n hx hb dX6_question_1 rfl (lv_at hl 0 rfl) ?_
  refine lv_iload_n hx hb dX6_question_2 rfl (lv_at hl 1 rfl) ?_
  refine r_qiro X hw (q_isRun_C _ n1) (r_runV X (c_q_isRun l G lv ad _ n1 hL hB  _) cy_X6_isRun ml_RX6_180 ⟨(Nat.le_of_ble_eq_true rfl), (Nat.le_of_ble_eq_true rfl)⟩ gP.blind (g_recv X hw 20 0 hL.1 rfl rfl) (gP_call X hw _) rfl hl.1 rfl (Nat.le_of_ble_eq_true rfl) dX6_question_3 ⟨(Nat.le_of_ble_eq_true rfl), (Nat.le_of_ble_eq_true rfl)⟩) (fun H locs hw => ?_)
  refine lv_topi (fun x1 ex1 => ?_)
  refine lv_iconst (v := 1) hx hb dX6_question_6 (by decide) ?_
  refine lv_iconst (v := 1) hx hb dX6_question_7 (by decide) ?_
  refine r_qi X hw (r_runV X (c_q_goes1 l G lv ad _ x1 1 1 hL hB _) cy_X6_goes ml_RX6_121 ⟨(Nat.le_of_ble_eq_true rfl), (Nat.le_of_ble_eq_true rfl)⟩ gP.blind (g_recv X hw 20 0 hL.1 rfl rfl) (gP_call X hw _) rfl hl.1 rfl (Nat.le_of_ble_eq_true rfl) dX6_question_8 ⟨(Nat.le_of_ble_eq_true rfl), (Nat.le_of_ble_eq_true rfl)⟩) (fun H locs hB hw => ?_)
  dsimp only at hB hw
  refine lv_topi (fun x2 ex2 => ?_)
  have ex2 : x2 = (if q_thr x1 1 1 = 0 then 1 else 0) := ex2
  refine lv_if_ne (tgt := 16) hx hb dX6_question_11 (by decide) (fun h4 => ?_) (fun h4 => ?_)
  · obtain ⟨g1, g2, g3⟩ := q_goes_of (a := x1) (b := 1) (c := 1) (by rw [← ex2]; exact h4)
    obtain ⟨pn1, bn1, rn1⟩ := q_isRun_of hB0 (n := n1) (by rw [← ex1]; exact g1)
    refine lv_aload_n hx hb dX6_question_16 rfl (lv_at hl 0 rfl) ?_
    refine r_get X hw 20 _ 24 (hL.1) rfl rfl k_X6 (by decide) fl_RX6_79 dX6_question_17 ?_
    refine lv_iload_n hx hb dX6_question_20 rfl (lv_at hl 1 rfl) ?_
    refine q_iald X hw 24 (hL.2 24 (by decide) (by decide) (by decide)) (j := n1.toNatClampNeg) pn1 (show n1.toNatClampNeg < 24 by omega) dX6_question_21 ?_
    refine lv_topi (fun x5 ex5 => ?_)
    have ex5 := ex5.trans (congrFun (congrFun (cs_k _ _ _ _ (by decide)) _) _)
    refine lv_iconst (v := 1) hx hb dX6_question_22 (by decide) ?_
    refine lv_icmp_le (tgt := 37) hx hb dX6_question_23 (by decide) (fun h6 => ?_) (fun h6 => ?_)
    · refine lv_aload_n hx hb dX6_question_37 rfl (lv_at hl 0 rfl) ?_
      refine r_get X hw 20 _ 25 (hL.1) rfl rfl k_X6 (by decide) fl_RX6_82 dX6_question_38 ?_
      refine lv_iload_n hx hb dX6_question_41 rfl (lv_at hl 1 rfl) ?_
      refine q_iald X hw 25 (hL.2 25 (by decide) (by decide) (by decide)) (j := n1.toNatClampNeg) pn1 (show n1.toNatClampNeg < 24 by omega) dX6_question_42 ?_
      refine lv_topi (fun x7 ex7 => ?_)
      have ex7 := ex7.trans (congrFun (congrFun (cs_k _ _ _ _ (by decide)) _) _)
      refine lv_goto (tgt := 47) hx hb dX6_question_43 (by decide) ?_
      subst ex7 ex5 ex2 ex1
      exact r_iret X hw hr rfl hlk (Nat.le_of_ble_eq_true rfl) (Nat.le_of_ble_eq_true rfl) (gRE_of ((if_neg h4).trans ((if_pos h6).trans rfl)) hB) dX6_question_47
    · refine lv_aload_n hx hb dX6_question_26 rfl (lv_at hl 0 rfl) ?_
      refine r_get X hw 20 _ 24 (hL.1) rfl rfl k_X6 (by decide) fl_RX6_79 dX6_question_27 ?_
      refine lv_iload_n hx hb dX6_question_30 rfl (lv_at hl 1 rfl) ?_
      refine q_iald X hw 24 (hL.2 24 (by decide) (by decide) (by decide)) (j := n1.toNatClampNeg) pn1 (show n1.toNatClampNeg < 24 by omega) dX6_question_31 ?_
      refine lv_topi (fun x8 ex8 => ?_)
      have ex8 := (ex8.trans (congrFun (congrFun (cs_k _ _ _ _ (by decide)) _) _)).trans ex5.symm; have ex8 := ex8.symm; subst ex8
      refine lv_bipush (v := 6) hx hb dX6_question_32 (by decide) ?_
      refine lv_icmp_ne (tgt := 46) hx hb dX6_question_34 (by decide) (fun h9 => ?_) (fun h9 => ?_)
      · refine lv_iconst (v := (-1)) hx hb dX6_question_46 (by decide) ?_
        subst ex5 ex2 ex1
        exact r_iret X hw hr rfl hlk (Nat.le_of_ble_eq_true rfl) (Nat.le_of_ble_eq_true rfl) (gRE_of ((if_neg h4).trans ((if_neg h6).trans ((if_neg h9).trans rfl))) hB) dX6_question_47
      · refine lv_aload_n hx hb dX6_question_37 rfl (lv_at hl 0 rfl) ?_
        refine r_get X hw 20 _ 25 (hL.1) rfl rfl k_X6 (by decide) fl_RX6_82 dX6_question_38 ?_
        refine lv_iload_n hx hb dX6_question_41 rfl (lv_at hl 1 rfl) ?_
        refine q_iald X hw 25 (hL.2 25 (by decide) (by decide) (by decide)) (j := n1.toNatClampNeg) pn1 (show n1.toNatClampNeg < 24 by omega) dX6_question_42 ?_
        refine lv_topi (fun x10 ex10 => ?_)
        have ex10 := ex10.trans (congrFun (congrFun (cs_k _ _ _ _ (by decide)) _) _)
        refine lv_goto (tgt := 47) hx hb dX6_question_43 (by decide) ?_
        subst ex10 ex5 ex2 ex1
        exact r_iret X hw hr rfl hlk (Nat.le_of_ble_eq_true rfl) (Nat.le_of_ble_eq_true rfl) (gRE_of ((if_neg h4).trans ((if_neg h6).trans ((if_pos h9).trans rfl))) hB) dX6_question_47
  · refine lv_iconst (v := 0) hx hb dX6_question_14 (by decide) ?_
    subst ex2 ex1
    exact r_iret X hw hr rfl hlk (Nat.le_of_ble_eq_true rfl) (Nat.le_of_ble_eq_true rfl) (gRE_of ((if_pos h4).trans rfl) hB) dX6_question_15
def q_slot (C : gCT) (n1 n2 : Int32) : Int32 × gCT :=
  let x1 : Int32 := (q_isRun C n1).1;
  let x6 : Int32 :=
    if x1 = 0 then (
      0
    ) else (
      let x3 : Int32 := q_isBelow n2 8;
      if x3 = 0 then (
        0
      ) else (
        1
      )
    );
  let x7 : Int32 := if q_thr x6 1 1 = 0 then 1 else 0;
  let C8 : gCT := cs C 20 0 3 (q_thr x6 1 1);
  if x7 = 0 then (
    (0, C8)
  ) else (
    let x10 : Int32 := C 21 21 ((8 * n1.toNatClampNeg) + n2.toNatClampNeg);
    (x10, C8)
  )
set_option maxHeartbeats 4000000 in
set_option maxRecDepth 100000 in
theorem c_q_slot (l : Launch) (G : gG) (lv : gLv) (ad : gAd) (C : gCT) (n1 n2 : Int32) (hL : gLM lv) (hB : MBI C)  : gMi l yX6_slot cX6_slot 3 (some .int) (gRm 2 42 0 0) G [.ref (ad 20 0), .int n1, .int n2] lv ad (gF G C ad) (gRi G lv ad MBI (q_slot C n1 n2)) := by
  refine r_met (own := RX6) (by decide) rfl (Nat.le_of_ble_eq_true rfl) ?_
  intro p e s m below meth c ls X hw hr hlk _ hl
  have hx := X.1.1; have hb := X.1.2.1; have hml := X.1.2.2.1; have hown := X.1.2.2.2.1; have hts := X.1.2.2.2.2
  have hl : lv_has ls 3 [(0, .ref (ad 20 0)), (1, .int n1), (2, .int n2)] := hl
  have hB0 := hB
  refine lv_aload_n hx hb dX6_slot_0 rfl (lv_at hl 0 rfl) ?_
  refine lv_aload_n hx hb dX6_slot_1 rfl (lv_at hl 0 rfl) ?_
  refine lv_iload_n hx hb dX6_slot_2 rfl (lv_at hl 1 rfl) ?_
  refine r_qiro X hw (q_isRun_C _ n1) (r_runV X (c_q_isRun l G lv ad _ n1 hL hB  _) cy_X6_isRun ml_RX6_180 ⟨(Nat.le_of_ble_eq_true rfl), (Nat.le_of_ble_eq_true rfl)⟩ gP.blind (g_recv X hw 20 0 hL.1 rfl rfl) (gP_call X hw _) rfl hl.1 rfl (Nat.le_of_ble_eq_true rfl) dX6_slot_3 ⟨(Nat.le_of_ble_eq_true rfl), (Nat.le_of_ble_eq_true rfl)⟩) (fun H locs hw => ?_)
  refine lv_topi (fun x1 ex1 => ?_)
  refine r_J (nL := 3) (J := 23) (rest := [.ref (ad 20 0)]) (L := [(0, .ref (ad 20 0)), (1, .int n1), (2, .int n2)]) (if x1 = 0 then ( 0 ) else ( let x3 : Int32 := q_isBelow n2 8; if x3 = 0 then ( 0 ) else ( 1 ) )) (fun x6 ex6 ls hl => ?_) (fun J5 => ?_)
  · refine lv_iconst (v := 1) hx hb dX6_slot_23 (by decide) ?_
    refine lv_iconst (v := 1) hx hb dX6_slot_24 (by decide) ?_
    refine r_qi X hw (r_runV X (c_q_goes1 l G lv ad _ x6 1 1 hL hB _) cy_X6_goes ml_RX6_121 ⟨(Nat.le_of_ble_eq_true rfl), (Nat.le_of_ble_eq_true rfl)⟩ gP.blind (g_recv X hw 20 0 hL.1 rfl rfl) (gP_call X hw _) rfl hl.1 rfl (Nat.le_of_ble_eq_true rfl) dX6_slot_25 ⟨(Nat.le_of_ble_eq_true rfl), (Nat.le_of_ble_eq_true rfl)⟩) (fun H locs hB hw => ?_)
    dsimp only at hB hw
    refine lv_topi (fun x7 ex7 => ?_)
    have ex7 : x7 = (if q_thr x6 1 1 = 0 then 1 else 0) := ex7
    refine lv_if_eq (tgt := 45) hx hb dX6_slot_28 (by decide) (fun h9 => ?_) (fun h9 => ?_)
    · refine lv_iconst (v := 0) hx hb dX6_slot_45 (by decide) ?_
      subst ex7 ex6 ex1
      exact r_iret X hw hr rfl hlk (Nat.le_of_ble_eq_true rfl) (Nat.le_of_ble_eq_true rfl) (gRE_of ((if_pos h9).trans rfl) hB) dX6_slot_46
    · obtain ⟨g1, g2, g3⟩ := q_goes_of (a := x6) (b := 1) (c := 1) (by rw [← ex7]; exact h9)
      have g4 := g1; rw [ex6] at g4; obtain ⟨g5, g6⟩ := and2_of (a := x1) (b := q_isBelow n2 8) g4
      rw [ex1] at g5
      obtain ⟨pn1, bn1, rn1⟩ := q_isRun_of hB0 (n := n1) g5
      obtain ⟨pn2, bn2⟩ := q_isBelow_of (x := n2) (n := 8) (N := 8) rfl (by decide) g6
      refine lv_aload_n hx hb dX6_slot_31 rfl (lv_at hl 0 rfl) ?_
      refine r_get X hw 20 _ 21 (hL.1) rfl rfl k_X6 (by decide) fl_RX6_70 dX6_slot_32 ?_
      refine lv_bipush (v := 8) hx hb dX6_slot_35 (by decide) ?_
      refine lv_iload_n hx hb dX6_slot_37 rfl (lv_at hl 1 rfl) ?_
      refine lv_imul hx hb dX6_slot_38 ?_
      refine lv_iload_n hx hb dX6_slot_39 rfl (lv_at hl 2 rfl) ?_
      refine lv_iadd hx hb dX6_slot_40 ?_
      refine q_iald X hw 21 (hL.2 21 (by decide) (by decide) (by decide)) (j := ((8 * n1.toNatClampNeg) + n2.toNatClampNeg)) (nat_add (nat_mul (show (8 : Int32) = nI 8 from rfl) pn1) pn2) (show ((8 * n1.toNatClampNeg) + n2.toNatClampNeg) < 192 by omega) dX6_slot_41 ?_
      refine lv_topi (fun x10 ex10 => ?_)
      have ex10 := ex10.trans (congrFun (congrFun (cs_k _ _ _ _ (by decide)) _) _)
      refine lv_goto (tgt := 46) hx hb dX6_slot_42 (by decide) ?_
      subst ex10 ex7 ex6 ex1
      exact r_iret X hw hr rfl hlk (Nat.le_of_ble_eq_true rfl) (Nat.le_of_ble_eq_true rfl) (gRE_of ((if_neg h9).trans rfl) hB) dX6_slot_46
  · refine lv_if_eq (tgt := 22) hx hb dX6_slot_6 (by decide) (fun h2 => ?_) (fun h2 => ?_)
    · refine lv_iconst (v := 0) hx hb dX6_slot_22 (by decide) ?_
      exact J5 _ ((if_pos h2).trans rfl).symm _ hl
    · refine lv_iload_n hx hb dX6_slot_9 rfl (lv_at hl 2 rfl) ?_
      refine lv_bipush (v := 8) hx hb dX6_slot_10 (by decide) ?_
      refine r_rp (r_runS X (c_q_isBelow l n2 8) cy_X6_isBelow ml_RX6_114 ⟨(Nat.le_of_ble_eq_true rfl), (Nat.le_of_ble_eq_true rfl)⟩ gPc_blind (fun _ _ _ => ⟨rfl, trivial⟩) rfl hl.1 rfl (Nat.le_of_ble_eq_true rfl) dX6_slot_12 ⟨(Nat.le_of_ble_eq_true rfl), (Nat.le_of_ble_eq_true rfl)⟩) ?_
      refine lv_topi (fun x3 ex3 => ?_)
      refine lv_if_eq (tgt := 22) hx hb dX6_slot_15 (by decide) (fun h4 => ?_) (fun h4 => ?_)
      · refine lv_iconst (v := 0) hx hb dX6_slot_22 (by decide) ?_
        subst ex3; exact J5 _ ((if_neg h2).trans ((if_pos h4).trans rfl)).symm _ hl
      · refine lv_iconst (v := 1) hx hb dX6_slot_18 (by decide) ?_
        refine lv_goto (tgt := 23) hx hb dX6_slot_19 (by decide) ?_
        subst ex3; exact J5 _ ((if_neg h2).trans ((if_neg h4).trans rfl)).symm _ hl
def q_fuelAgain (C : gCT) (n1 : Int32) : Int32 × gCT :=
  let r1 : Int32 × gCT := q_fuel C n1;
  let x2 : Int32 := r1.1;
  let C3 : gCT := r1.2;
  (x2, C3)
set_option maxHeartbeats 4000000 in
set_option maxRecDepth 100000 in
theorem c_q_fuelAgain (l : Launch) (G : gG) (lv : gLv) (ad : gAd) (C : gCT) (n1 : Int32) (hL : gLM lv) (hB : MBI C)  : gMi l yX6_fuelAgain cX6_fuelAgain 2 (some .int) (gRm 3 63 0 0) G [.ref (ad 20 0), .int n1] lv ad (gF G C ad) (gRi G lv ad MBI (q_fuelAgain C n1)) := by
  refine r_met (own := RX6) (by decide) rfl (Nat.le_of_ble_eq_true rfl) ?_
  intro p e s m below meth c ls X hw hr hlk _ hl
  have hx := X.1.1; have hb := X.1.2.1; have hml := X.1.2.2.1; have hown := X.1.2.2.2.1; have hts := X.1.2.2.2.2
  have hl : lv_has ls 2 [(0, .ref (ad 20 0)), (1, .int n1)] := hl
  have hB0 := hB
  refine lv_aload_n hx hb dX6_fuelAgain_0 rfl (lv_at hl 0 rfl) ?_
  refine lv_iload_n hx hb dX6_fuelAgain_1 rfl (lv_at hl 1 rfl) ?_
  refine r_qi X hw (r_runV X (c_q_fuel l G lv ad _ n1 hL hB  _) cy_X6_fuel ml_RX6_184 ⟨(Nat.le_of_ble_eq_true rfl), (Nat.le_of_ble_eq_true rfl)⟩ gP.blind (g_recv X hw 20 0 hL.1 rfl rfl) (gP_call X hw _) rfl hl.1 rfl (Nat.le_of_ble_eq_true rfl) dX6_fuelAgain_2 ⟨(Nat.le_of_ble_eq_true rfl), (Nat.le_of_ble_eq_true rfl)⟩) (fun H locs hB hw => ?_)
  refine lv_topi (fun x2 ex2 => ?_)
  subst ex2
  exact r_iret X hw hr rfl hlk (Nat.le_of_ble_eq_true rfl) (Nat.le_of_ble_eq_true rfl) (gRE_of (rfl) hB) dX6_fuelAgain_5
def q_slotAgain (C : gCT) (n1 n2 : Int32) : Int32 × gCT :=
  let r1 : Int32 × gCT := q_slot C n1 n2;
  let x2 : Int32 := r1.1;
  let C3 : gCT := r1.2;
  (x2, C3)
set_option maxHeartbeats 4000000 in
set_option maxRecDepth 100000 in
theorem c_q_slotAgain (l : Launch) (G : gG) (lv : gLv) (ad : gAd) (C : gCT) (n1 n2 : Int32) (hL : gLM lv) (hB : MBI C)  : gMi l yX6_slotAgain cX6_slotAgain 3 (some .int) (gRm 3 64 0 0) G [.ref (ad 20 0), .int n1, .int n2] lv ad (gF G C ad) (gRi G lv ad MBI (q_slotAgain C n1 n2)) := by
  refine r_met (own := RX6) (by decide) rfl (Nat.le_of_ble_eq_true rfl) ?_
  intro p e s m below meth c ls X hw hr hlk _ hl
  have hx := X.1.1; have hb := X.1.2.1; have hml := X.1.2.2.1; have hown := X.1.2.2.2.1; have hts := X.1.2.2.2.2
  have hl : lv_has ls 3 [(0, .ref (ad 20 0)), (1, .int n1), (2, .int n2)] := hl
  have hB0 := hB
  refine lv_aload_n hx hb dX6_slotAgain_0 rfl (lv_at hl 0 rfl) ?_
  refine lv_iload_n hx hb dX6_slotAgain_1 rfl (lv_at hl 1 rfl) ?_
  refine lv_iload_n hx hb dX6_slotAgain_2 rfl (lv_at hl 2 rfl) ?_
  refine r_qi X hw (r_runV X (c_q_slot l G lv ad _ n1 n2 hL hB  _) cy_X6_slot ml_RX6_186 ⟨(Nat.le_of_ble_eq_true rfl), (Nat.le_of_ble_eq_true rfl)⟩ gP.blind (g_recv X hw 20 0 hL.1 rfl rfl) (gP_call X hw _) rfl hl.1 rfl (Nat.le_of_ble_eq_true rfl) dX6_slotAgain_3 ⟨(Nat.le_of_ble_eq_true rfl), (Nat.le_of_ble_eq_true rfl)⟩) (fun H locs hB hw => ?_)
  refine lv_topi (fun x2 ex2 => ?_)
  subst ex2
  exact r_iret X hw hr rfl hlk (Nat.le_of_ble_eq_true rfl) (Nat.le_of_ble_eq_true rfl) (gRE_of (rfl) hB) dX6_slotAgain_6

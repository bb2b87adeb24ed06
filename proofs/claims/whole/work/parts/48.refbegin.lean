def q_save (C : gCT) (n1 : Int32) : gCT :=
  let x1 : Int32 := (q_isRun C n1).1;
  let x7 : Int32 :=
    if x1 = 0 then (
      0
    ) else (
      let x4 : Int32 := C 21 24 n1.toNatClampNeg;
      if x4 = 0 then (
        1
      ) else (
        0
      )
    );
  let x8 : Int32 := if q_thr x1 x7 1 = 0 then 1 else 0;
  let C9 : gCT := cs C 20 0 3 (q_thr x1 x7 1);
  if x8 = 0 then (
    C9
  ) else (
    let C11 : gCT := cs C9 21 24 n1.toNatClampNeg 1;
    C11
  )
set_option maxHeartbeats 4000000 in
set_option maxRecDepth 100000 in
theorem c_q_save (l : Launch) (G : gG) (lv : gLv) (ad : gAd) (C : gCT) (n1 : Int32) (hL : gLM lv) (hB : MBI C)  : gMv l yX6_save cX6_save 2 (gRm 2 42 0 0) G [.ref (ad 20 0), .int n1] lv ad (gF G C ad) (gRv G lv ad MBI (q_save C n1)) := by
  refine r_met (own := RX6) (by decide) rfl (Nat.le_of_ble_eq_true rfl) ?_
  intro p e s m below meth c ls X hw hr hlk _ hl
  have hx := X.1.1; have hb := X.1.2.1; have hml := X.1.2.2.1; have hown := X.1.2.2.2.1; have hts := X.1.2.2.2.2
  have hl : lv_has ls 2 [(0, .ref (ad 20 0)), (1, .int n1)] := hl
  have hB0 := hB
  refine lv_aload_n hx hb dX6_save_0 rfl (lv_at hl 0 rfl) ?_
  refine lv_aload_n hx hb dX6_save_1 rfl (lv_at hl 0 rfl) ?_
  refine lv_iload_n hx hb dX6_save_2 rfl (lv_at hl 1 rfl) ?_
  refine r_qiro X hw (q_isRun_C _ n1) (r_runV X (c_q_isRun l G lv ad _ n1 hL hB  _) cy_X6_isRun ml_RX6_180 ⟨(Nat.le_of_ble_eq_true rfl), (Nat.le_of_ble_eq_true rfl)⟩ gP.blind (g_recv X hw 20 0 hL.1 rfl rfl) (gP_call X hw _) rfl hl.1 rfl (Nat.le_of_ble_eq_true rfl) dX6_save_3 ⟨(Nat.le_of_ble_eq_true rfl), (Nat.le_of_ble_eq_true rfl)⟩) (fun H locs hw => ?_)
  refine lv_topi (fun x1 ex1 => ?_)
  refine lv_aload_n hx hb dX6_save_6 rfl (lv_at hl 0 rfl) ?_
  refine lv_iload_n hx hb dX6_save_7 rfl (lv_at hl 1 rfl) ?_
  refine r_qiro X hw (q_isRun_C _ n1) (r_runV X (c_q_isRun l G lv ad _ n1 hL hB  _) cy_X6_isRun ml_RX6_180 ⟨(Nat.le_of_ble_eq_true rfl), (Nat.le_of_ble_eq_true rfl)⟩ gP.blind (g_recv X hw 20 0 hL.1 rfl rfl) (gP_call X hw _) rfl hl.1 rfl (Nat.le_of_ble_eq_true rfl) dX6_save_8 ⟨(Nat.le_of_ble_eq_true rfl), (Nat.le_of_ble_eq_true rfl)⟩) (fun H locs hw => ?_)
  refine lv_topi (fun x2 ex2 => ?_)
  have ex2 := (ex2).trans ex1.symm; have ex2 := ex2.symm; subst ex2
  refine r_J (nL := 2) (J := 28) (rest := [.int x1, .ref (ad 20 0)]) (L := [(0, .ref (ad 20 0)), (1, .int n1)]) (if x1 = 0 then ( 0 ) else ( let x4 : Int32 := C 21 24 n1.toNatClampNeg; if x4 = 0 then ( 1 ) else ( 0 ) )) (fun x7 ex7 ls hl => ?_) (fun J6 => ?_)
  · refine lv_iconst (v := 1) hx hb dX6_save_28 (by decide) ?_
    refine r_qi X hw (r_runV X (c_q_goes1 l G lv ad _ x1 x7 1 hL hB _) cy_X6_goes ml_RX6_121 ⟨(Nat.le_of_ble_eq_true rfl), (Nat.le_of_ble_eq_true rfl)⟩ gP.blind (g_recv X hw 20 0 hL.1 rfl rfl) (gP_call X hw _) rfl hl.1 rfl (Nat.le_of_ble_eq_true rfl) dX6_save_29 ⟨(Nat.le_of_ble_eq_true rfl), (Nat.le_of_ble_eq_true rfl)⟩) (fun H locs hB hw => ?_)
    dsimp only at hB hw
    refine lv_topi (fun x8 ex8 => ?_)
    have ex8 : x8 = (if q_thr x1 x7 1 = 0 then 1 else 0) := ex8
    refine lv_if_eq (tgt := 42) hx hb dX6_save_32 (by decide) (fun h10 => ?_) (fun h10 => ?_)
    · subst ex8 ex7 ex1
      exact r_vret X hw hr hlk (Nat.le_of_ble_eq_true rfl) (Nat.le_of_ble_eq_true rfl) (gREv_of ((if_pos h10).trans rfl) hB) dX6_save_42
    · obtain ⟨g1, g2, g3⟩ := q_goes_of (a := x1) (b := x7) (c := 1) (by rw [← ex8]; exact h10)
      obtain ⟨pn1, bn1, rn1⟩ := q_isRun_of hB0 (n := n1) (by rw [← ex1]; exact g1)
      refine lv_aload_n hx hb dX6_save_35 rfl (lv_at hl 0 rfl) ?_
      refine r_get X hw 20 _ 24 (hL.1) rfl rfl k_X6 (by decide) fl_RX6_79 dX6_save_36 ?_
      refine lv_iload_n hx hb dX6_save_39 rfl (lv_at hl 1 rfl) ?_
      refine lv_iconst (v := 1) hx hb dX6_save_40 (by decide) ?_
      refine q_iast X hw 24 (hL.2 24 (by decide) (by decide) (by decide)) (j := n1.toNatClampNeg) pn1 (show n1.toNatClampNeg < 24 by omega) dX6_save_41 (fun H locs hw => ?_)
      have hB := MBI.set hB (k := 24) (j := n1.toNatClampNeg) (v := 1) (by decide) (fun h => absurd rfl h)
      subst ex8 ex7 ex1
      exact r_vret X hw hr hlk (Nat.le_of_ble_eq_true rfl) (Nat.le_of_ble_eq_true rfl) (gREv_of ((if_neg h10).trans rfl) hB) dX6_save_42
  · refine lv_if_eq (tgt := 27) hx hb dX6_save_11 (by decide) (fun h3 => ?_) (fun h3 => ?_)
    · refine lv_iconst (v := 0) hx hb dX6_save_27 (by decide) ?_
      exact J6 _ ((if_pos h3).trans rfl).symm _ hl
    · obtain ⟨pn1, bn1, rn1⟩ := q_isRun_of hB0 (n := n1) (by rw [← ex1]; exact h3)
      refine lv_aload_n hx hb dX6_save_14 rfl (lv_at hl 0 rfl) ?_
      refine r_get X hw 20 _ 24 (hL.1) rfl rfl k_X6 (by decide) fl_RX6_79 dX6_save_15 ?_
      refine lv_iload_n hx hb dX6_save_18 rfl (lv_at hl 1 rfl) ?_
      refine q_iald X hw 24 (hL.2 24 (by decide) (by decide) (by decide)) (j := n1.toNatClampNeg) pn1 (show n1.toNatClampNeg < 24 by omega) dX6_save_19 ?_
      refine lv_topi (fun x4 ex4 => ?_)
      refine lv_if_ne (tgt := 27) hx hb dX6_save_20 (by decide) (fun h5 => ?_) (fun h5 => ?_)
      · refine lv_iconst (v := 0) hx hb dX6_save_27 (by decide) ?_
        subst ex4; exact J6 _ ((if_neg h3).trans ((if_neg h5).trans rfl)).symm _ hl
      · refine lv_iconst (v := 1) hx hb dX6_save_23 (by decide) ?_
        refine lv_goto (tgt := 28) hx hb dX6_save_24 (by decide) ?_
        subst ex4; exact J6 _ ((if_neg h3).trans ((if_pos h5).trans rfl)).symm _ hl
def q_leave (C : gCT) (n1 : Int32) : Int32 × gCT :=
  let x1 : Int32 := (q_isRun C n1).1;
  let x7 : Int32 :=
    if x1 = 0 then (
      0
    ) else (
      let x4 : Int32 := C 21 24 n1.toNatClampNeg;
      if 1 < x4 then (
        0
      ) else (
        1
      )
    );
  let x8 : Int32 := if q_thr x1 x7 1 = 0 then 1 else 0;
  let C9 : gCT := cs C 20 0 3 (q_thr x1 x7 1);
  if x8 = 0 then (
    (0, C9)
  ) else (
    let C11 : gCT := cs C9 21 24 n1.toNatClampNeg 6;
    let x12 : Int32 := C 21 26 n1.toNatClampNeg;
    (x12, C11)
  )
set_option maxHeartbeats 4000000 in
set_option maxRecDepth 100000 in
theorem c_q_leave (l : Launch) (G : gG) (lv : gLv) (ad : gAd) (C : gCT) (n1 : Int32) (hL : gLM lv) (hB : MBI C)  : gMi l yX6_leave cX6_leave 2 (some .int) (gRm 2 42 0 0) G [.ref (ad 20 0), .int n1] lv ad (gF G C ad) (gRi G lv ad MBI (q_leave C n1)) := by
  refine r_met (own := RX6) (by decide) rfl (Nat.le_of_ble_eq_true rfl) ?_
  intro p e s m below meth c ls X hw hr hlk _ hl
  have hx := X.1.1; have hb := X.1.2.1; have hml := X.1.2.2.1; have hown := X.1.2.2.2.1; have hts := X.1.2.2.2.2
  have hl : lv_has ls 2 [(0, .ref (ad 20 0)), (1, .int n1)] := hl
  have hB0 := hB
  refine lv_aload_n hx hb dX6_leave_0 rfl (lv_at hl 0 rfl) ?_
  refine lv_aload_n hx hb dX6_leave_1 rfl (lv_at hl 0 rfl) ?_
  refine lv_iload_n hx hb dX6_leave_2 rfl (lv_at hl 1 rfl) ?_
  refine r_qiro X hw (q_isRun_C _ n1) (r_runV X (c_q_isRun l G lv ad _ n1 hL hB  _) cy_X6_isRun ml_RX6_180 ⟨(Nat.le_of_ble_eq_true rfl), (Nat.le_of_ble_eq_true rfl)⟩ gP.blind (g_recv X hw 20 0 hL.1 rfl rfl) (gP_call X hw _) rfl hl.1 rfl (Nat.le_of_ble_eq_true rfl) dX6_leave_3 ⟨(Nat.le_of_ble_eq_true rfl), (Nat.le_of_ble_eq_true rfl)⟩) (fun H locs hw => ?_)
  refine lv_topi (fun x1 ex1 => ?_)
  refine lv_aload_n hx hb dX6_leave_6 rfl (lv_at hl 0 rfl) ?_
  refine lv_iload_n hx hb dX6_leave_7 rfl (lv_at hl 1 rfl) ?_
  refine r_qiro X hw (q_isRun_C _ n1) (r_runV X (c_q_isRun l G lv ad _ n1 hL hB  _) cy_X6_isRun ml_RX6_180 ⟨(Nat.le_of_ble_eq_true rfl), (Nat.le_of_ble_eq_true rfl)⟩ gP.blind (g_recv X hw 20 0 hL.1 rfl rfl) (gP_call X hw _) rfl hl.1 rfl (Nat.le_of_ble_eq_true rfl) dX6_leave_8 ⟨(Nat.le_of_ble_eq_true rfl), (Nat.le_of_ble_eq_true rfl)⟩) (fun H locs hw => ?_)
  refine lv_topi (fun x2 ex2 => ?_)
  have ex2 := (ex2).trans ex1.symm; have ex2 := ex2.symm; subst ex2
  refine r_J (nL := 2) (J := 29) (rest := [.int x1, .ref (ad 20 0)]) (L := [(0, .ref (ad 20 0)), (1, .int n1)]) (if x1 = 0 then ( 0 ) else ( let x4 : Int32 := C 21 24 n1.toNatClampNeg; if 1 < x4 then ( 0 ) else ( 1 ) )) (fun x7 ex7 ls hl => ?_) (fun J6 => ?_)
  · refine lv_iconst (v := 1) hx hb dX6_leave_29 (by decide) ?_
    refine r_qi X hw (r_runV X (c_q_goes1 l G lv ad _ x1 x7 1 hL hB _) cy_X6_goes ml_RX6_121 ⟨(Nat.le_of_ble_eq_true rfl), (Nat.le_of_ble_eq_true rfl)⟩ gP.blind (g_recv X hw 20 0 hL.1 rfl rfl) (gP_call X hw _) rfl hl.1 rfl (Nat.le_of_ble_eq_true rfl) dX6_leave_30 ⟨(Nat.le_of_ble_eq_true rfl), (Nat.le_of_ble_eq_true rfl)⟩) (fun H locs hB hw => ?_)
    dsimp only at hB hw
    refine lv_topi (fun x8 ex8 => ?_)
    have ex8 : x8 = (if q_thr x1 x7 1 = 0 then 1 else 0) := ex8
    refine lv_if_ne (tgt := 38) hx hb dX6_leave_33 (by decide) (fun h10 => ?_) (fun h10 => ?_)
    · obtain ⟨g1, g2, g3⟩ := q_goes_of (a := x1) (b := x7) (c := 1) (by rw [← ex8]; exact h10)
      obtain ⟨pn1, bn1, rn1⟩ := q_isRun_of hB0 (n := n1) (by rw [← ex1]; exact g1)
      refine lv_aload_n hx hb dX6_leave_38 rfl (lv_at hl 0 rfl) ?_
      refine r_get X hw 20 _ 24 (hL.1) rfl rfl k_X6 (by decide) fl_RX6_79 dX6_leave_39 ?_
      refine lv_iload_n hx hb dX6_leave_42 rfl (lv_at hl 1 rfl) ?_
      refine lv_bipush (v := 6) hx hb dX6_leave_43 (by decide) ?_
      refine q_iast X hw 24 (hL.2 24 (by decide) (by decide) (by decide)) (j := n1.toNatClampNeg) pn1 (show n1.toNatClampNeg < 24 by omega) dX6_leave_45 (fun H locs hw => ?_)
      have hB := MBI.set hB (k := 24) (j := n1.toNatClampNeg) (v := 6) (by decide) (fun h => absurd rfl h)
      refine lv_aload_n hx hb dX6_leave_46 rfl (lv_at hl 0 rfl) ?_
      refine r_get X hw 20 _ 26 (hL.1) rfl rfl k_X6 (by decide) fl_RX6_85 dX6_leave_47 ?_
      refine lv_iload_n hx hb dX6_leave_50 rfl (lv_at hl 1 rfl) ?_
      refine q_iald X hw 26 (hL.2 26 (by decide) (by decide) (by decide)) (j := n1.toNatClampNeg) pn1 (show n1.toNatClampNeg < 24 by omega) dX6_leave_51 ?_
      refine lv_topi (fun x12 ex12 => ?_)
      have ex12 := ex12.trans ((congrFun (cs_n _ _ _ _ (by decide)) _).trans (congrFun (congrFun (cs_k _ _ _ _ (by decide)) _) _))
      subst ex12 ex8 ex7 ex1
      exact r_iret X hw hr rfl hlk (Nat.le_of_ble_eq_true rfl) (Nat.le_of_ble_eq_true rfl) (gRE_of ((if_neg h10).trans rfl) hB) dX6_leave_52
    · refine lv_iconst (v := 0) hx hb dX6_leave_36 (by decide) ?_
      subst ex8 ex7 ex1
      exact r_iret X hw hr rfl hlk (Nat.le_of_ble_eq_true rfl) (Nat.le_of_ble_eq_true rfl) (gRE_of ((if_pos h10).trans rfl) hB) dX6_leave_37
  · refine lv_if_eq (tgt := 28) hx hb dX6_leave_11 (by decide) (fun h3 => ?_) (fun h3 => ?_)
    · refine lv_iconst (v := 0) hx hb dX6_leave_28 (by decide) ?_
      exact J6 _ ((if_pos h3).trans rfl).symm _ hl
    · obtain ⟨pn1, bn1, rn1⟩ := q_isRun_of hB0 (n := n1) (by rw [← ex1]; exact h3)
      refine lv_aload_n hx hb dX6_leave_14 rfl (lv_at hl 0 rfl) ?_
      refine r_get X hw 20 _ 24 (hL.1) rfl rfl k_X6 (by decide) fl_RX6_79 dX6_leave_15 ?_
      refine lv_iload_n hx hb dX6_leave_18 rfl (lv_at hl 1 rfl) ?_
      refine q_iald X hw 24 (hL.2 24 (by decide) (by decide) (by decide)) (j := n1.toNatClampNeg) pn1 (show n1.toNatClampNeg < 24 by omega) dX6_leave_19 ?_
      refine lv_topi (fun x4 ex4 => ?_)
      refine lv_iconst (v := 1) hx hb dX6_leave_20 (by decide) ?_
      refine lv_icmp_gt (tgt := 28) hx hb dX6_leave_21 (by decide) (fun h5 => ?_) (fun h5 => ?_)
      · refine lv_iconst (v := 0) hx hb dX6_leave_28 (by decide) ?_
        subst ex4; exact J6 _ ((if_neg h3).trans ((if_pos h5).trans rfl)).symm _ hl
      · refine lv_iconst (v := 1) hx hb dX6_leave_24 (by decide) ?_
        refine lv_goto (tgt := 29) hx hb dX6_leave_25 (by decide) ?_
        subst ex4; exact J6 _ ((if_neg h3).trans ((if_neg h5).trans rfl)).symm _ hl
def q_write (C : gCT) (n1 n2 n3 : Int32) : Int32 × gCT :=
  let x1 : Int32 := q_isBelow n1 4;
  let x2 : Int32 := q_isFit n2 n3;
  let x7 : Int32 :=
    if x1 = 0 then (
      0
    ) else (
      let x4 : Int32 := C 21 2 n1.toNatClampNeg;
      if 24 ≤ x4 then (
        0
      ) else (
        1
      )
    );
  let x8 : Int32 := if q_thr x1 x2 x7 = 0 then 1 else 0;
  let C9 : gCT := cs C 20 0 3 (q_thr x1 x2 x7);
  if x8 = 0 then (
    (0, C9)
  ) else (
    let x11 : Int32 := C 21 2 n1.toNatClampNeg;
    let C12 : gCT := cs C9 21 0 ((24 * n1.toNatClampNeg) + x11.toNatClampNeg) n2;
    let C13 : gCT := cs C12 21 1 ((24 * n1.toNatClampNeg) + x11.toNatClampNeg) n3;
    let C15 : gCT := cs C13 21 2 n1.toNatClampNeg (x11 + 1);
    (x11 + 1, C15)
  )
set_option maxHeartbeats 4000000 in
set_option maxRecDepth 100000 in
theorem c_q_write (l : Launch) (G : gG) (lv : gLv) (ad : gAd) (C : gCT) (n1 n2 n3 : Int32) (hL : gLM lv) (hB : MBI C)  : gMi l yX6_write cX6_write 6 (some .int) (gRm 2 45 0 0) G [.ref (ad 20 0), .int n1, .int n2, .int n3] lv ad (gF G C ad) (gRi G lv ad MBI (q_write C n1 n2 n3)) := by
  refine r_met (own := RX6) (by decide) rfl (Nat.le_of_ble_eq_true rfl) ?_
  intro p e s m below meth c ls X hw hr hlk _ hl
  have hx := X.1.1; have hb := X.1.2.1; have hml := X.1.2.2.1; have hown := X.1.2.2.2.1; have hts := X.1.2.2.2.2
  have hl : lv_has ls 6 [(0, .ref (ad 20 0)), (1, .int n1), (2, .int n2), (3, .int n3)] := hl
  have hB0 := hB
  refine lv_iload_n hx hb dX6_write_0 rfl (lv_at hl 1 rfl) ?_
  refine lv_iconst (v := 4) hx hb dX6_write_1 (by decide) ?_
  refine r_rp (r_runS X (c_q_isBelow l n1 4) cy_X6_isBelow ml_RX6_114 ⟨(Nat.le_of_ble_eq_true rfl), (Nat.le_of_ble_eq_true rfl)⟩ gPc_blind (fun _ _ _ => ⟨rfl, trivial⟩) rfl hl.1 rfl (Nat.le_of_ble_eq_true rfl) dX6_write_2 ⟨(Nat.le_of_ble_eq_true rfl), (Nat.le_of_ble_eq_true rfl)⟩) ?_
  refine lv_topi (fun x1 ex1 => ?_)
  refine lv_istore (lv' := [(4, .int x1), (0, .ref (ad 20 0)), (1, .int n1), (2, .int n2), (3, .int n3)]) hx hb dX6_write_5 hl (by decide) rfl (fun ls hl => ?_)
  refine lv_aload_n hx hb dX6_write_7 rfl (lv_at hl 1 rfl) ?_
  refine lv_iload hx hb dX6_write_8 (lv_at hl 0 rfl) ?_
  refine lv_iload_n hx hb dX6_write_10 rfl (lv_at hl 3 rfl) ?_
  refine lv_iload_n hx hb dX6_write_11 rfl (lv_at hl 4 rfl) ?_
  refine r_rp (r_runS X (c_q_isFit l n2 n3) cy_X6_isFit ml_RX6_118 ⟨(Nat.le_of_ble_eq_true rfl), (Nat.le_of_ble_eq_true rfl)⟩ gPc_blind (fun _ _ _ => ⟨rfl, trivial⟩) rfl hl.1 rfl (Nat.le_of_ble_eq_true rfl) dX6_write_12 ⟨(Nat.le_of_ble_eq_true rfl), (Nat.le_of_ble_eq_true rfl)⟩) ?_
  refine lv_topi (fun x2 ex2 => ?_)
  refine lv_iload hx hb dX6_write_15 (lv_at hl 0 rfl) ?_
  refine r_J (nL := 6) (J := 36) (rest := [.int x2, .int x1, .ref (ad 20 0)]) (L := [(4, .int x1), (0, .ref (ad 20 0)), (1, .int n1), (2, .int n2), (3, .int n3)]) (if x1 = 0 then ( 0 ) else ( let x4 : Int32 := C 21 2 n1.toNatClampNeg; if 24 ≤ x4 then ( 0 ) else ( 1 ) )) (fun x7 ex7 ls hl => ?_) (fun J6 => ?_)
  · refine r_qi X hw (r_runV X (c_q_goes1 l G lv ad _ x1 x2 x7 hL hB _) cy_X6_goes ml_RX6_121 ⟨(Nat.le_of_ble_eq_true rfl), (Nat.le_of_ble_eq_true rfl)⟩ gP.blind (g_recv X hw 20 0 hL.1 rfl rfl) (gP_call X hw _) rfl hl.1 rfl (Nat.le_of_ble_eq_true rfl) dX6_write_36 ⟨(Nat.le_of_ble_eq_true rfl), (Nat.le_of_ble_eq_true rfl)⟩) (fun H locs hB hw => ?_)
    dsimp only at hB hw
    refine lv_topi (fun x8 ex8 => ?_)
    have ex8 : x8 = (if q_thr x1 x2 x7 = 0 then 1 else 0) := ex8
    refine lv_if_ne (tgt := 44) hx hb dX6_write_39 (by decide) (fun h10 => ?_) (fun h10 => ?_)
    · obtain ⟨g1, g2, g3⟩ := q_goes_of (a := x1) (b := x2) (c := x7) (by rw [← ex8]; exact h10)
      obtain ⟨pn1, bn1⟩ := q_isBelow_of (x := n1) (n := 4) (N := 4) rfl (by decide) (by rw [← ex1]; exact g1)
      have hf := q_isFit_of (w := n2) (a := n3) (by rw [← ex2]; exact g2)
      have q3 : ¬ (24 : Int32) ≤ C 21 2 n1.toNatClampNeg := fun q => g3 (by rw [ex7, if_neg g1]; exact if_pos q)
      refine lv_bipush (v := 24) hx hb dX6_write_44 (by decide) ?_
      refine lv_iload_n hx hb dX6_write_46 rfl (lv_at hl 2 rfl) ?_
      refine lv_imul hx hb dX6_write_47 ?_
      refine lv_aload_n hx hb dX6_write_48 rfl (lv_at hl 1 rfl) ?_
      refine r_get X hw 20 _ 2 (hL.1) rfl rfl k_X6 (by decide) fl_RX6_16 dX6_write_49 ?_
      refine lv_iload_n hx hb dX6_write_52 rfl (lv_at hl 2 rfl) ?_
      refine q_iald X hw 2 (hL.2 2 (by decide) (by decide) (by decide)) (j := n1.toNatClampNeg) pn1 (show n1.toNatClampNeg < 4 by omega) dX6_write_53 ?_
      refine lv_topi (fun x11 ex11 => ?_)
      obtain ⟨px11, bx11⟩ := MBI.get hB 2 n1.toNatClampNeg (show n1.toNatClampNeg < 4 by omega) (by decide) ex11
      have bx11 : x11.toNatClampNeg < 25 := bx11
      have ex11 := ex11.trans (congrFun (congrFun (cs_k _ _ _ _ (by decide)) _) _)
      rw [← ex11] at q3; have nq : x11.toNatClampNeg < 24 := Nat.not_le.mp ((not_congr (nat_le (show (24 : Int32) = nI 24 from rfl) px11 (by decide) (by omega))).mp q3)
      refine lv_iadd hx hb dX6_write_54 ?_
      refine lv_istore (lv' := [(5, .int ((24 * n1) + x11)), (4, .int x1), (0, .ref (ad 20 0)), (1, .int n1), (2, .int n2), (3, .int n3)]) hx hb dX6_write_55 hl (by decide) rfl (fun ls hl => ?_)
      refine lv_aload_n hx hb dX6_write_57 rfl (lv_at hl 2 rfl) ?_
      refine r_get X hw 20 _ 0 (hL.1) rfl rfl k_X6 (by decide) fl_RX6_7 dX6_write_58 ?_
      refine lv_iload hx hb dX6_write_61 (lv_at hl 0 rfl) ?_
      refine lv_iload_n hx hb dX6_write_63 rfl (lv_at hl 4 rfl) ?_
      refine q_iast X hw 0 (hL.2 0 (by decide) (by decide) (by decide)) (j := ((24 * n1.toNatClampNeg) + x11.toNatClampNeg)) (nat_add (nat_mul (show (24 : Int32) = nI 24 from rfl) pn1) px11) (show ((24 * n1.toNatClampNeg) + x11.toNatClampNeg) < 96 by omega) dX6_write_64 (fun H locs hw => ?_)
      refine lv_aload_n hx hb dX6_write_65 rfl (lv_at hl 2 rfl) ?_
      refine r_get X hw 20 _ 1 (hL.1) rfl rfl k_X6 (by decide) fl_RX6_13 dX6_write_66 ?_
      refine lv_iload hx hb dX6_write_69 (lv_at hl 0 rfl) ?_
      refine lv_iload_n hx hb dX6_write_71 rfl (lv_at hl 5 rfl) ?_
      refine q_iast X hw 1 (hL.2 1 (by decide) (by decide) (by decide)) (j := ((24 * n1.toNatClampNeg) + x11.toNatClampNeg)) (nat_add (nat_mul (show (24 : Int32) = nI 24 from rfl) pn1) px11) (show ((24 * n1.toNatClampNeg) + x11.toNatClampNeg) < 96 by omega) dX6_write_72 (fun H locs hw => ?_)
      have hB := MBI.set2 hB (k := 0) (j := ((24 * n1.toNatClampNeg) + x11.toNatClampNeg)) (Or.inl rfl) hf
      refine lv_aload_n hx hb dX6_write_73 rfl (lv_at hl 2 rfl) ?_
      refine r_get X hw 20 _ 2 (hL.1) rfl rfl k_X6 (by decide) fl_RX6_16 dX6_write_74 ?_
      refine lv_iload_n hx hb dX6_write_77 rfl (lv_at hl 3 rfl) ?_
      refine lv_dup2_11 hx hb dX6_write_78 rfl rfl ?_
      refine q_iald X hw 2 (hL.2 2 (by decide) (by decide) (by decide)) (j := n1.toNatClampNeg) pn1 (show n1.toNatClampNeg < 4 by omega) dX6_write_79 ?_
      refine lv_topi (fun x14 ex14 => ?_)
      have ex14 := (ex14.trans ((congrFun (cs_n _ _ _ _ (by decide)) _).trans ((congrFun (cs_n _ _ _ _ (by decide)) _).trans (congrFun (congrFun (cs_k _ _ _ _ (by decide)) _) _)))).trans ex11.symm; have ex14 := ex14.symm; subst ex14
      refine lv_iconst (v := 1) hx hb dX6_write_80 (by decide) ?_
      refine lv_iadd hx hb dX6_write_81 ?_
      refine q_iast X hw 2 (hL.2 2 (by decide) (by decide) (by decide)) (j := n1.toNatClampNeg) pn1 (show n1.toNatClampNeg < 4 by omega) dX6_write_82 (fun H locs hw => ?_)
      have hB := MBI.set hB (k := 2) (j := n1.toNatClampNeg) (v := x11 + 1) (by decide) (fun _ => ⟨(x11.toNatClampNeg + 1), by show _ < 25; omega, (nat_add px11 (show (1 : Int32) = nI 1 from rfl))⟩)
      refine lv_aload_n hx hb dX6_write_83 rfl (lv_at hl 2 rfl) ?_
      refine r_get X hw 20 _ 2 (hL.1) rfl rfl k_X6 (by decide) fl_RX6_16 dX6_write_84 ?_
      refine lv_iload_n hx hb dX6_write_87 rfl (lv_at hl 3 rfl) ?_
      refine q_iald X hw 2 (hL.2 2 (by decide) (by decide) (by decide)) (j := n1.toNatClampNeg) pn1 (show n1.toNatClampNeg < 4 by omega) dX6_write_88 ?_
      refine lv_topi (fun x16 ex16 => ?_)
      have ex16 := ex16.trans (cs_s _ _ _ _ _); subst ex16
      subst ex11 ex8 ex7 ex2 ex1
      exact r_iret X hw hr rfl hlk (Nat.le_of_ble_eq_true rfl) (Nat.le_of_ble_eq_true rfl) (gRE_of ((if_neg h10).trans rfl) hB) dX6_write_89
    · refine lv_iconst (v := 0) hx hb dX6_write_42 (by decide) ?_
      subst ex8 ex7 ex2 ex1
      exact r_iret X hw hr rfl hlk (Nat.le_of_ble_eq_true rfl) (Nat.le_of_ble_eq_true rfl) (gRE_of ((if_pos h10).trans rfl) hB) dX6_write_43
  · refine lv_if_eq (tgt := 35) hx hb dX6_write_17 (by decide) (fun h3 => ?_) (fun h3 => ?_)
    · refine lv_iconst (v := 0) hx hb dX6_write_35 (by decide) ?_
      exact J6 _ ((if_pos h3).trans rfl).symm _ hl
    · obtain ⟨pn1, bn1⟩ := q_isBelow_of (x := n1) (n := 4) (N := 4) rfl (by decide) (by rw [← ex1]; exact h3)
      refine lv_aload_n hx hb dX6_write_20 rfl (lv_at hl 1 rfl) ?_
      refine r_get X hw 20 _ 2 (hL.1) rfl rfl k_X6 (by decide) fl_RX6_16 dX6_write_21 ?_
      refine lv_iload_n hx hb dX6_write_24 rfl (lv_at hl 2 rfl) ?_
      refine q_iald X hw 2 (hL.2 2 (by decide) (by decide) (by decide)) (j := n1.toNatClampNeg) pn1 (show n1.toNatClampNeg < 4 by omega) dX6_write_25 ?_
      refine lv_topi (fun x4 ex4 => ?_)
      obtain ⟨px4, bx4⟩ := MBI.get hB 2 n1.toNatClampNeg (show n1.toNatClampNeg < 4 by omega) (by decide) ex4
      have bx4 : x4.toNatClampNeg < 25 := bx4
      refine lv_bipush (v := 24) hx hb dX6_write_26 (by decide) ?_
      refine lv_icmp_ge (tgt := 35) hx hb dX6_write_28 (by decide) (fun h5 => ?_) (fun h5 => ?_)
      · have nh5 := (nat_le (show (24 : Int32) = nI 24 from rfl) px4 (by omega) (by omega)).mp h5
        refine lv_iconst (v := 0) hx hb dX6_write_35 (by decide) ?_
        subst ex4; exact J6 _ ((if_neg h3).trans ((if_pos h5).trans rfl)).symm _ hl
      · have nh5 := (not_congr (nat_le (show (24 : Int32) = nI 24 from rfl) px4 (by omega) (by omega))).mp h5
        refine lv_iconst (v := 1) hx hb dX6_write_31 (by decide) ?_
        refine lv_goto (tgt := 36) hx hb dX6_write_32 (by decide) ?_
        subst ex4; exact J6 _ ((if_neg h3).trans ((if_neg h5).trans rfl)).symm _ hl
def q_are (n1 n2 : Int32) : Int32 := if q_isBelow n1 16 = 0 then 0 else if q_isBelow n2 4 = 0 then 0 else 1
theorem q_are_of {n1 n2 : Int32} (h : ¬ q_are n1 n2 = 0) : (n1 = nI n1.toNatClampNeg ∧ n1.toNatClampNeg < 16) ∧ n2 = nI n2.toNatClampNeg ∧ n2.toNatClampNeg < 4 := by
  obtain ⟨g5, g6⟩ := and2_of (a := q_isBelow n1 16) (b := q_isBelow n2 4) h
  exact ⟨q_isBelow_of (N := 16) rfl (by decide) g5, q_isBelow_of (N := 4) rfl (by decide) g6⟩
def q_begin_L (n0 : Nat) (C : gCT) (n1 n2 : Int32) (ar : Int32) (hs : Int32) (k : Nat) : Int32 × gCT := match n0 with
  | 0 => (0, C)
  | n0 + 1 =>
    let x101 : Int32 := C 20 0 1;
    if x101 ≤ (nI k) then (
      let x110 : Int32 :=
        if ar = 0 then (
          0
        ) else (
          let x104 : Int32 := C 21 6 n2.toNatClampNeg;
          if x104 ≤ 0 then (
            0
          ) else (
            if hs = 0 then (
              if 24 ≤ x101 then (
                0
              ) else (
                1
              )
            ) else (
              0
            )
          )
        );
      let x111 : Int32 := if q_thr ar x110 1 = 0 then 1 else 0;
      let C112 : gCT := cs C 20 0 3 (q_thr ar x110 1);
      if x111 = 0 then (
        (0, C112)
      ) else (
        let C115 : gCT := cs C112 21 15 x101.toNatClampNeg n1;
        let C117 : gCT := cs C115 21 16 x101.toNatClampNeg n2;
        let C119 : gCT := cs C117 21 25 x101.toNatClampNeg (-1);
        let C121 : gCT := cs C119 20 0 1 (x101 + 1);
        let C123 : gCT := q_starts C121 ((x101.toNatClampNeg + 1) - 1);
        let x124 : Int32 := C123 20 0 1;
        (x124 - 1, C123)
      )
    ) else (
      let x131 : Int32 :=
        if hs = 0 then (
          let x126 : Int32 := C 21 15 k;
          if x126 = n1 then (
            let x128 : Int32 := C 21 16 k;
            if x128 = n2 then (
              1
            ) else (
              0
            )
          ) else (
            0
          )
        ) else (
          1
        );
      q_begin_L n0 C n1 n2 ar x131 (k + 1)
    )
def q_begin (C : gCT) (n1 n2 : Int32) : Int32 × gCT :=
  let x1 : Int32 := q_isBelow n1 16;
  let x6 : Int32 :=
    if x1 = 0 then (
      0
    ) else (
      let x3 : Int32 := q_isBelow n2 4;
      if x3 = 0 then (
        0
      ) else (
        1
      )
    );
  q_begin_L 25 C n1 n2 x6 0 0
set_option maxHeartbeats 4000000 in
set_option maxRecDepth 100000 in
theorem c_q_begin (l : Launch) (G : gG) (lv : gLv) (ad : gAd) (C : gCT) (n1 n2 : Int32) (hL : gLM lv) (hB : MBI C)  : gMi l yX6_begin cX6_begin 6 (some .int) (gRm 6 138 0 0) G [.ref (ad 20 0), .int n1, .int n2] lv ad (gF G C ad) (gRi G lv ad MBI (q_begin C n1 n2)) := by
  refine r_met (own := RX6) (by decide) rfl (Nat.le_of_ble_eq_true rfl) ?_
  intro p e s m below meth c ls X hw hr hlk _ hl
  have hx := X.1.1; have hb := X.1.2.1; have hml := X.1.2.2.1; have hown := X.1.2.2.2.1; have hts := X.1.2.2.2.2
  have hl : lv_has ls 6 [(0, .ref (ad 20 0)), (1, .int n1), (2, .int n2)] := hl
  have hB0 := hB
  have L_q_begin_L : ∀ (n0 : Nat) (ar : Int32) (hs : Int32) (k : Nat), MBI C → (ar = q_are n1 n2 ∧ k ≤ (C 20 0 1).toNatClampNeg ∧ (C 20 0 1).toNatClampNeg < k + n0) → ∀ (H : Heap) (locs : List Loc), gW G (gA lv ad s.heap.size) s.heap H locs lv ad (gF G C ad) → ∀ ls : Array Slot, lv_has ls 6 [(0, .ref (ad 20 0)), (1, .int n1), (2, .int n2), (3, .int ar), (4, .int hs), (5, .int (nI k))] → W p l e (gRm 6 138 0 0) s m ([.ref (ad 20 0), .int n1, .int n2] : List Value).toArray below meth c H locs 0 0 (MQ below (gQi G (gA lv ad s.heap.size) (gRi G lv ad MBI (q_begin_L n0 C n1 n2 ar hs k))) ([.ref (ad 20 0), .int n1, .int n2] : List Value).toArray s (gRm 6 138 0 0).cells (gRm 6 138 0 0).slots (gA lv ad s.heap.size)) (F0 m 29 ls []) := by
    intro n0
    induction n0 with
    | zero => intro ar hs k _ hinv; exact absurd hinv (by rintro ⟨-, h1, h2⟩; omega)
    | succ n0 ih =>
      intro ar hs k hB hinv H locs hw ls hl
      obtain ⟨hi0, hi1, hi2⟩ := hinv; have hB0 := hB; have hi3 := (hB.runs (x := C 20 0 1) rfl).2
      refine lv_iload hx hb dX6_begin_29 (lv_at hl 5 rfl) ?_
      refine lv_aload_n hx hb dX6_begin_31 rfl (lv_at hl 0 rfl) ?_
      refine r_get X hw 20 _ 29 (hL.1) rfl rfl k_X6 (by decide) fl_RX6_174 dX6_begin_32 ?_
      refine lv_topi (fun x101 ex101 => ?_)
      obtain ⟨px101, bx101⟩ := MBI.runs hB ex101
      refine lv_icmp_ge (tgt := 78) hx hb dX6_begin_35 (by decide) (fun h102 => ?_) (fun h102 => ?_)
      · have nh102 := (nat_le px101 rfl (by omega) (by omega)).mp h102
        refine lv_aload_n hx hb dX6_begin_78 rfl (lv_at hl 0 rfl) ?_
        refine lv_iload_n hx hb dX6_begin_79 rfl (lv_at hl 3 rfl) ?_
        refine lv_iload_n hx hb dX6_begin_80 rfl (lv_at hl 3 rfl) ?_
        refine r_J (nL := 6) (J := 112) (rest := [.int ar, .ref (ad 20 0)]) (L := [(0, .ref (ad 20 0)), (1, .int n1), (2, .int n2), (3, .int ar), (4, .int hs), (5, .int (nI k))]) (if ar = 0 then ( 0 ) else ( let x104 : Int32 := C 21 6 n2.toNatClampNeg; if x104 ≤ 0 then ( 0 ) else ( if hs = 0 then ( if 24 ≤ x101 then ( 0 ) else ( 1 ) ) else ( 0 ) ) )) (fun x110 ex110 ls hl => ?_) (fun J109 => ?_)
        · refine lv_iconst (v := 1) hx hb dX6_begin_112 (by decide) ?_
          refine r_qi X hw (r_runV X (c_q_goes1 l G lv ad _ ar x110 1 hL hB _) cy_X6_goes ml_RX6_121 ⟨(Nat.le_of_ble_eq_true rfl), (Nat.le_of_ble_eq_true rfl)⟩ gP.blind (g_recv X hw 20 0 hL.1 rfl rfl) (gP_call X hw _) rfl hl.1 rfl (Nat.le_of_ble_eq_true rfl) dX6_begin_113 ⟨(Nat.le_of_ble_eq_true rfl), (Nat.le_of_ble_eq_true rfl)⟩) (fun H locs hB hw => ?_)
          dsimp only at hB hw
          refine lv_topi (fun x111 ex111 => ?_)
          have ex111 : x111 = (if q_thr ar x110 1 = 0 then 1 else 0) := ex111
          refine lv_if_ne (tgt := 121) hx hb dX6_begin_116 (by decide) (fun h113 => ?_) (fun h113 => ?_)
          · obtain ⟨g1, g2, g3⟩ := q_goes_of (a := ar) (b := x110) (c := 1) (by rw [← ex111]; exact h113)
            obtain ⟨⟨pn1, bn1⟩, pn2, bn2⟩ := q_are_of (n1 := n1) (n2 := n2) (by rw [← hi0]; exact g1)
            have hv0 : ¬ C 21 6 n2.toNatClampNeg ≤ 0 := fun q => g2 (by rw [ex110, if_neg g1]; exact if_pos q)
            have hh0 : hs = 0 := Decidable.byContradiction (fun q => g2 (by rw [ex110, if_neg g1]; exact (if_neg hv0).trans (if_neg q)))
            have hr0 : ¬ (24 : Int32) ≤ x101 := fun q => g2 (by rw [ex110, if_neg g1]; exact (if_neg hv0).trans ((if_pos hh0).trans (if_pos q)))
            refine lv_aload_n hx hb dX6_begin_121 rfl (lv_at hl 0 rfl) ?_
            refine r_get X hw 20 _ 15 (hL.1) rfl rfl k_X6 (by decide) fl_RX6_52 dX6_begin_122 ?_
            refine lv_aload_n hx hb dX6_begin_125 rfl (lv_at hl 0 rfl) ?_
            refine r_get X hw 20 _ 29 (hL.1) rfl rfl k_X6 (by decide) fl_RX6_174 dX6_begin_126 ?_
            refine lv_topi (fun x114 ex114 => ?_)
            have ex114 := (ex114.trans (cs_o _ _ _ _ (by decide))).trans ex101.symm; have ex114 := ex114.symm; subst ex114
            have nq : x101.toNatClampNeg < 24 := Nat.not_le.mp ((not_congr (nat_le (show (24 : Int32) = nI 24 from rfl) px101 (by decide) (by omega))).mp hr0)
            refine lv_iload_n hx hb dX6_begin_129 rfl (lv_at hl 1 rfl) ?_
            refine q_iast X hw 15 (hL.2 15 (by decide) (by decide) (by decide)) (j := x101.toNatClampNeg) px101 (show x101.toNatClampNeg < 24 by omega) dX6_begin_130 (fun H locs hw => ?_)
            have hB := MBI.set hB (k := 15) (j := x101.toNatClampNeg) (v := n1) (by decide) (fun _ => ⟨n1.toNatClampNeg, by show _ < 16; omega, pn1⟩)
            refine lv_aload_n hx hb dX6_begin_131 rfl (lv_at hl 0 rfl) ?_
            refine r_get X hw 20 _ 16 (hL.1) rfl rfl k_X6 (by decide) fl_RX6_55 dX6_begin_132 ?_
            refine lv_aload_n hx hb dX6_begin_135 rfl (lv_at hl 0 rfl) ?_
            refine r_get X hw 20 _ 29 (hL.1) rfl rfl k_X6 (by decide) fl_RX6_174 dX6_begin_136 ?_
            refine lv_topi (fun x116 ex116 => ?_)
            have ex116 := (ex116.trans ((congrFun (congrFun (cs_k _ _ _ _ (by decide)) _) _).trans (cs_o _ _ _ _ (by decide)))).trans ex101.symm; have ex116 := ex116.symm; subst ex116
            refine lv_iload_n hx hb dX6_begin_139 rfl (lv_at hl 2 rfl) ?_
            refine q_iast X hw 16 (hL.2 16 (by decide) (by decide) (by decide)) (j := x101.toNatClampNeg) px101 (show x101.toNatClampNeg < 24 by omega) dX6_begin_140 (fun H locs hw => ?_)
            have hB := MBI.set hB (k := 16) (j := x101.toNatClampNeg) (v := n2) (by decide) (fun _ => ⟨n2.toNatClampNeg, by show _ < 4; omega, pn2⟩)
            refine lv_aload_n hx hb dX6_begin_141 rfl (lv_at hl 0 rfl) ?_
            refine r_get X hw 20 _ 25 (hL.1) rfl rfl k_X6 (by decide) fl_RX6_82 dX6_begin_142 ?_
            refine lv_aload_n hx hb dX6_begin_145 rfl (lv_at hl 0 rfl) ?_
            refine r_get X hw 20 _ 29 (hL.1) rfl rfl k_X6 (by decide) fl_RX6_174 dX6_begin_146 ?_
            refine lv_topi (fun x118 ex118 => ?_)
            have ex118 := (ex118.trans ((congrFun (congrFun (cs_k _ _ _ _ (by decide)) _) _).trans ((congrFun (congrFun (cs_k _ _ _ _ (by decide)) _) _).trans (cs_o _ _ _ _ (by decide))))).trans ex101.symm; have ex118 := ex118.symm; subst ex118
            refine lv_iconst (v := (-1)) hx hb dX6_begin_149 (by decide) ?_
            refine q_iast X hw 25 (hL.2 25 (by decide) (by decide) (by decide)) (j := x101.toNatClampNeg) px101 (show x101.toNatClampNeg < 24 by omega) dX6_begin_150 (fun H locs hw => ?_)
            have hB := MBI.set hB (k := 25) (j := x101.toNatClampNeg) (v := (-1)) (by decide) (fun h => absurd rfl h)
            refine lv_aload_n hx hb dX6_begin_151 rfl (lv_at hl 0 rfl) ?_
            refine lv_dup hx hb dX6_begin_152 rfl ?_
            refine r_get X hw 20 _ 29 (hL.1) rfl rfl k_X6 (by decide) fl_RX6_174 dX6_begin_153 ?_
            refine lv_topi (fun x120 ex120 => ?_)
            have ex120 := (ex120.trans ((congrFun (congrFun (cs_k _ _ _ _ (by decide)) _) _).trans ((congrFun (congrFun (cs_k _ _ _ _ (by decide)) _) _).trans ((congrFun (congrFun (cs_k _ _ _ _ (by decide)) _) _).trans (cs_o _ _ _ _ (by decide)))))).trans ex101.symm; have ex120 := ex120.symm; subst ex120
            refine lv_iconst (v := 1) hx hb dX6_begin_156 (by decide) ?_
            refine lv_iadd hx hb dX6_begin_157 ?_
            refine s_put X hw 20 _ 29 1 (hL.1) rfl rfl k_X6 (by decide) (Nat.le_of_ble_eq_true rfl) fl_RX6_174 rfl rfl dX6_begin_158 (fun H locs hw => ?_)
            have hB := MBI.setR hB (v := x101 + 1) ⟨(x101.toNatClampNeg + 1), by omega, (nat_add px101 (show (1 : Int32) = nI 1 from rfl))⟩
            have hv1 : 1 ≤ (C 21 6 n2.toNatClampNeg).toNatClampNeg := by obtain ⟨d, hd1, hd2⟩ := hB0.1 6 n2.toNatClampNeg (show _ < 4 by omega) (by decide); have hd1 : d < 7 := hd1; rw [hd2] at hv0 ⊢; rw [nI_clamp (by omega)]; have := (not_congr (nat_le rfl (show (0 : Int32) = nI 0 from rfl) (by omega) (by decide))).mp hv0; omega
            refine lv_aload_n hx hb dX6_begin_161 rfl (lv_at hl 0 rfl) ?_
            refine lv_aload_n hx hb dX6_begin_162 rfl (lv_at hl 0 rfl) ?_
            refine r_get X hw 20 _ 29 (hL.1) rfl rfl k_X6 (by decide) fl_RX6_174 dX6_begin_163 ?_
            refine lv_topi (fun x122 ex122 => ?_)
            have ex122 := ex122.trans (cs_s _ _ _ _ _); subst ex122
            refine lv_iconst (v := 1) hx hb dX6_begin_166 (by decide) ?_
            refine lv_isub hx hb dX6_begin_167 ?_
            refine W.eq (g2 := F0 m 168 ls [.int (nI ((x101.toNatClampNeg + 1) - 1)), .ref (ad 20 0)]) (by rw [← ((nat_sub (nat_add px101 (show (1 : Int32) = nI 1 from rfl)) (show (1 : Int32) = nI 1 from rfl) (by omega)))]) ?_
            refine r_qv X hw (r_runV X (c_q_starts l G lv ad _ ((x101.toNatClampNeg + 1) - 1) hL hB (by omega) (by rw [Nat.add_sub_cancel]; simp (disch := decide) only [cs_k, cs_n, cs_s]; exact hv1) _) cy_X6_starts ml_RX6_177 ⟨(Nat.le_of_ble_eq_true rfl), (Nat.le_of_ble_eq_true rfl)⟩ gP.blind (g_recv X hw 20 0 hL.1 rfl rfl) (gP_call X hw _) rfl hl.1 rfl (Nat.le_of_ble_eq_true rfl) dX6_begin_168 ⟨(Nat.le_of_ble_eq_true rfl), (Nat.le_of_ble_eq_true rfl)⟩) (fun H locs hB hw => ?_)
            refine lv_aload_n hx hb dX6_begin_171 rfl (lv_at hl 0 rfl) ?_
            refine r_get X hw 20 _ 29 (hL.1) rfl rfl k_X6 (by decide) fl_RX6_174 dX6_begin_172 ?_
            refine lv_topi (fun x124 ex124 => ?_)
            obtain ⟨px124, bx124⟩ := MBI.runs hB ex124
            refine lv_iconst (v := 1) hx hb dX6_begin_175 (by decide) ?_
            refine lv_isub hx hb dX6_begin_176 ?_
            subst ex124 ex111 ex110 ex101
            exact r_iret X hw hr rfl hlk (Nat.le_of_ble_eq_true rfl) (Nat.le_of_ble_eq_true rfl) (gRE_of ((if_pos h102).trans ((if_neg h113).trans rfl)) hB) dX6_begin_177
          · refine lv_iconst (v := 0) hx hb dX6_begin_119 (by decide) ?_
            subst ex111 ex110 ex101
            exact r_iret X hw hr rfl hlk (Nat.le_of_ble_eq_true rfl) (Nat.le_of_ble_eq_true rfl) (gRE_of ((if_pos h102).trans ((if_pos h113).trans rfl)) hB) dX6_begin_120
        · refine lv_if_eq (tgt := 111) hx hb dX6_begin_81 (by decide) (fun h103 => ?_) (fun h103 => ?_)
          · refine lv_iconst (v := 0) hx hb dX6_begin_111 (by decide) ?_
            exact J109 _ ((if_pos h103).trans rfl).symm _ hl
          · obtain ⟨⟨pn1, bn1⟩, pn2, bn2⟩ := q_are_of (n1 := n1) (n2 := n2) (by rw [← hi0]; exact h103)
            refine lv_aload_n hx hb dX6_begin_84 rfl (lv_at hl 0 rfl) ?_
            refine r_get X hw 20 _ 6 (hL.1) rfl rfl k_X6 (by decide) fl_RX6_28 dX6_begin_85 ?_
            refine lv_iload_n hx hb dX6_begin_88 rfl (lv_at hl 2 rfl) ?_
            refine q_iald X hw 6 (hL.2 6 (by decide) (by decide) (by decide)) (j := n2.toNatClampNeg) pn2 (show n2.toNatClampNeg < 4 by omega) dX6_begin_89 ?_
            refine lv_topi (fun x104 ex104 => ?_)
            obtain ⟨px104, bx104⟩ := MBI.get hB 6 n2.toNatClampNeg (show n2.toNatClampNeg < 4 by omega) (by decide) ex104
            have bx104 : x104.toNatClampNeg < 7 := bx104
            refine lv_if_le (tgt := 111) hx hb dX6_begin_90 (by decide) (fun h105 => ?_) (fun h105 => ?_)
            · have nh105 := (nat_le px104 (show (0 : Int32) = nI 0 from rfl) (by omega) (by omega)).mp h105
              refine lv_iconst (v := 0) hx hb dX6_begin_111 (by decide) ?_
              subst ex104; exact J109 _ ((if_neg h103).trans ((if_pos h105).trans rfl)).symm _ hl
            · have nh105 := (not_congr (nat_le px104 (show (0 : Int32) = nI 0 from rfl) (by omega) (by omega))).mp h105
              refine lv_iload hx hb dX6_begin_93 (lv_at hl 4 rfl) ?_
              refine lv_if_ne (tgt := 111) hx hb dX6_begin_95 (by decide) (fun h106 => ?_) (fun h106 => ?_)
              · refine lv_iconst (v := 0) hx hb dX6_begin_111 (by decide) ?_
                subst ex104; exact J109 _ ((if_neg h103).trans ((if_neg h105).trans ((if_neg h106).trans rfl))).symm _ hl
              · refine lv_aload_n hx hb dX6_begin_98 rfl (lv_at hl 0 rfl) ?_
                refine r_get X hw 20 _ 29 (hL.1) rfl rfl k_X6 (by decide) fl_RX6_174 dX6_begin_99 ?_
                refine lv_topi (fun x107 ex107 => ?_)
                have ex107 := (ex107).trans ex101.symm; have ex107 := ex107.symm; subst ex107
                refine lv_bipush (v := 24) hx hb dX6_begin_102 (by decide) ?_
                refine lv_icmp_ge (tgt := 111) hx hb dX6_begin_104 (by decide) (fun h108 => ?_) (fun h108 => ?_)
                · have nh108 := (nat_le (show (24 : Int32) = nI 24 from rfl) px101 (by omega) (by omega)).mp h108
                  refine lv_iconst (v := 0) hx hb dX6_begin_111 (by decide) ?_
                  subst ex104; exact J109 _ ((if_neg h103).trans ((if_neg h105).trans ((if_pos h106).trans ((if_pos h108).trans rfl)))).symm _ hl
                · have nh108 := (not_congr (nat_le (show (24 : Int32) = nI 24 from rfl) px101 (by omega) (by omega))).mp h108
                  refine lv_iconst (v := 1) hx hb dX6_begin_107 (by decide) ?_
                  refine lv_goto (tgt := 112) hx hb dX6_begin_108 (by decide) ?_
                  subst ex104; exact J109 _ ((if_neg h103).trans ((if_neg h105).trans ((if_pos h106).trans ((if_neg h108).trans rfl)))).symm _ hl
      · have nh102 := (not_congr (nat_le px101 rfl (by omega) (by omega))).mp h102
        refine lv_iload hx hb dX6_begin_38 (lv_at hl 4 rfl) ?_
        refine r_J (nL := 6) (J := 70) (rest := []) (L := [(0, .ref (ad 20 0)), (1, .int n1), (2, .int n2), (3, .int ar), (4, .int hs), (5, .int (nI k))]) (if hs = 0 then ( let x126 : Int32 := C 21 15 k; if x126 = n1 then ( let x128 : Int32 := C 21 16 k; if x128 = n2 then ( 1 ) else ( 0 ) ) else ( 0 ) ) else ( 1 )) (fun x131 ex131 ls hl => ?_) (fun J130 => ?_)
        · refine lv_istore (lv' := [(4, .int x131), (0, .ref (ad 20 0)), (1, .int n1), (2, .int n2), (3, .int ar), (5, .int (nI k))]) hx hb dX6_begin_70 hl (by decide) rfl (fun ls hl => ?_)
          refine lv_iinc (v := nI (k + 1)) (lv' := [(5, .int (nI (k + 1))), (4, .int x131), (0, .ref (ad 20 0)), (1, .int n1), (2, .int n2), (3, .int ar)]) hx hb dX6_begin_72 hl (k := 5) rfl (by rw [← nI_1]; rfl) (by decide) rfl (fun ls hl => ?_)
          refine lv_goto (tgt := 29) hx hb dX6_begin_75 (by decide) ?_
          subst ex131 ex101
          exact r_toQI (ih _ _ (k + 1) hB (⟨hi0, by omega, by omega⟩) _ _ hw _ (lv_sub hl [2, 3, 4, 5, 1, 0] rfl)) ((if_neg h102).trans rfl)
        · refine lv_if_ne (tgt := 65) hx hb dX6_begin_40 (by decide) (fun h125 => ?_) (fun h125 => ?_)
          · refine lv_iconst (v := 1) hx hb dX6_begin_65 (by decide) ?_
            refine lv_goto (tgt := 70) hx hb dX6_begin_66 (by decide) ?_
            exact J130 _ ((if_neg h125).trans rfl).symm _ hl
          · refine lv_aload_n hx hb dX6_begin_43 rfl (lv_at hl 0 rfl) ?_
            refine r_get X hw 20 _ 15 (hL.1) rfl rfl k_X6 (by decide) fl_RX6_52 dX6_begin_44 ?_
            refine lv_iload hx hb dX6_begin_47 (lv_at hl 5 rfl) ?_
            refine q_iald X hw 15 (hL.2 15 (by decide) (by decide) (by decide)) (j := k) rfl (show k < 24 by omega) dX6_begin_49 ?_
            refine lv_topi (fun x126 ex126 => ?_)
            obtain ⟨px126, bx126⟩ := MBI.get hB 15 k (show k < 24 by omega) (by decide) ex126
            have bx126 : x126.toNatClampNeg < 16 := bx126
            refine lv_iload_n hx hb dX6_begin_50 rfl (lv_at hl 1 rfl) ?_
            refine lv_icmp_ne (tgt := 69) hx hb dX6_begin_51 (by decide) (fun h127 => ?_) (fun h127 => ?_)
            · refine lv_iconst (v := 0) hx hb dX6_begin_69 (by decide) ?_
              subst ex126; exact J130 _ ((if_pos h125).trans ((if_neg h127).trans rfl)).symm _ hl
            · refine lv_aload_n hx hb dX6_begin_54 rfl (lv_at hl 0 rfl) ?_
              refine r_get X hw 20 _ 16 (hL.1) rfl rfl k_X6 (by decide) fl_RX6_55 dX6_begin_55 ?_
              refine lv_iload hx hb dX6_begin_58 (lv_at hl 5 rfl) ?_
              refine q_iald X hw 16 (hL.2 16 (by decide) (by decide) (by decide)) (j := k) rfl (show k < 24 by omega) dX6_begin_60 ?_
              refine lv_topi (fun x128 ex128 => ?_)
              obtain ⟨px128, bx128⟩ := MBI.get hB 16 k (show k < 24 by omega) (by decide) ex128
              have bx128 : x128.toNatClampNeg < 4 := bx128
              refine lv_iload_n hx hb dX6_begin_61 rfl (lv_at hl 2 rfl) ?_
              refine lv_icmp_ne (tgt := 69) hx hb dX6_begin_62 (by decide) (fun h129 => ?_) (fun h129 => ?_)
              · refine lv_iconst (v := 0) hx hb dX6_begin_69 (by decide) ?_
                subst ex128 ex126; exact J130 _ ((if_pos h125).trans ((if_pos h127).trans ((if_neg h129).trans rfl))).symm _ hl
              · refine lv_iconst (v := 1) hx hb dX6_begin_65 (by decide) ?_
                refine lv_goto (tgt := 70) hx hb dX6_begin_66 (by decide) ?_
                subst ex128 ex126; exact J130 _ ((if_pos h125).trans ((if_pos h127).trans ((if_pos h129).trans rfl))).symm _ hl
  refine lv_iload_n hx hb dX6_begin_0 rfl (lv_at hl 1 rfl) ?_
  refine lv_bipush (v := 16) hx hb dX6_begin_1 (by decide) ?_
  refine r_rp (r_runS X (c_q_isBelow l n1 16) cy_X6_isBelow ml_RX6_114 ⟨(Nat.le_of_ble_eq_true rfl), (Nat.le_of_ble_eq_true rfl)⟩ gPc_blind (fun _ _ _ => ⟨rfl, trivial⟩) rfl hl.1 rfl (Nat.le_of_ble_eq_true rfl) dX6_begin_3 ⟨(Nat.le_of_ble_eq_true rfl), (Nat.le_of_ble_eq_true rfl)⟩) ?_
  refine lv_topi (fun x1 ex1 => ?_)
  refine r_J (nL := 6) (J := 22) (rest := []) (L := [(0, .ref (ad 20 0)), (1, .int n1), (2, .int n2)]) (if x1 = 0 then ( 0 ) else ( let x3 : Int32 := q_isBelow n2 4; if x3 = 0 then ( 0 ) else ( 1 ) )) (fun x6 ex6 ls hl => ?_) (fun J5 => ?_)
  · refine lv_istore_n (lv' := [(3, .int x6), (0, .ref (ad 20 0)), (1, .int n1), (2, .int n2)]) hx hb dX6_begin_22 rfl hl (by decide) rfl (fun ls hl => ?_)
    refine lv_iconst (v := 0) hx hb dX6_begin_23 (by decide) ?_
    refine lv_istore (lv' := [(4, .int 0), (3, .int x6), (0, .ref (ad 20 0)), (1, .int n1), (2, .int n2)]) hx hb dX6_begin_24 hl (by decide) rfl (fun ls hl => ?_)
    refine lv_iconst (v := 0) hx hb dX6_begin_26 (by decide) ?_
    refine lv_istore (lv' := [(5, .int 0), (4, .int 0), (3, .int x6), (0, .ref (ad 20 0)), (1, .int n1), (2, .int n2)]) hx hb dX6_begin_27 hl (by decide) rfl (fun ls hl => ?_)
    subst ex6 ex1
    exact r_toQI (L_q_begin_L 25 _ _ 0 hB (⟨rfl, Nat.zero_le _, by have := (hB.runs (x := C 20 0 1) rfl).2; omega⟩) _ _ hw _ (lv_sub hl [3, 4, 5, 2, 1, 0] rfl)) (rfl)
  · refine lv_if_eq (tgt := 21) hx hb dX6_begin_6 (by decide) (fun h2 => ?_) (fun h2 => ?_)
    · refine lv_iconst (v := 0) hx hb dX6_begin_21 (by decide) ?_
      exact J5 _ ((if_pos h2).trans rfl).symm _ hl
    · refine lv_iload_n hx hb dX6_begin_9 rfl (lv_at hl 2 rfl) ?_
      refine lv_iconst (v := 4) hx hb dX6_begin_10 (by decide) ?_
      refine r_rp (r_runS X (c_q_isBelow l n2 4) cy_X6_isBelow ml_RX6_114 ⟨(Nat.le_of_ble_eq_true rfl), (Nat.le_of_ble_eq_true rfl)⟩ gPc_blind (fun _ _ _ => ⟨rfl, trivial⟩) rfl hl.1 rfl (Nat.le_of_ble_eq_true rfl) dX6_begin_11 ⟨(Nat.le_of_ble_eq_true rfl), (Nat.le_of_ble_eq_true rfl)⟩) ?_
      refine lv_topi (fun x3 ex3 => ?_)
      refine lv_if_eq (tgt := 21) hx hb dX6_begin_14 (by decide) (fun h4 => ?_) (fun h4 => ?_)
      · refine lv_iconst (v := 0) hx hb dX6_begin_21 (by decide) ?_
        subst ex3; exact J5 _ ((if_neg h2).trans ((if_pos h4).trans rfl)).symm _ hl
      · refine lv_iconst (v := 1) hx hb dX6_begin_17 (by decide) ?_
        refine lv_goto (tgt := 22) hx hb dX6_begin_18 (by decide) ?_
        subst ex3; exact J5 _ ((if_neg h2).trans ((if_neg h4).trans rfl)).symm _ hl

def gAsk (M : gCT) : Prop := ∀ r, r < (M 20 0 1).toNatClampNeg → M 21 24 r = 0 → ∃ d, d < 16 ∧ M 21 25 r = nI d
def gVer (M : gCT) : Prop := ∀ r, r < (M 20 0 1).toNatClampNeg → 1 ≤ (M 21 6 (M 21 16 r).toNatClampNeg).toNatClampNeg
theorem gAsk.of {M : gCT} (h : gAsk M) {r : Nat} (hr : r < (M 20 0 1).toNatClampNeg) (h0 : M 21 24 r = 0) {x : Int32} (ex : x = M 21 25 r) : x = nI x.toNatClampNeg ∧ x.toNatClampNeg < 16 := by
  obtain ⟨d, h1, h2⟩ := h r hr h0
  rw [ex, h2, nI_clamp (by omega)]
  exact ⟨rfl, h1⟩
def q_answer (C : gCT) (n1 n2 : Int32) : Int32 × gCT :=
  let x1 : Int32 := (q_isRun C n1).1;
  let x11 : Int32 :=
    if x1 = 0 then (
      0
    ) else (
      let x3 : Int32 := C 21 24 n1.toNatClampNeg;
      if x3 = 0 then (
        let x5 : Int32 := C 21 16 n1.toNatClampNeg;
        let x6 : Int32 := C 21 8 x5.toNatClampNeg;
        let x7 : Int32 := C 21 25 n1.toNatClampNeg;
        let x8 : Int32 := C 21 11 x7.toNatClampNeg;
        if x6 < x8 then (
          0
        ) else (
          1
        )
      ) else (
        0
      )
    );
  let x12 : Int32 := q_isWithin n2 0 9;
  let x13 : Int32 := if q_thr x1 x12 x11 = 0 then 1 else 0;
  let C14 : gCT := cs C 20 0 3 (q_thr x1 x12 x11);
  if x13 = 0 then (
    (0, C14)
  ) else (
    let x16 : Int32 := C 21 25 n1.toNatClampNeg;
    let x17 : Int32 := C 20 0 2;
    let C18 : gCT := cs C14 21 30 x17.toNatClampNeg n1;
    let C20 : gCT := cs C18 21 31 x17.toNatClampNeg x16;
    let x22 : Int32 := C 21 27 ((16 * n1.toNatClampNeg) + x16.toNatClampNeg);
    let C23 : gCT := cs C20 21 32 x17.toNatClampNeg x22;
    let C25 : gCT := cs C23 21 33 x17.toNatClampNeg n2;
    let C27 : gCT := cs C25 20 0 2 (x17 + 1);
    let x28 : Int32 := C 21 16 n1.toNatClampNeg;
    let x29 : Int32 := C 21 8 x28.toNatClampNeg;
    let x30 : Int32 := C 21 11 x16.toNatClampNeg;
    let x31 : Int32 := x29 - x30;
    let C32 : gCT := cs C27 21 8 x28.toNatClampNeg x31;
    let x33 : Int32 := C 21 15 n1.toNatClampNeg;
    let x34 : Int32 := C 21 13 x33.toNatClampNeg;
    let x36 : Int32 := x34 + x30;
    let C37 : gCT := cs C32 21 13 x33.toNatClampNeg x36;
    let x38 : Int32 := C 21 26 n1.toNatClampNeg;
    let x40 : Int32 := x38 + x30;
    let C41 : gCT := cs C37 21 26 n1.toNatClampNeg x40;
    let C42 : gCT := q_puts C41 n1.toNatClampNeg n2;
    let x43 : Int32 := C42 21 24 n1.toNatClampNeg;
    if x43 = 0 then (
      let C46 : gCT := q_goesOn C42 n1.toNatClampNeg;
      let x47 : Int32 := C46 21 24 n1.toNatClampNeg;
      (x47, C46)
    ) else (
      (x43, C42)
    )
  )
set_option maxHeartbeats 4000000 in
set_option maxRecDepth 100000 in
theorem c_q_answer (l : Launch) (G : gG) (lv : gLv) (ad : gAd) (C : gCT) (n1 n2 : Int32) (hL : gLM lv) (hB : MBI C) (hA : gAsk C) (hN : (C 20 0 2).toNatClampNeg < 512) : gMi l yX6_answer cX6_answer 6 (some .int) (gRm 5 116 0 0) G [.ref (ad 20 0), .int n1, .int n2] lv ad (gF G C ad) (gRi G lv ad MBI (q_answer C n1 n2)) := by
  refine r_met (own := RX6) (by decide) rfl (Nat.le_of_ble_eq_true rfl) ?_
  intro p e s m below meth c ls X hw hr hlk _ hl
  have hx := X.1.1; have hb := X.1.2.1; have hml := X.1.2.2.1; have hown := X.1.2.2.2.1; have hts := X.1.2.2.2.2
  have hl : lv_has ls 6 [(0, .ref (ad 20 0)), (1, .int n1), (2, .int n2)] := hl
  have hB0 := hB
  refine lv_aload_n hx hb dX6_answer_0 rfl (lv_at hl 0 rfl) ?_
  refine lv_iload_n hx hb dX6_answer_1 rfl (lv_at hl 1 rfl) ?_
  refine r_qiro X hw (q_isRun_C _ n1) (r_runV X (c_q_isRun l G lv ad _ n1 hL hB  _) cy_X6_isRun ml_RX6_180 ⟨(Nat.le_of_ble_eq_true rfl), (Nat.le_of_ble_eq_true rfl)⟩ gP.blind (g_recv X hw 20 0 hL.1 rfl rfl) (gP_call X hw _) rfl hl.1 rfl (Nat.le_of_ble_eq_true rfl) dX6_answer_2 ⟨(Nat.le_of_ble_eq_true rfl), (Nat.le_of_ble_eq_true rfl)⟩) (fun H locs hw => ?_)
  refine lv_topi (fun x1 ex1 => ?_)
  refine lv_istore_n (lv' := [(3, .int x1), (0, .ref (ad 20 0)), (1, .int n1), (2, .int n2)]) hx hb dX6_answer_5 rfl hl (by decide) rfl (fun ls hl => ?_)
  refine lv_iload_n hx hb dX6_answer_6 rfl (lv_at hl 0 rfl) ?_
  refine r_J (nL := 6) (J := 49) (rest := []) (L := [(3, .int x1), (0, .ref (ad 20 0)), (1, .int n1), (2, .int n2)]) (if x1 = 0 then ( 0 ) else ( let x3 : Int32 := C 21 24 n1.toNatClampNeg; if x3 = 0 then ( let x5 : Int32 := C 21 16 n1.toNatClampNeg; let x6 : Int32 := C 21 8 x5.toNatClampNeg; let x7 : Int32 := C 21 25 n1.toNatClampNeg; let x8 : Int32 := C 21 11 x7.toNatClampNeg; if x6 < x8 then ( 0 ) else ( 1 ) ) else ( 0 ) )) (fun x11 ex11 ls hl => ?_) (fun J10 => ?_)
  · refine lv_istore (lv' := [(4, .int x11), (3, .int x1), (0, .ref (ad 20 0)), (1, .int n1), (2, .int n2)]) hx hb dX6_answer_49 hl (by decide) rfl (fun ls hl => ?_)
    refine lv_aload_n hx hb dX6_answer_51 rfl (lv_at hl 2 rfl) ?_
    refine lv_iload_n hx hb dX6_answer_52 rfl (lv_at hl 1 rfl) ?_
    refine lv_iload_n hx hb dX6_answer_53 rfl (lv_at hl 4 rfl) ?_
    refine lv_iconst (v := 0) hx hb dX6_answer_54 (by decide) ?_
    refine lv_bipush (v := 9) hx hb dX6_answer_55 (by decide) ?_
    refine r_rp (r_runS X (c_q_isWithin l n2 0 9) cy_X6_isWithin ml_RX6_110 ⟨(Nat.le_of_ble_eq_true rfl), (Nat.le_of_ble_eq_true rfl)⟩ gPc_blind (fun _ _ _ => ⟨rfl, trivial⟩) rfl hl.1 rfl (Nat.le_of_ble_eq_true rfl) dX6_answer_57 ⟨(Nat.le_of_ble_eq_true rfl), (Nat.le_of_ble_eq_true rfl)⟩) ?_
    refine lv_topi (fun x12 ex12 => ?_)
    refine lv_iload hx hb dX6_answer_60 (lv_at hl 0 rfl) ?_
    refine r_qi X hw (r_runV X (c_q_goes1 l G lv ad _ x1 x12 x11 hL hB _) cy_X6_goes ml_RX6_121 ⟨(Nat.le_of_ble_eq_true rfl), (Nat.le_of_ble_eq_true rfl)⟩ gP.blind (g_recv X hw 20 0 hL.1 rfl rfl) (gP_call X hw _) rfl hl.1 rfl (Nat.le_of_ble_eq_true rfl) dX6_answer_62 ⟨(Nat.le_of_ble_eq_true rfl), (Nat.le_of_ble_eq_true rfl)⟩) (fun H locs hB hw => ?_)
    dsimp only at hB hw
    refine lv_topi (fun x13 ex13 => ?_)
    have ex13 : x13 = (if q_thr x1 x12 x11 = 0 then 1 else 0) := ex13
    refine lv_if_ne (tgt := 70) hx hb dX6_answer_65 (by decide) (fun h15 => ?_) (fun h15 => ?_)
    · obtain ⟨g1, g2, g3⟩ := q_goes_of (a := x1) (b := x12) (c := x11) (by rw [← ex13]; exact h15)
      obtain ⟨pn1, bn1, rn1⟩ := q_isRun_of hB0 (n := n1) (by rw [← ex1]; exact g1)
      have qs : C 21 24 n1.toNatClampNeg = 0 := Decidable.byContradiction (fun q => g3 (by rw [ex11, if_neg g1]; exact if_neg q))
      refine lv_aload_n hx hb dX6_answer_70 rfl (lv_at hl 2 rfl) ?_
      refine r_get X hw 20 _ 25 (hL.1) rfl rfl k_X6 (by decide) fl_RX6_82 dX6_answer_71 ?_
      refine lv_iload_n hx hb dX6_answer_74 rfl (lv_at hl 3 rfl) ?_
      refine q_iald X hw 25 (hL.2 25 (by decide) (by decide) (by decide)) (j := n1.toNatClampNeg) pn1 (show n1.toNatClampNeg < 24 by omega) dX6_answer_75 ?_
      refine lv_topi (fun x16 ex16 => ?_)
      have ex16 := ex16.trans (congrFun (congrFun (cs_k _ _ _ _ (by decide)) _) _)
      obtain ⟨px16, bx16⟩ := hA.of rn1 qs ex16
      refine lv_istore (lv' := [(5, .int x16), (4, .int x11), (3, .int x1), (0, .ref (ad 20 0)), (1, .int n1), (2, .int n2)]) hx hb dX6_answer_76 hl (by decide) rfl (fun ls hl => ?_)
      refine lv_aload_n hx hb dX6_answer_78 rfl (lv_at hl 3 rfl) ?_
      refine r_get X hw 20 _ 30 (hL.1) rfl rfl k_X6 (by decide) fl_RX6_94 dX6_answer_79 ?_
      refine lv_aload_n hx hb dX6_answer_82 rfl (lv_at hl 3 rfl) ?_
      refine r_get X hw 20 _ 34 (hL.1) rfl rfl k_X6 (by decide) fl_RX6_133 dX6_answer_83 ?_
      refine lv_topi (fun x17 ex17 => ?_)
      obtain ⟨px17, bx17⟩ := MBI.answers hB ex17
      have ex17 := ex17.trans (cs_o _ _ _ _ (by decide))
      have nq : x17.toNatClampNeg < 512 := by rw [ex17]; exact hN
      refine lv_iload_n hx hb dX6_answer_86 rfl (lv_at hl 4 rfl) ?_
      refine q_iast X hw 30 (hL.2 30 (by decide) (by decide) (by decide)) (j := x17.toNatClampNeg) px17 (show x17.toNatClampNeg < 1024 by omega) dX6_answer_87 (fun H locs hw => ?_)
      have hB := MBI.set hB (k := 30) (j := x17.toNatClampNeg) (v := n1) (by decide) (fun h => absurd rfl h)
      refine lv_aload_n hx hb dX6_answer_88 rfl (lv_at hl 3 rfl) ?_
      refine r_get X hw 20 _ 31 (hL.1) rfl rfl k_X6 (by decide) fl_RX6_97 dX6_answer_89 ?_
      refine lv_aload_n hx hb dX6_answer_92 rfl (lv_at hl 3 rfl) ?_
      refine r_get X hw 20 _ 34 (hL.1) rfl rfl k_X6 (by decide) fl_RX6_133 dX6_answer_93 ?_
      refine lv_topi (fun x19 ex19 => ?_)
      have ex19 := (ex19.trans ((congrFun (congrFun (cs_k _ _ _ _ (by decide)) _) _).trans (cs_o _ _ _ _ (by decide)))).trans ex17.symm; have ex19 := ex19.symm; subst ex19
      refine lv_iload hx hb dX6_answer_96 (lv_at hl 0 rfl) ?_
      refine q_iast X hw 31 (hL.2 31 (by decide) (by decide) (by decide)) (j := x17.toNatClampNeg) px17 (show x17.toNatClampNeg < 1024 by omega) dX6_answer_98 (fun H locs hw => ?_)
      have hB := MBI.set hB (k := 31) (j := x17.toNatClampNeg) (v := x16) (by decide) (fun _ => ⟨x16.toNatClampNeg, by show _ < 16; omega, px16⟩)
      refine lv_aload_n hx hb dX6_answer_99 rfl (lv_at hl 3 rfl) ?_
      refine r_get X hw 20 _ 32 (hL.1) rfl rfl k_X6 (by decide) fl_RX6_100 dX6_answer_100 ?_
      refine lv_aload_n hx hb dX6_answer_103 rfl (lv_at hl 3 rfl) ?_
      refine r_get X hw 20 _ 34 (hL.1) rfl rfl k_X6 (by decide) fl_RX6_133 dX6_answer_104 ?_
      refine lv_topi (fun x21 ex21 => ?_)
      have ex21 := (ex21.trans ((congrFun (congrFun (cs_k _ _ _ _ (by decide)) _) _).trans ((congrFun (congrFun (cs_k _ _ _ _ (by decide)) _) _).trans (cs_o _ _ _ _ (by decide))))).trans ex17.symm; have ex21 := ex21.symm; subst ex21
      refine lv_aload_n hx hb dX6_answer_107 rfl (lv_at hl 3 rfl) ?_
      refine r_get X hw 20 _ 27 (hL.1) rfl rfl k_X6 (by decide) fl_RX6_88 dX6_answer_108 ?_
      refine lv_bipush (v := 16) hx hb dX6_answer_111 (by decide) ?_
      refine lv_iload_n hx hb dX6_answer_113 rfl (lv_at hl 4 rfl) ?_
      refine lv_imul hx hb dX6_answer_114 ?_
      refine lv_iload hx hb dX6_answer_115 (lv_at hl 0 rfl) ?_
      refine lv_iadd hx hb dX6_answer_117 ?_
      refine q_iald X hw 27 (hL.2 27 (by decide) (by decide) (by decide)) (j := ((16 * n1.toNatClampNeg) + x16.toNatClampNeg)) (nat_add (nat_mul (show (16 : Int32) = nI 16 from rfl) pn1) px16) (show ((16 * n1.toNatClampNeg) + x16.toNatClampNeg) < 384 by omega) dX6_answer_118 ?_
      refine lv_topi (fun x22 ex22 => ?_)
      have ex22 := ex22.trans ((congrFun (cs_n _ _ _ _ (by decide)) _).trans ((congrFun (cs_n _ _ _ _ (by decide)) _).trans (congrFun (congrFun (cs_k _ _ _ _ (by decide)) _) _)))
      refine q_iast X hw 32 (hL.2 32 (by decide) (by decide) (by decide)) (j := x17.toNatClampNeg) px17 (show x17.toNatClampNeg < 1024 by omega) dX6_answer_119 (fun H locs hw => ?_)
      have hB := MBI.set hB (k := 32) (j := x17.toNatClampNeg) (v := x22) (by decide) (fun h => absurd rfl h)
      refine lv_aload_n hx hb dX6_answer_120 rfl (lv_at hl 3 rfl) ?_
      refine r_get X hw 20 _ 33 (hL.1) rfl rfl k_X6 (by decide) fl_RX6_103 dX6_answer_121 ?_
      refine lv_aload_n hx hb dX6_answer_124 rfl (lv_at hl 3 rfl) ?_
      refine r_get X hw 20 _ 34 (hL.1) rfl rfl k_X6 (by decide) fl_RX6_133 dX6_answer_125 ?_
      refine lv_topi (fun x24 ex24 => ?_)
      have ex24 := (ex24.trans ((congrFun (congrFun (cs_k _ _ _ _ (by decide)) _) _).trans ((congrFun (congrFun (cs_k _ _ _ _ (by decide)) _) _).trans ((congrFun (congrFun (cs_k _ _ _ _ (by decide)) _) _).trans (cs_o _ _ _ _ (by decide)))))).trans ex17.symm; have ex24 := ex24.symm; subst ex24
      refine lv_iload_n hx hb dX6_answer_128 rfl (lv_at hl 5 rfl) ?_
      refine q_iast X hw 33 (hL.2 33 (by decide) (by decide) (by decide)) (j := x17.toNatClampNeg) px17 (show x17.toNatClampNeg < 1024 by omega) dX6_answer_129 (fun H locs hw => ?_)
      have hB := MBI.set hB (k := 33) (j := x17.toNatClampNeg) (v := n2) (by decide) (fun h => absurd rfl h)
      refine lv_aload_n hx hb dX6_answer_130 rfl (lv_at hl 3 rfl) ?_
      refine lv_dup hx hb dX6_answer_131 rfl ?_
      refine r_get X hw 20 _ 34 (hL.1) rfl rfl k_X6 (by decide) fl_RX6_133 dX6_answer_132 ?_
      refine lv_topi (fun x26 ex26 => ?_)
      have ex26 := (ex26.trans ((congrFun (congrFun (cs_k _ _ _ _ (by decide)) _) _).trans ((congrFun (congrFun (cs_k _ _ _ _ (by decide)) _) _).trans ((congrFun (congrFun (cs_k _ _ _ _ (by decide)) _) _).trans ((congrFun (congrFun (cs_k _ _ _ _ (by decide)) _) _).trans (cs_o _ _ _ _ (by decide))))))).trans ex17.symm; have ex26 := ex26.symm; subst ex26
      refine lv_iconst (v := 1) hx hb dX6_answer_135 (by decide) ?_
      refine lv_iadd hx hb dX6_answer_136 ?_
      refine s_put X hw 20 _ 34 2 (hL.1) rfl rfl k_X6 (by decide) (Nat.le_of_ble_eq_true rfl) fl_RX6_133 rfl rfl dX6_answer_137 (fun H locs hw => ?_)
      have hB := MBI.setA hB (v := x17 + 1) ⟨(x17.toNatClampNeg + 1), by omega, (nat_add px17 (show (1 : Int32) = nI 1 from rfl))⟩
      refine lv_aload_n hx hb dX6_answer_140 rfl (lv_at hl 3 rfl) ?_
      refine r_get X hw 20 _ 8 (hL.1) rfl rfl k_X6 (by decide) fl_RX6_34 dX6_answer_141 ?_
      refine lv_aload_n hx hb dX6_answer_144 rfl (lv_at hl 3 rfl) ?_
      refine r_get X hw 20 _ 16 (hL.1) rfl rfl k_X6 (by decide) fl_RX6_55 dX6_answer_145 ?_
      refine lv_iload_n hx hb dX6_answer_148 rfl (lv_at hl 4 rfl) ?_
      refine q_iald X hw 16 (hL.2 16 (by decide) (by decide) (by decide)) (j := n1.toNatClampNeg) pn1 (show n1.toNatClampNeg < 24 by omega) dX6_answer_149 ?_
      refine lv_topi (fun x28 ex28 => ?_)
      obtain ⟨px28, bx28⟩ := MBI.get hB 16 n1.toNatClampNeg (show n1.toNatClampNeg < 24 by omega) (by decide) ex28
      have bx28 : x28.toNatClampNeg < 4 := bx28
      have ex28 := ex28.trans ((congrFun (congrFun (cs_k _ _ _ _ (by decide)) _) _).trans ((congrFun (cs_n _ _ _ _ (by decide)) _).trans ((congrFun (cs_n _ _ _ _ (by decide)) _).trans ((congrFun (cs_n _ _ _ _ (by decide)) _).trans ((congrFun (cs_n _ _ _ _ (by decide)) _).trans (congrFun (congrFun (cs_k _ _ _ _ (by decide)) _) _))))))
      refine lv_dup2_11 hx hb dX6_answer_150 rfl rfl ?_
      refine q_iald X hw 8 (hL.2 8 (by decide) (by decide) (by decide)) (j := x28.toNatClampNeg) px28 (show x28.toNatClampNeg < 4 by omega) dX6_answer_151 ?_
      refine lv_topi (fun x29 ex29 => ?_)
      have ex29 := ex29.trans ((congrFun (congrFun (cs_k _ _ _ _ (by decide)) _) _).trans ((congrFun (cs_n _ _ _ _ (by decide)) _).trans ((congrFun (cs_n _ _ _ _ (by decide)) _).trans ((congrFun (cs_n _ _ _ _ (by decide)) _).trans ((congrFun (cs_n _ _ _ _ (by decide)) _).trans (congrFun (congrFun (cs_k _ _ _ _ (by decide)) _) _))))))
      refine lv_aload_n hx hb dX6_answer_152 rfl (lv_at hl 3 rfl) ?_
      refine r_get X hw 20 _ 11 (hL.1) rfl rfl k_X6 (by decide) fl_RX6_43 dX6_answer_153 ?_
      refine lv_iload hx hb dX6_answer_156 (lv_at hl 0 rfl) ?_
      refine q_iald X hw 11 (hL.2 11 (by decide) (by decide) (by decide)) (j := x16.toNatClampNeg) px16 (show x16.toNatClampNeg < 16 by omega) dX6_answer_158 ?_
      refine lv_topi (fun x30 ex30 => ?_)
      have ex30 := ex30.trans ((congrFun (congrFun (cs_k _ _ _ _ (by decide)) _) _).trans ((congrFun (cs_n _ _ _ _ (by decide)) _).trans ((congrFun (cs_n _ _ _ _ (by decide)) _).trans ((congrFun (cs_n _ _ _ _ (by decide)) _).trans ((congrFun (cs_n _ _ _ _ (by decide)) _).trans (congrFun (congrFun (cs_k _ _ _ _ (by decide)) _) _))))))
      refine lv_isub hx hb dX6_answer_159 ?_
      refine lv_topi (fun x31 ex31 => ?_)
      refine q_iast X hw 8 (hL.2 8 (by decide) (by decide) (by decide)) (j := x28.toNatClampNeg) px28 (show x28.toNatClampNeg < 4 by omega) dX6_answer_160 (fun H locs hw => ?_)
      have hB := MBI.set hB (k := 8) (j := x28.toNatClampNeg) (v := x31) (by decide) (fun h => absurd rfl h)
      refine lv_aload_n hx hb dX6_answer_161 rfl (lv_at hl 3 rfl) ?_
      refine r_get X hw 20 _ 13 (hL.1) rfl rfl k_X6 (by decide) fl_RX6_49 dX6_answer_162 ?_
      refine lv_aload_n hx hb dX6_answer_165 rfl (lv_at hl 3 rfl) ?_
      refine r_get X hw 20 _ 15 (hL.1) rfl rfl k_X6 (by decide) fl_RX6_52 dX6_answer_166 ?_
      refine lv_iload_n hx hb dX6_answer_169 rfl (lv_at hl 4 rfl) ?_
      refine q_iald X hw 15 (hL.2 15 (by decide) (by decide) (by decide)) (j := n1.toNatClampNeg) pn1 (show n1.toNatClampNeg < 24 by omega) dX6_answer_170 ?_
      refine lv_topi (fun x33 ex33 => ?_)
      obtain ⟨px33, bx33⟩ := MBI.get hB 15 n1.toNatClampNeg (show n1.toNatClampNeg < 24 by omega) (by decide) ex33
      have bx33 : x33.toNatClampNeg < 16 := bx33
      have ex33 := ex33.trans ((congrFun (cs_n _ _ _ _ (by decide)) _).trans ((congrFun (congrFun (cs_k _ _ _ _ (by decide)) _) _).trans ((congrFun (cs_n _ _ _ _ (by decide)) _).trans ((congrFun (cs_n _ _ _ _ (by decide)) _).trans ((congrFun (cs_n _ _ _ _ (by decide)) _).trans ((congrFun (cs_n _ _ _ _ (by decide)) _).trans (congrFun (congrFun (cs_k _ _ _ _ (by decide)) _) _)))))))
      refine lv_dup2_11 hx hb dX6_answer_171 rfl rfl ?_
      refine q_iald X hw 13 (hL.2 13 (by decide) (by decide) (by decide)) (j := x33.toNatClampNeg) px33 (show x33.toNatClampNeg < 16 by omega) dX6_answer_172 ?_
      refine lv_topi (fun x34 ex34 => ?_)
      have ex34 := ex34.trans ((congrFun (cs_n _ _ _ _ (by decide)) _).trans ((congrFun (congrFun (cs_k _ _ _ _ (by decide)) _) _).trans ((congrFun (cs_n _ _ _ _ (by decide)) _).trans ((congrFun (cs_n _ _ _ _ (by decide)) _).trans ((congrFun (cs_n _ _ _ _ (by decide)) _).trans ((congrFun (cs_n _ _ _ _ (by decide)) _).trans (congrFun (congrFun (cs_k _ _ _ _ (by decide)) _) _)))))))
      refine lv_aload_n hx hb dX6_answer_173 rfl (lv_at hl 3 rfl) ?_
      refine r_get X hw 20 _ 11 (hL.1) rfl rfl k_X6 (by decide) fl_RX6_43 dX6_answer_174 ?_
      refine lv_iload hx hb dX6_answer_177 (lv_at hl 0 rfl) ?_
      refine q_iald X hw 11 (hL.2 11 (by decide) (by decide) (by decide)) (j := x16.toNatClampNeg) px16 (show x16.toNatClampNeg < 16 by omega) dX6_answer_179 ?_
      refine lv_topi (fun x35 ex35 => ?_)
      have ex35 := (ex35.trans ((congrFun (cs_n _ _ _ _ (by decide)) _).trans ((congrFun (congrFun (cs_k _ _ _ _ (by decide)) _) _).trans ((congrFun (cs_n _ _ _ _ (by decide)) _).trans ((congrFun (cs_n _ _ _ _ (by decide)) _).trans ((congrFun (cs_n _ _ _ _ (by decide)) _).trans ((congrFun (cs_n _ _ _ _ (by decide)) _).trans (congrFun (congrFun (cs_k _ _ _ _ (by decide)) _) _)))))))).trans ex30.symm; have ex35 := ex35.symm; subst ex35
      refine lv_iadd hx hb dX6_answer_180 ?_
      refine lv_topi (fun x36 ex36 => ?_)
      refine q_iast X hw 13 (hL.2 13 (by decide) (by decide) (by decide)) (j := x33.toNatClampNeg) px33 (show x33.toNatClampNeg < 16 by omega) dX6_answer_181 (fun H locs hw => ?_)
      have hB := MBI.set hB (k := 13) (j := x33.toNatClampNeg) (v := x36) (by decide) (fun h => absurd rfl h)
      refine lv_aload_n hx hb dX6_answer_182 rfl (lv_at hl 3 rfl) ?_
      refine r_get X hw 20 _ 26 (hL.1) rfl rfl k_X6 (by decide) fl_RX6_85 dX6_answer_183 ?_
      refine lv_iload_n hx hb dX6_answer_186 rfl (lv_at hl 4 rfl) ?_
      refine lv_dup2_11 hx hb dX6_answer_187 rfl rfl ?_
      refine q_iald X hw 26 (hL.2 26 (by decide) (by decide) (by decide)) (j := n1.toNatClampNeg) pn1 (show n1.toNatClampNeg < 24 by omega) dX6_answer_188 ?_
      refine lv_topi (fun x38 ex38 => ?_)
      have ex38 := ex38.trans ((congrFun (cs_n _ _ _ _ (by decide)) _).trans ((congrFun (cs_n _ _ _ _ (by decide)) _).trans ((congrFun (congrFun (cs_k _ _ _ _ (by decide)) _) _).trans ((congrFun (cs_n _ _ _ _ (by decide)) _).trans ((congrFun (cs_n _ _ _ _ (by decide)) _).trans ((congrFun (cs_n _ _ _ _ (by decide)) _).trans ((congrFun (cs_n _ _ _ _ (by decide)) _).trans (congrFun (congrFun (cs_k _ _ _ _ (by decide)) _) _))))))))
      refine lv_aload_n hx hb dX6_answer_189 rfl (lv_at hl 3 rfl) ?_
      refine r_get X hw 20 _ 11 (hL.1) rfl rfl k_X6 (by decide) fl_RX6_43 dX6_answer_190 ?_
      refine lv_iload hx hb dX6_answer_193 (lv_at hl 0 rfl) ?_
      refine q_iald X hw 11 (hL.2 11 (by decide) (by decide) (by decide)) (j := x16.toNatClampNeg) px16 (show x16.toNatClampNeg < 16 by omega) dX6_answer_195 ?_
      refine lv_topi (fun x39 ex39 => ?_)
      have ex39 := (ex39.trans ((congrFun (cs_n _ _ _ _ (by decide)) _).trans ((congrFun (cs_n _ _ _ _ (by decide)) _).trans ((congrFun (congrFun (cs_k _ _ _ _ (by decide)) _) _).trans ((congrFun (cs_n _ _ _ _ (by decide)) _).trans ((congrFun (cs_n _ _ _ _ (by decide)) _).trans ((congrFun (cs_n _ _ _ _ (by decide)) _).trans ((congrFun (cs_n _ _ _ _ (by decide)) _).trans (congrFun (congrFun (cs_k _ _ _ _ (by decide)) _) _))))))))).trans ex30.symm; have ex39 := ex39.symm; subst ex39
      refine lv_iadd hx hb dX6_answer_196 ?_
      refine lv_topi (fun x40 ex40 => ?_)
      refine q_iast X hw 26 (hL.2 26 (by decide) (by decide) (by decide)) (j := n1.toNatClampNeg) pn1 (show n1.toNatClampNeg < 24 by omega) dX6_answer_197 (fun H locs hw => ?_)
      have hB := MBI.set hB (k := 26) (j := n1.toNatClampNeg) (v := x40) (by decide) (fun h => absurd rfl h)
      refine lv_aload_n hx hb dX6_answer_198 rfl (lv_at hl 3 rfl) ?_
      refine lv_iload_n hx hb dX6_answer_199 rfl (lv_at hl 4 rfl) ?_
      refine lv_iload_n hx hb dX6_answer_200 rfl (lv_at hl 5 rfl) ?_
      refine W.eq (g2 := F0 m 201 ls [.int n2, .int (nI n1.toNatClampNeg), .ref (ad 20 0)]) (by rw [← (pn1)]) ?_
      refine r_qv X hw (r_runV X (c_q_puts l G lv ad _ n1.toNatClampNeg n2 hL hB bn1 _) cy_X6_puts ml_RX6_140 ⟨(Nat.le_of_ble_eq_true rfl), (Nat.le_of_ble_eq_true rfl)⟩ gP.blind (g_recv X hw 20 0 hL.1 rfl rfl) (gP_call X hw _) rfl hl.1 rfl (Nat.le_of_ble_eq_true rfl) dX6_answer_201 ⟨(Nat.le_of_ble_eq_true rfl), (Nat.le_of_ble_eq_true rfl)⟩) (fun H locs hB hw => ?_)
      refine lv_aload_n hx hb dX6_answer_204 rfl (lv_at hl 3 rfl) ?_
      refine r_get X hw 20 _ 24 (hL.1) rfl rfl k_X6 (by decide) fl_RX6_79 dX6_answer_205 ?_
      refine lv_iload_n hx hb dX6_answer_208 rfl (lv_at hl 4 rfl) ?_
      refine q_iald X hw 24 (hL.2 24 (by decide) (by decide) (by decide)) (j := n1.toNatClampNeg) pn1 (show n1.toNatClampNeg < 24 by omega) dX6_answer_209 ?_
      refine lv_topi (fun x43 ex43 => ?_)
      refine lv_if_ne (tgt := 218) hx hb dX6_answer_210 (by decide) (fun h44 => ?_) (fun h44 => ?_)
      · refine lv_aload_n hx hb dX6_answer_218 rfl (lv_at hl 3 rfl) ?_
        refine r_get X hw 20 _ 24 (hL.1) rfl rfl k_X6 (by decide) fl_RX6_79 dX6_answer_219 ?_
        refine lv_iload_n hx hb dX6_answer_222 rfl (lv_at hl 4 rfl) ?_
        refine q_iald X hw 24 (hL.2 24 (by decide) (by decide) (by decide)) (j := n1.toNatClampNeg) pn1 (show n1.toNatClampNeg < 24 by omega) dX6_answer_223 ?_
        refine lv_topi (fun x45 ex45 => ?_)
        have ex45 := (ex45).trans ex43.symm; have ex45 := ex45.symm; subst ex45
        subst ex43 ex40 ex38 ex36 ex34 ex33 ex31 ex30 ex29 ex28 ex22 ex17 ex16 ex13 ex12 ex11 ex1
        exact r_iret X hw hr rfl hlk (Nat.le_of_ble_eq_true rfl) (Nat.le_of_ble_eq_true rfl) (gRE_of ((if_neg h15).trans ((if_neg h44).trans rfl)) hB) dX6_answer_224
      · refine lv_aload_n hx hb dX6_answer_213 rfl (lv_at hl 3 rfl) ?_
        refine lv_iload_n hx hb dX6_answer_214 rfl (lv_at hl 4 rfl) ?_
        refine W.eq (g2 := F0 m 215 ls [.int (nI n1.toNatClampNeg), .ref (ad 20 0)]) (by rw [← (pn1)]) ?_
        refine r_qv X hw (r_runV X (c_q_goesOn l G lv ad _ n1.toNatClampNeg hL hB bn1 _) cy_X6_goesOn ml_RX6_170 ⟨(Nat.le_of_ble_eq_true rfl), (Nat.le_of_ble_eq_true rfl)⟩ gP.blind (g_recv X hw 20 0 hL.1 rfl rfl) (gP_call X hw _) rfl hl.1 rfl (Nat.le_of_ble_eq_true rfl) dX6_answer_215 ⟨(Nat.le_of_ble_eq_true rfl), (Nat.le_of_ble_eq_true rfl)⟩) (fun H locs hB hw => ?_)
        refine lv_aload_n hx hb dX6_answer_218 rfl (lv_at hl 3 rfl) ?_
        refine r_get X hw 20 _ 24 (hL.1) rfl rfl k_X6 (by decide) fl_RX6_79 dX6_answer_219 ?_
        refine lv_iload_n hx hb dX6_answer_222 rfl (lv_at hl 4 rfl) ?_
        refine q_iald X hw 24 (hL.2 24 (by decide) (by decide) (by decide)) (j := n1.toNatClampNeg) pn1 (show n1.toNatClampNeg < 24 by omega) dX6_answer_223 ?_
        refine lv_topi (fun x47 ex47 => ?_)
        subst ex47 ex43 ex40 ex38 ex36 ex34 ex33 ex31 ex30 ex29 ex28 ex22 ex17 ex16 ex13 ex12 ex11 ex1
        exact r_iret X hw hr rfl hlk (Nat.le_of_ble_eq_true rfl) (Nat.le_of_ble_eq_true rfl) (gRE_of ((if_neg h15).trans ((if_pos h44).trans rfl)) hB) dX6_answer_224
    · refine lv_iconst (v := 0) hx hb dX6_answer_68 (by decide) ?_
      subst ex13 ex12 ex11 ex1
      exact r_iret X hw hr rfl hlk (Nat.le_of_ble_eq_true rfl) (Nat.le_of_ble_eq_true rfl) (gRE_of ((if_pos h15).trans rfl) hB) dX6_answer_69
  · refine lv_if_eq (tgt := 48) hx hb dX6_answer_7 (by decide) (fun h2 => ?_) (fun h2 => ?_)
    · refine lv_iconst (v := 0) hx hb dX6_answer_48 (by decide) ?_
      exact J10 _ ((if_pos h2).trans rfl).symm _ hl
    · obtain ⟨pn1, bn1, rn1⟩ := q_isRun_of hB0 (n := n1) (by rw [← ex1]; exact h2)
      refine lv_aload_n hx hb dX6_answer_10 rfl (lv_at hl 1 rfl) ?_
      refine r_get X hw 20 _ 24 (hL.1) rfl rfl k_X6 (by decide) fl_RX6_79 dX6_answer_11 ?_
      refine lv_iload_n hx hb dX6_answer_14 rfl (lv_at hl 2 rfl) ?_
      refine q_iald X hw 24 (hL.2 24 (by decide) (by decide) (by decide)) (j := n1.toNatClampNeg) pn1 (show n1.toNatClampNeg < 24 by omega) dX6_answer_15 ?_
      refine lv_topi (fun x3 ex3 => ?_)
      refine lv_if_ne (tgt := 48) hx hb dX6_answer_16 (by decide) (fun h4 => ?_) (fun h4 => ?_)
      · refine lv_iconst (v := 0) hx hb dX6_answer_48 (by decide) ?_
        subst ex3; exact J10 _ ((if_neg h2).trans ((if_neg h4).trans rfl)).symm _ hl
      · refine lv_aload_n hx hb dX6_answer_19 rfl (lv_at hl 1 rfl) ?_
        refine r_get X hw 20 _ 8 (hL.1) rfl rfl k_X6 (by decide) fl_RX6_34 dX6_answer_20 ?_
        refine lv_aload_n hx hb dX6_answer_23 rfl (lv_at hl 1 rfl) ?_
        refine r_get X hw 20 _ 16 (hL.1) rfl rfl k_X6 (by decide) fl_RX6_55 dX6_answer_24 ?_
        refine lv_iload_n hx hb dX6_answer_27 rfl (lv_at hl 2 rfl) ?_
        refine q_iald X hw 16 (hL.2 16 (by decide) (by decide) (by decide)) (j := n1.toNatClampNeg) pn1 (show n1.toNatClampNeg < 24 by omega) dX6_answer_28 ?_
        refine lv_topi (fun x5 ex5 => ?_)
        obtain ⟨px5, bx5⟩ := MBI.get hB 16 n1.toNatClampNeg (show n1.toNatClampNeg < 24 by omega) (by decide) ex5
        have bx5 : x5.toNatClampNeg < 4 := bx5
        refine q_iald X hw 8 (hL.2 8 (by decide) (by decide) (by decide)) (j := x5.toNatClampNeg) px5 (show x5.toNatClampNeg < 4 by omega) dX6_answer_29 ?_
        refine lv_topi (fun x6 ex6 => ?_)
        refine lv_aload_n hx hb dX6_answer_30 rfl (lv_at hl 1 rfl) ?_
        refine r_get X hw 20 _ 11 (hL.1) rfl rfl k_X6 (by decide) fl_RX6_43 dX6_answer_31 ?_
        refine lv_aload_n hx hb dX6_answer_34 rfl (lv_at hl 1 rfl) ?_
        refine r_get X hw 20 _ 25 (hL.1) rfl rfl k_X6 (by decide) fl_RX6_82 dX6_answer_35 ?_
        refine lv_iload_n hx hb dX6_answer_38 rfl (lv_at hl 2 rfl) ?_
        refine q_iald X hw 25 (hL.2 25 (by decide) (by decide) (by decide)) (j := n1.toNatClampNeg) pn1 (show n1.toNatClampNeg < 24 by omega) dX6_answer_39 ?_
        refine lv_topi (fun x7 ex7 => ?_)
        obtain ⟨px7, bx7⟩ := hA.of rn1 (by rw [← ex3]; exact h4) ex7
        refine q_iald X hw 11 (hL.2 11 (by decide) (by decide) (by decide)) (j := x7.toNatClampNeg) px7 (show x7.toNatClampNeg < 16 by omega) dX6_answer_40 ?_
        refine lv_topi (fun x8 ex8 => ?_)
        refine lv_icmp_lt (tgt := 48) hx hb dX6_answer_41 (by decide) (fun h9 => ?_) (fun h9 => ?_)
        · refine lv_iconst (v := 0) hx hb dX6_answer_48 (by decide) ?_
          subst ex8 ex7 ex6 ex5 ex3; exact J10 _ ((if_neg h2).trans ((if_pos h4).trans ((if_pos h9).trans rfl))).symm _ hl
        · refine lv_iconst (v := 1) hx hb dX6_answer_44 (by decide) ?_
          refine lv_goto (tgt := 49) hx hb dX6_answer_45 (by decide) ?_
          subst ex8 ex7 ex6 ex5 ex3; exact J10 _ ((if_neg h2).trans ((if_pos h4).trans ((if_neg h9).trans rfl))).symm _ hl
def q_wake_L (n0 : Nat) (D : gCT) (n1 : Int32) (nw : Int32) (k : Nat) : Int32 × gCT := match n0 with
  | 0 => (0, D)
  | n0 + 1 =>
    let x101 : Int32 := D 20 0 2;
    if x101 ≤ (nI k) then (
      let C103 : gCT := cs D 21 24 n1.toNatClampNeg 0;
      if nw = 0 then (
        (nw, C103)
      ) else (
        let C105 : gCT := q_starts C103 n1.toNatClampNeg;
        (nw, C105)
      )
    ) else (
      let x106 : Int32 := D 21 31 k;
      let x107 : Int32 := D 21 27 ((16 * n1.toNatClampNeg) + x106.toNatClampNeg);
      let x117 : Int32 :=
        if nw = 0 then (
          let x109 : Int32 := D 21 30 k;
          if x109 = n1 then (
            let x111 : Int32 := D 21 32 k;
            if x111 = x107 then (
              let x114 : Int32 := D 21 12 x106.toNatClampNeg;
              if x114 = x107 then (
                0
              ) else (
                1
              )
            ) else (
              0
            )
          ) else (
            0
          )
        ) else (
          1
        );
      q_wake_L n0 D n1 x117 (k + 1)
    )
def q_wake (C : gCT) (n1 : Int32) : Int32 × gCT :=
  let x1 : Int32 := (q_isRun C n1).1;
  let x7 : Int32 :=
    if x1 = 0 then (
      0
    ) else (
      let x4 : Int32 := C 21 24 n1.toNatClampNeg;
      if x4 = 1 then (
        1
      ) else (
        0
      )
    );
  let x8 : Int32 := if q_thr x1 x7 1 = 0 then 1 else 0;
  let C9 : gCT := cs C 20 0 3 (q_thr x1 x7 1);
  if x8 = 0 then (
    (0, C9)
  ) else (
    let x11 : Int32 := C 21 17 n1.toNatClampNeg;
    let x12 : Int32 := C 21 16 n1.toNatClampNeg;
    let x13 : Int32 := C 21 6 x12.toNatClampNeg;
    let x16 : Int32 :=
      if (x13 - 1) ≤ x11 then (
        0
      ) else (
        1
      );
    q_wake_L 513 C9 n1 x16 0
  )
set_option maxHeartbeats 4000000 in
set_option maxRecDepth 100000 in
theorem c_q_wake (l : Launch) (G : gG) (lv : gLv) (ad : gAd) (C : gCT) (n1 : Int32) (hL : gLM lv) (hB : MBI C) (hV : gVer C) : gMi l yX6_wake cX6_wake 5 (some .boolean) (gRm 6 138 0 0) G [.ref (ad 20 0), .int n1] lv ad (gF G C ad) (gRi G lv ad MBI (q_wake C n1)) := by
  refine r_met (own := RX6) (by decide) rfl (Nat.le_of_ble_eq_true rfl) ?_
  intro p e s m below meth c ls X hw hr hlk _ hl
  have hx := X.1.1; have hb := X.1.2.1; have hml := X.1.2.2.1; have hown := X.1.2.2.2.1; have hts := X.1.2.2.2.2
  have hl : lv_has ls 5 [(0, .ref (ad 20 0)), (1, .int n1)] := hl
  have hB0 := hB
  have L_q_wake_L : ∀ (n0 : Nat) (D : gCT) (nw : Int32) (k : Nat), MBI D → ((n1 = nI n1.toNatClampNeg ∧ n1.toNatClampNeg < 24 ∧ 1 ≤ (D 21 6 (D 21 16 n1.toNatClampNeg).toNatClampNeg).toNatClampNeg) ∧ (nw = 0 ∨ nw = 1) ∧ k ≤ (D 20 0 2).toNatClampNeg ∧ (D 20 0 2).toNatClampNeg < k + n0) → ∀ (H : Heap) (locs : List Loc), gW G (gA lv ad s.heap.size) s.heap H locs lv ad (gF G D ad) → ∀ ls : Array Slot, lv_has ls 5 [(0, .ref (ad 20 0)), (1, .int n1), (2, .int nw), (3, .int (nI k))] → W p l e (gRm 6 138 0 0) s m ([.ref (ad 20 0), .int n1] : List Value).toArray below meth c H locs 0 0 (MQ below (gQi G (gA lv ad s.heap.size) (gRi G lv ad MBI (q_wake_L n0 D n1 nw k))) ([.ref (ad 20 0), .int n1] : List Value).toArray s (gRm 6 138 0 0).cells (gRm 6 138 0 0).slots (gA lv ad s.heap.size)) (F0 m 68 ls []) := by
    intro n0
    induction n0 with
    | zero => intro D nw k _ hinv; exact absurd hinv (by rintro ⟨-, -, h1, h2⟩; omega)
    | succ n0 ih =>
      intro D nw k hB hinv H locs hw ls hl
      obtain ⟨⟨pn1, bn1, hv1⟩, hi5, hi1, hi2⟩ := hinv; have hi0 := (hB.answers (x := D 20 0 2) rfl).2
      refine lv_iload_n hx hb dX6_wake_68 rfl (lv_at hl 3 rfl) ?_
      refine lv_aload_n hx hb dX6_wake_69 rfl (lv_at hl 0 rfl) ?_
      refine r_get X hw 20 _ 34 (hL.1) rfl rfl k_X6 (by decide) fl_RX6_133 dX6_wake_70 ?_
      refine lv_topi (fun x101 ex101 => ?_)
      obtain ⟨px101, bx101⟩ := MBI.answers hB ex101
      refine lv_icmp_ge (tgt := 147) hx hb dX6_wake_73 (by decide) (fun h102 => ?_) (fun h102 => ?_)
      · have nh102 := (nat_le px101 rfl (by omega) (by omega)).mp h102
        refine lv_aload_n hx hb dX6_wake_147 rfl (lv_at hl 0 rfl) ?_
        refine r_get X hw 20 _ 24 (hL.1) rfl rfl k_X6 (by decide) fl_RX6_79 dX6_wake_148 ?_
        refine lv_iload_n hx hb dX6_wake_151 rfl (lv_at hl 1 rfl) ?_
        refine lv_iconst (v := 0) hx hb dX6_wake_152 (by decide) ?_
        refine q_iast X hw 24 (hL.2 24 (by decide) (by decide) (by decide)) (j := n1.toNatClampNeg) pn1 (show n1.toNatClampNeg < 24 by omega) dX6_wake_153 (fun H locs hw => ?_)
        have hB := MBI.set hB (k := 24) (j := n1.toNatClampNeg) (v := 0) (by decide) (fun h => absurd rfl h)
        refine lv_iload_n hx hb dX6_wake_154 rfl (lv_at hl 2 rfl) ?_
        refine lv_if_eq (tgt := 163) hx hb dX6_wake_155 (by decide) (fun h104 => ?_) (fun h104 => ?_)
        · refine lv_iload_n hx hb dX6_wake_163 rfl (lv_at hl 2 rfl) ?_
          subst ex101
          exact r_iret X hw hr (nar_z (by first | exact hi5 | decide)) hlk (Nat.le_of_ble_eq_true rfl) (Nat.le_of_ble_eq_true rfl) (gRE_of ((if_pos h102).trans ((if_pos h104).trans rfl)) hB) dX6_wake_164
        · refine lv_aload_n hx hb dX6_wake_158 rfl (lv_at hl 0 rfl) ?_
          refine lv_iload_n hx hb dX6_wake_159 rfl (lv_at hl 1 rfl) ?_
          refine W.eq (g2 := F0 m 160 ls [.int (nI n1.toNatClampNeg), .ref (ad 20 0)]) (by rw [← (pn1)]) ?_
          refine r_qv X hw (r_runV X (c_q_starts l G lv ad _ n1.toNatClampNeg hL hB bn1 (by simp (disch := decide) only [cs_k, cs_n]; exact hv1) _) cy_X6_starts ml_RX6_177 ⟨(Nat.le_of_ble_eq_true rfl), (Nat.le_of_ble_eq_true rfl)⟩ gP.blind (g_recv X hw 20 0 hL.1 rfl rfl) (gP_call X hw _) rfl hl.1 rfl (Nat.le_of_ble_eq_true rfl) dX6_wake_160 ⟨(Nat.le_of_ble_eq_true rfl), (Nat.le_of_ble_eq_true rfl)⟩) (fun H locs hB hw => ?_)
          refine lv_iload_n hx hb dX6_wake_163 rfl (lv_at hl 2 rfl) ?_
          subst ex101
          exact r_iret X hw hr (nar_z (by first | exact hi5 | decide)) hlk (Nat.le_of_ble_eq_true rfl) (Nat.le_of_ble_eq_true rfl) (gRE_of ((if_pos h102).trans ((if_neg h104).trans rfl)) hB) dX6_wake_164
      · have nh102 := (not_congr (nat_le px101 rfl (by omega) (by omega))).mp h102
        refine lv_aload_n hx hb dX6_wake_76 rfl (lv_at hl 0 rfl) ?_
        refine r_get X hw 20 _ 27 (hL.1) rfl rfl k_X6 (by decide) fl_RX6_88 dX6_wake_77 ?_
        refine lv_bipush (v := 16) hx hb dX6_wake_80 (by decide) ?_
        refine lv_iload_n hx hb dX6_wake_82 rfl (lv_at hl 1 rfl) ?_
        refine lv_imul hx hb dX6_wake_83 ?_
        refine lv_aload_n hx hb dX6_wake_84 rfl (lv_at hl 0 rfl) ?_
        refine r_get X hw 20 _ 31 (hL.1) rfl rfl k_X6 (by decide) fl_RX6_97 dX6_wake_85 ?_
        refine lv_iload_n hx hb dX6_wake_88 rfl (lv_at hl 3 rfl) ?_
        refine q_iald X hw 31 (hL.2 31 (by decide) (by decide) (by decide)) (j := k) rfl (show k < 1024 by omega) dX6_wake_89 ?_
        refine lv_topi (fun x106 ex106 => ?_)
        obtain ⟨px106, bx106⟩ := MBI.get hB 31 k (show k < 1024 by omega) (by decide) ex106
        have bx106 : x106.toNatClampNeg < 16 := bx106
        refine lv_iadd hx hb dX6_wake_90 ?_
        refine q_iald X hw 27 (hL.2 27 (by decide) (by decide) (by decide)) (j := ((16 * n1.toNatClampNeg) + x106.toNatClampNeg)) (nat_add (nat_mul (show (16 : Int32) = nI 16 from rfl) pn1) px106) (show ((16 * n1.toNatClampNeg) + x106.toNatClampNeg) < 384 by omega) dX6_wake_91 ?_
        refine lv_topi (fun x107 ex107 => ?_)
        refine lv_istore (lv' := [(4, .int x107), (0, .ref (ad 20 0)), (1, .int n1), (2, .int nw), (3, .int (nI k))]) hx hb dX6_wake_92 hl (by decide) rfl (fun ls hl => ?_)
        refine lv_iload_n hx hb dX6_wake_94 rfl (lv_at hl 3 rfl) ?_
        refine r_J (nL := 5) (J := 140) (rest := []) (L := [(4, .int x107), (0, .ref (ad 20 0)), (1, .int n1), (2, .int nw), (3, .int (nI k))]) (if nw = 0 then ( let x109 : Int32 := D 21 30 k; if x109 = n1 then ( let x111 : Int32 := D 21 32 k; if x111 = x107 then ( let x114 : Int32 := D 21 12 x106.toNatClampNeg; if x114 = x107 then ( 0 ) else ( 1 ) ) else ( 0 ) ) else ( 0 ) ) else ( 1 )) (fun x117 ex117 ls hl => ?_) (fun J116 => ?_)
        · refine lv_istore_n (lv' := [(2, .int x117), (4, .int x107), (0, .ref (ad 20 0)), (1, .int n1), (3, .int (nI k))]) hx hb dX6_wake_140 rfl hl (by decide) rfl (fun ls hl => ?_)
          refine lv_iinc (v := nI (k + 1)) (lv' := [(3, .int (nI (k + 1))), (2, .int x117), (4, .int x107), (0, .ref (ad 20 0)), (1, .int n1)]) hx hb dX6_wake_141 hl (k := 4) rfl (by rw [← nI_1]; rfl) (by decide) rfl (fun ls hl => ?_)
          refine lv_goto (tgt := 68) hx hb dX6_wake_144 (by decide) ?_
          subst ex117 ex107 ex106 ex101
          exact r_toQI (ih _ _ (k + 1) hB (⟨⟨pn1, bn1, hv1⟩, by (try dsimp only); (repeat' split) <;> first | exact Or.inl rfl | exact Or.inr rfl, by omega, by omega⟩) _ _ hw _ (lv_sub hl [3, 4, 1, 0] rfl)) ((if_neg h102).trans rfl)
        · refine lv_if_ne (tgt := 135) hx hb dX6_wake_95 (by decide) (fun h108 => ?_) (fun h108 => ?_)
          · refine lv_iconst (v := 1) hx hb dX6_wake_135 (by decide) ?_
            refine lv_goto (tgt := 140) hx hb dX6_wake_136 (by decide) ?_
            exact J116 _ ((if_neg h108).trans rfl).symm _ hl
          · refine lv_aload_n hx hb dX6_wake_98 rfl (lv_at hl 1 rfl) ?_
            refine r_get X hw 20 _ 30 (hL.1) rfl rfl k_X6 (by decide) fl_RX6_94 dX6_wake_99 ?_
            refine lv_iload_n hx hb dX6_wake_102 rfl (lv_at hl 4 rfl) ?_
            refine q_iald X hw 30 (hL.2 30 (by decide) (by decide) (by decide)) (j := k) rfl (show k < 1024 by omega) dX6_wake_103 ?_
            refine lv_topi (fun x109 ex109 => ?_)
            refine lv_iload_n hx hb dX6_wake_104 rfl (lv_at hl 2 rfl) ?_
            refine lv_icmp_ne (tgt := 139) hx hb dX6_wake_105 (by decide) (fun h110 => ?_) (fun h110 => ?_)
            · refine lv_iconst (v := 0) hx hb dX6_wake_139 (by decide) ?_
              subst ex109; exact J116 _ ((if_pos h108).trans ((if_neg h110).trans rfl)).symm _ hl
            · refine lv_aload_n hx hb dX6_wake_108 rfl (lv_at hl 1 rfl) ?_
              refine r_get X hw 20 _ 32 (hL.1) rfl rfl k_X6 (by decide) fl_RX6_100 dX6_wake_109 ?_
              refine lv_iload_n hx hb dX6_wake_112 rfl (lv_at hl 4 rfl) ?_
              refine q_iald X hw 32 (hL.2 32 (by decide) (by decide) (by decide)) (j := k) rfl (show k < 1024 by omega) dX6_wake_113 ?_
              refine lv_topi (fun x111 ex111 => ?_)
              refine lv_iload hx hb dX6_wake_114 (lv_at hl 0 rfl) ?_
              refine lv_icmp_ne (tgt := 139) hx hb dX6_wake_116 (by decide) (fun h112 => ?_) (fun h112 => ?_)
              · refine lv_iconst (v := 0) hx hb dX6_wake_139 (by decide) ?_
                subst ex111 ex109; exact J116 _ ((if_pos h108).trans ((if_pos h110).trans ((if_neg h112).trans rfl))).symm _ hl
              · refine lv_aload_n hx hb dX6_wake_119 rfl (lv_at hl 1 rfl) ?_
                refine r_get X hw 20 _ 12 (hL.1) rfl rfl k_X6 (by decide) fl_RX6_46 dX6_wake_120 ?_
                refine lv_aload_n hx hb dX6_wake_123 rfl (lv_at hl 1 rfl) ?_
                refine r_get X hw 20 _ 31 (hL.1) rfl rfl k_X6 (by decide) fl_RX6_97 dX6_wake_124 ?_
                refine lv_iload_n hx hb dX6_wake_127 rfl (lv_at hl 4 rfl) ?_
                refine q_iald X hw 31 (hL.2 31 (by decide) (by decide) (by decide)) (j := k) rfl (show k < 1024 by omega) dX6_wake_128 ?_
                refine lv_topi (fun x113 ex113 => ?_)
                have ex113 := (ex113).trans ex106.symm; have ex113 := ex113.symm; subst ex113
                refine q_iald X hw 12 (hL.2 12 (by decide) (by decide) (by decide)) (j := x106.toNatClampNeg) px106 (show x106.toNatClampNeg < 16 by omega) dX6_wake_129 ?_
                refine lv_topi (fun x114 ex114 => ?_)
                refine lv_iload hx hb dX6_wake_130 (lv_at hl 0 rfl) ?_
                refine lv_icmp_eq (tgt := 139) hx hb dX6_wake_132 (by decide) (fun h115 => ?_) (fun h115 => ?_)
                · refine lv_iconst (v := 0) hx hb dX6_wake_139 (by decide) ?_
                  subst ex114 ex111 ex109; exact J116 _ ((if_pos h108).trans ((if_pos h110).trans ((if_pos h112).trans ((if_pos h115).trans rfl)))).symm _ hl
                · refine lv_iconst (v := 1) hx hb dX6_wake_135 (by decide) ?_
                  refine lv_goto (tgt := 140) hx hb dX6_wake_136 (by decide) ?_
                  subst ex114 ex111 ex109; exact J116 _ ((if_pos h108).trans ((if_pos h110).trans ((if_pos h112).trans ((if_neg h115).trans rfl)))).symm _ hl
  refine lv_aload_n hx hb dX6_wake_0 rfl (lv_at hl 0 rfl) ?_
  refine lv_aload_n hx hb dX6_wake_1 rfl (lv_at hl 0 rfl) ?_
  refine lv_iload_n hx hb dX6_wake_2 rfl (lv_at hl 1 rfl) ?_
  refine r_qiro X hw (q_isRun_C _ n1) (r_runV X (c_q_isRun l G lv ad _ n1 hL hB  _) cy_X6_isRun ml_RX6_180 ⟨(Nat.le_of_ble_eq_true rfl), (Nat.le_of_ble_eq_true rfl)⟩ gP.blind (g_recv X hw 20 0 hL.1 rfl rfl) (gP_call X hw _) rfl hl.1 rfl (Nat.le_of_ble_eq_true rfl) dX6_wake_3 ⟨(Nat.le_of_ble_eq_true rfl), (Nat.le_of_ble_eq_true rfl)⟩) (fun H locs hw => ?_)
  refine lv_topi (fun x1 ex1 => ?_)
  refine lv_aload_n hx hb dX6_wake_6 rfl (lv_at hl 0 rfl) ?_
  refine lv_iload_n hx hb dX6_wake_7 rfl (lv_at hl 1 rfl) ?_
  refine r_qiro X hw (q_isRun_C _ n1) (r_runV X (c_q_isRun l G lv ad _ n1 hL hB  _) cy_X6_isRun ml_RX6_180 ⟨(Nat.le_of_ble_eq_true rfl), (Nat.le_of_ble_eq_true rfl)⟩ gP.blind (g_recv X hw 20 0 hL.1 rfl rfl) (gP_call X hw _) rfl hl.1 rfl (Nat.le_of_ble_eq_true rfl) dX6_wake_8 ⟨(Nat.le_of_ble_eq_true rfl), (Nat.le_of_ble_eq_true rfl)⟩) (fun H locs hw => ?_)
  refine lv_topi (fun x2 ex2 => ?_)
  have ex2 := (ex2).trans ex1.symm; have ex2 := ex2.symm; subst ex2
  refine r_J (nL := 5) (J := 29) (rest := [.int x1, .ref (ad 20 0)]) (L := [(0, .ref (ad 20 0)), (1, .int n1)]) (if x1 = 0 then ( 0 ) else ( let x4 : Int32 := C 21 24 n1.toNatClampNeg; if x4 = 1 then ( 1 ) else ( 0 ) )) (fun x7 ex7 ls hl => ?_) (fun J6 => ?_)
  · refine lv_iconst (v := 1) hx hb dX6_wake_29 (by decide) ?_
    refine r_qi X hw (r_runV X (c_q_goes1 l G lv ad _ x1 x7 1 hL hB _) cy_X6_goes ml_RX6_121 ⟨(Nat.le_of_ble_eq_true rfl), (Nat.le_of_ble_eq_true rfl)⟩ gP.blind (g_recv X hw 20 0 hL.1 rfl rfl) (gP_call X hw _) rfl hl.1 rfl (Nat.le_of_ble_eq_true rfl) dX6_wake_30 ⟨(Nat.le_of_ble_eq_true rfl), (Nat.le_of_ble_eq_true rfl)⟩) (fun H locs hB hw => ?_)
    dsimp only at hB hw
    refine lv_topi (fun x8 ex8 => ?_)
    have ex8 : x8 = (if q_thr x1 x7 1 = 0 then 1 else 0) := ex8
    refine lv_if_ne (tgt := 38) hx hb dX6_wake_33 (by decide) (fun h10 => ?_) (fun h10 => ?_)
    · obtain ⟨g1, g2, g3⟩ := q_goes_of (a := x1) (b := x7) (c := 1) (by rw [← ex8]; exact h10)
      obtain ⟨pn1, bn1, rn1⟩ := q_isRun_of hB0 (n := n1) (by rw [← ex1]; exact g1)
      have hv1 := hV _ rn1
      refine lv_aload_n hx hb dX6_wake_38 rfl (lv_at hl 0 rfl) ?_
      refine r_get X hw 20 _ 17 (hL.1) rfl rfl k_X6 (by decide) fl_RX6_58 dX6_wake_39 ?_
      refine lv_iload_n hx hb dX6_wake_42 rfl (lv_at hl 1 rfl) ?_
      refine q_iald X hw 17 (hL.2 17 (by decide) (by decide) (by decide)) (j := n1.toNatClampNeg) pn1 (show n1.toNatClampNeg < 24 by omega) dX6_wake_43 ?_
      refine lv_topi (fun x11 ex11 => ?_)
      obtain ⟨px11, bx11⟩ := MBI.get hB 17 n1.toNatClampNeg (show n1.toNatClampNeg < 24 by omega) (by decide) ex11
      have bx11 : x11.toNatClampNeg < 6 := bx11
      have ex11 := ex11.trans (congrFun (congrFun (cs_k _ _ _ _ (by decide)) _) _)
      refine lv_aload_n hx hb dX6_wake_44 rfl (lv_at hl 0 rfl) ?_
      refine r_get X hw 20 _ 6 (hL.1) rfl rfl k_X6 (by decide) fl_RX6_28 dX6_wake_45 ?_
      refine lv_aload_n hx hb dX6_wake_48 rfl (lv_at hl 0 rfl) ?_
      refine r_get X hw 20 _ 16 (hL.1) rfl rfl k_X6 (by decide) fl_RX6_55 dX6_wake_49 ?_
      refine lv_iload_n hx hb dX6_wake_52 rfl (lv_at hl 1 rfl) ?_
      refine q_iald X hw 16 (hL.2 16 (by decide) (by decide) (by decide)) (j := n1.toNatClampNeg) pn1 (show n1.toNatClampNeg < 24 by omega) dX6_wake_53 ?_
      refine lv_topi (fun x12 ex12 => ?_)
      obtain ⟨px12, bx12⟩ := MBI.get hB 16 n1.toNatClampNeg (show n1.toNatClampNeg < 24 by omega) (by decide) ex12
      have bx12 : x12.toNatClampNeg < 4 := bx12
      have ex12 := ex12.trans (congrFun (congrFun (cs_k _ _ _ _ (by decide)) _) _)
      refine q_iald X hw 6 (hL.2 6 (by decide) (by decide) (by decide)) (j := x12.toNatClampNeg) px12 (show x12.toNatClampNeg < 4 by omega) dX6_wake_54 ?_
      refine lv_topi (fun x13 ex13 => ?_)
      obtain ⟨px13, bx13⟩ := MBI.get hB 6 x12.toNatClampNeg (show x12.toNatClampNeg < 4 by omega) (by decide) ex13
      have bx13 : x13.toNatClampNeg < 7 := bx13
      have ex13 := ex13.trans (congrFun (congrFun (cs_k _ _ _ _ (by decide)) _) _)
      refine lv_iconst (v := 1) hx hb dX6_wake_55 (by decide) ?_
      refine lv_isub hx hb dX6_wake_56 ?_
      refine r_J (nL := 5) (J := 65) (rest := []) (L := [(0, .ref (ad 20 0)), (1, .int n1)]) (if (x13 - 1) ≤ x11 then ( 0 ) else ( 1 )) (fun x16 ex16 ls hl => ?_) (fun J15 => ?_)
      · refine lv_istore_n (lv' := [(2, .int x16), (0, .ref (ad 20 0)), (1, .int n1)]) hx hb dX6_wake_65 rfl hl (by decide) rfl (fun ls hl => ?_)
        refine lv_iconst (v := 0) hx hb dX6_wake_66 (by decide) ?_
        refine lv_istore_n (lv' := [(3, .int 0), (2, .int x16), (0, .ref (ad 20 0)), (1, .int n1)]) hx hb dX6_wake_67 rfl hl (by decide) rfl (fun ls hl => ?_)
        subst ex16 ex13 ex12 ex11 ex8 ex7 ex1
        exact r_toQI (L_q_wake_L 513 _ _ 0 hB (⟨⟨pn1, bn1, by simp (disch := decide) only [cs_k]; exact hv1⟩, by (try dsimp only); (repeat' split) <;> first | exact Or.inl rfl | exact Or.inr rfl, Nat.zero_le _, by have := (hB.answers rfl).2; omega⟩) _ _ hw _ (lv_sub hl [2, 3, 1, 0] rfl)) ((if_neg h10).trans rfl)
      · refine lv_icmp_ge (tgt := 64) hx hb dX6_wake_57 (by decide) (fun h14 => ?_) (fun h14 => ?_)
        · refine lv_iconst (v := 0) hx hb dX6_wake_64 (by decide) ?_
          exact J15 _ ((if_pos h14).trans rfl).symm _ hl
        · refine lv_iconst (v := 1) hx hb dX6_wake_60 (by decide) ?_
          refine lv_goto (tgt := 65) hx hb dX6_wake_61 (by decide) ?_
          exact J15 _ ((if_neg h14).trans rfl).symm _ hl
    · refine lv_iconst (v := 0) hx hb dX6_wake_36 (by decide) ?_
      subst ex8 ex7 ex1
      exact r_iret X hw hr nar_b0 hlk (Nat.le_of_ble_eq_true rfl) (Nat.le_of_ble_eq_true rfl) (gRE_of ((if_pos h10).trans rfl) hB) dX6_wake_37
  · refine lv_if_eq (tgt := 28) hx hb dX6_wake_11 (by decide) (fun h3 => ?_) (fun h3 => ?_)
    · refine lv_iconst (v := 0) hx hb dX6_wake_28 (by decide) ?_
      exact J6 _ ((if_pos h3).trans rfl).symm _ hl
    · obtain ⟨pn1, bn1, rn1⟩ := q_isRun_of hB0 (n := n1) (by rw [← ex1]; exact h3)
      refine lv_aload_n hx hb dX6_wake_14 rfl (lv_at hl 0 rfl) ?_
      refine r_get X hw 20 _ 24 (hL.1) rfl rfl k_X6 (by decide) fl_RX6_79 dX6_wake_15 ?_
      refine lv_iload_n hx hb dX6_wake_18 rfl (lv_at hl 1 rfl) ?_
      refine q_iald X hw 24 (hL.2 24 (by decide) (by decide) (by decide)) (j := n1.toNatClampNeg) pn1 (show n1.toNatClampNeg < 24 by omega) dX6_wake_19 ?_
      refine lv_topi (fun x4 ex4 => ?_)
      refine lv_iconst (v := 1) hx hb dX6_wake_20 (by decide) ?_
      refine lv_icmp_ne (tgt := 28) hx hb dX6_wake_21 (by decide) (fun h5 => ?_) (fun h5 => ?_)
      · refine lv_iconst (v := 0) hx hb dX6_wake_28 (by decide) ?_
        subst ex4; exact J6 _ ((if_neg h3).trans ((if_neg h5).trans rfl)).symm _ hl
      · refine lv_iconst (v := 1) hx hb dX6_wake_24 (by decide) ?_
        refine lv_goto (tgt := 29) hx hb dX6_wake_25 (by decide) ?_
        subst ex4; exact J6 _ ((if_neg h3).trans ((if_pos h5).trans rfl)).symm _ hl

def q_starts_L2 (n0 : Nat) (D : gCT) (r : Nat) (k : Nat) : gCT := match n0 with
  | 0 => D
  | n0 + 1 =>
    if 16 ≤ (nI k) then (
      let C102 : gCT := q_goesOn D r;
      C102
    ) else (
      let x103 : Int32 := D 21 12 k;
      let C104 : gCT := cs D 21 27 ((16 * r) + k) x103;
      let C105 : gCT := cs C104 21 28 ((16 * r) + k) 0;
      q_starts_L2 n0 C105 r (k + 1)
    )
def q_starts_L1 (n0 : Nat) (D : gCT) (r : Nat) (k : Nat) : gCT := match n0 with
  | 0 => D
  | n0 + 1 =>
    if 8 ≤ (nI k) then (
      q_starts_L2 17 D r 0
    ) else (
      let C202 : gCT := cs D 21 21 ((8 * r) + k) 0;
      q_starts_L1 n0 C202 r (k + 1)
    )
def q_starts (C : gCT) (r : Nat) : gCT :=
  let x1 : Int32 := C 21 16 r;
  let x2 : Int32 := C 21 6 x1.toNatClampNeg;
  let C3 : gCT := cs C 21 17 r (x2 - 1);
  let x5 : Int32 := C 21 7 x1.toNatClampNeg;
  let C6 : gCT := cs C3 21 23 r x5;
  let C7 : gCT := cs C6 21 18 r 0;
  let C8 : gCT := cs C7 21 20 r 0;
  let C9 : gCT := cs C8 21 22 r 0;
  q_starts_L1 9 C9 r 0
set_option maxHeartbeats 4000000 in
set_option maxRecDepth 100000 in
theorem c_q_starts (l : Launch) (G : gG) (lv : gLv) (ad : gAd) (C : gCT) (r : Nat) (hL : gLM lv) (hB : MBI C) (hr24 : r < 24) (hv : 1 ≤ (C 21 6 (C 21 16 r).toNatClampNeg).toNatClampNeg) : gMv l yX6_starts cX6_starts 3 (gRm 5 116 0 0) G [.ref (ad 20 0), .int (nI r)] lv ad (gF G C ad) (gRv G lv ad MBI (q_starts C r)) := by
  refine r_met (own := RX6) (by decide) rfl (Nat.le_of_ble_eq_true rfl) ?_
  intro p e s m below meth c ls X hw hr hlk _ hl
  have hx := X.1.1; have hb := X.1.2.1; have hml := X.1.2.2.1; have hown := X.1.2.2.2.1; have hts := X.1.2.2.2.2
  have hl : lv_has ls 3 [(0, .ref (ad 20 0)), (1, .int (nI r))] := hl
  have L_q_starts_L2 : ∀ (n0 : Nat) (D : gCT) (k : Nat), MBI D → (k ≤ 16 ∧ k + n0 = 17) → ∀ (H : Heap) (locs : List Loc), gW G (gA lv ad s.heap.size) s.heap H locs lv ad (gF G D ad) → ∀ ls : Array Slot, lv_has ls 3 [(0, .ref (ad 20 0)), (1, .int (nI r)), (2, .int (nI k))] → W p l e (gRm 5 116 0 0) s m ([.ref (ad 20 0), .int (nI r)] : List Value).toArray below meth c H locs 0 0 (MQ below (gQv G (gA lv ad s.heap.size) (gRv G lv ad MBI (q_starts_L2 n0 D r k))) ([.ref (ad 20 0), .int (nI r)] : List Value).toArray s (gRm 5 116 0 0).cells (gRm 5 116 0 0).slots (gA lv ad s.heap.size)) (F0 m 85 ls []) := by
    intro n0
    induction n0 with
    | zero => intro D k _ hinv; exact absurd hinv (by rintro ⟨h1, h2⟩; omega)
    | succ n0 ih =>
      intro D k hB hinv H locs hw ls hl
      obtain ⟨hi1, hi2⟩ := hinv
      refine lv_iload_n hx hb dX6_starts_85 rfl (lv_at hl 2 rfl) ?_
      refine lv_bipush (v := 16) hx hb dX6_starts_86 (by decide) ?_
      refine lv_icmp_ge (tgt := 126) hx hb dX6_starts_88 (by decide) (fun h101 => ?_) (fun h101 => ?_)
      · have nh101 := (nat_le (show (16 : Int32) = nI 16 from rfl) rfl (by omega) (by omega)).mp h101
        refine lv_aload_n hx hb dX6_starts_126 rfl (lv_at hl 0 rfl) ?_
        refine lv_iload_n hx hb dX6_starts_127 rfl (lv_at hl 1 rfl) ?_
        refine r_qv X hw (r_runV X (c_q_goesOn l G lv ad _ r hL hB hr24 _) cy_X6_goesOn ml_RX6_170 ⟨(Nat.le_of_ble_eq_true rfl), (Nat.le_of_ble_eq_true rfl)⟩ gP.blind (g_recv X hw 20 0 hL.1 rfl rfl) (gP_call X hw _) rfl hl.1 rfl (Nat.le_of_ble_eq_true rfl) dX6_starts_128 ⟨(Nat.le_of_ble_eq_true rfl), (Nat.le_of_ble_eq_true rfl)⟩) (fun H locs hB hw => ?_)
        exact r_vret X hw hr hlk (Nat.le_of_ble_eq_true rfl) (Nat.le_of_ble_eq_true rfl) (gREv_of ((if_pos h101).trans rfl) hB) dX6_starts_131
      · have nh101 := (not_congr (nat_le (show (16 : Int32) = nI 16 from rfl) rfl (by omega) (by omega))).mp h101
        refine lv_aload_n hx hb dX6_starts_91 rfl (lv_at hl 0 rfl) ?_
        refine r_get X hw 20 _ 27 (hL.1) rfl rfl k_X6 (by decide) fl_RX6_88 dX6_starts_92 ?_
        refine lv_bipush (v := 16) hx hb dX6_starts_95 (by decide) ?_
        refine lv_iload_n hx hb dX6_starts_97 rfl (lv_at hl 1 rfl) ?_
        refine lv_imul hx hb dX6_starts_98 ?_
        refine lv_iload_n hx hb dX6_starts_99 rfl (lv_at hl 2 rfl) ?_
        refine lv_iadd hx hb dX6_starts_100 ?_
        refine lv_aload_n hx hb dX6_starts_101 rfl (lv_at hl 0 rfl) ?_
        refine r_get X hw 20 _ 12 (hL.1) rfl rfl k_X6 (by decide) fl_RX6_46 dX6_starts_102 ?_
        refine lv_iload_n hx hb dX6_starts_105 rfl (lv_at hl 2 rfl) ?_
        refine q_iald X hw 12 (hL.2 12 (by decide) (by decide) (by decide)) (j := k) rfl (show k < 16 by omega) dX6_starts_106 ?_
        refine lv_topi (fun x103 ex103 => ?_)
        refine q_iast X hw 27 (hL.2 27 (by decide) (by decide) (by decide)) (j := ((16 * r) + k)) (nat_add (nat_mul (show (16 : Int32) = nI 16 from rfl) rfl) rfl) (show ((16 * r) + k) < 384 by omega) dX6_starts_107 (fun H locs hw => ?_)
        have hB := MBI.set hB (k := 27) (j := ((16 * r) + k)) (v := x103) (by decide) (fun h => absurd rfl h)
        refine lv_aload_n hx hb dX6_starts_108 rfl (lv_at hl 0 rfl) ?_
        refine r_get X hw 20 _ 28 (hL.1) rfl rfl k_X6 (by decide) fl_RX6_91 dX6_starts_109 ?_
        refine lv_bipush (v := 16) hx hb dX6_starts_112 (by decide) ?_
        refine lv_iload_n hx hb dX6_starts_114 rfl (lv_at hl 1 rfl) ?_
        refine lv_imul hx hb dX6_starts_115 ?_
        refine lv_iload_n hx hb dX6_starts_116 rfl (lv_at hl 2 rfl) ?_
        refine lv_iadd hx hb dX6_starts_117 ?_
        refine lv_iconst (v := 0) hx hb dX6_starts_118 (by decide) ?_
        refine q_iast X hw 28 (hL.2 28 (by decide) (by decide) (by decide)) (j := ((16 * r) + k)) (nat_add (nat_mul (show (16 : Int32) = nI 16 from rfl) rfl) rfl) (show ((16 * r) + k) < 384 by omega) dX6_starts_119 (fun H locs hw => ?_)
        have hB := MBI.set hB (k := 28) (j := ((16 * r) + k)) (v := 0) (by decide) (fun h => absurd rfl h)
        refine lv_iinc (v := nI (k + 1)) (lv' := [(2, .int (nI (k + 1))), (0, .ref (ad 20 0)), (1, .int (nI r))]) hx hb dX6_starts_120 hl (k := 2) rfl (by rw [← nI_1]; rfl) (by decide) rfl (fun ls hl => ?_)
        refine lv_goto (tgt := 85) hx hb dX6_starts_123 (by decide) ?_
        subst ex103
        exact r_toQV (ih _ (k + 1) hB (⟨by omega, by omega⟩) _ _ hw _ (lv_sub hl [1, 2, 0] rfl)) ((if_neg h101).trans rfl)
  have L_q_starts_L1 : ∀ (n0 : Nat) (D : gCT) (k : Nat), MBI D → (k ≤ 8 ∧ k + n0 = 9) → ∀ (H : Heap) (locs : List Loc), gW G (gA lv ad s.heap.size) s.heap H locs lv ad (gF G D ad) → ∀ ls : Array Slot, lv_has ls 3 [(0, .ref (ad 20 0)), (1, .int (nI r)), (2, .int (nI k))] → W p l e (gRm 5 116 0 0) s m ([.ref (ad 20 0), .int (nI r)] : List Value).toArray below meth c H locs 0 0 (MQ below (gQv G (gA lv ad s.heap.size) (gRv G lv ad MBI (q_starts_L1 n0 D r k))) ([.ref (ad 20 0), .int (nI r)] : List Value).toArray s (gRm 5 116 0 0).cells (gRm 5 116 0 0).slots (gA lv ad s.heap.size)) (F0 m 59 ls []) := by
    intro n0
    induction n0 with
    | zero => intro D k _ hinv; exact absurd hinv (by rintro ⟨h1, h2⟩; omega)
    | succ n0 ih =>
      intro D k hB hinv H locs hw ls hl
      obtain ⟨hi1, hi2⟩ := hinv
      refine lv_iload_n hx hb dX6_starts_59 rfl (lv_at hl 2 rfl) ?_
      refine lv_bipush (v := 8) hx hb dX6_starts_60 (by decide) ?_
      refine lv_icmp_ge (tgt := 83) hx hb dX6_starts_62 (by decide) (fun h201 => ?_) (fun h201 => ?_)
      · have nh201 := (nat_le (show (8 : Int32) = nI 8 from rfl) rfl (by omega) (by omega)).mp h201
        refine lv_iconst (v := 0) hx hb dX6_starts_83 (by decide) ?_
        refine lv_istore_n (lv' := [(2, .int 0), (0, .ref (ad 20 0)), (1, .int (nI r))]) hx hb dX6_starts_84 rfl hl (by decide) rfl (fun ls hl => ?_)
        exact r_toQV (L_q_starts_L2 17 _ 0 hB (⟨by omega, by omega⟩) _ _ hw _ (lv_sub hl [1, 2, 0] rfl)) ((if_pos h201).trans rfl)
      · have nh201 := (not_congr (nat_le (show (8 : Int32) = nI 8 from rfl) rfl (by omega) (by omega))).mp h201
        refine lv_aload_n hx hb dX6_starts_65 rfl (lv_at hl 0 rfl) ?_
        refine r_get X hw 20 _ 21 (hL.1) rfl rfl k_X6 (by decide) fl_RX6_70 dX6_starts_66 ?_
        refine lv_bipush (v := 8) hx hb dX6_starts_69 (by decide) ?_
        refine lv_iload_n hx hb dX6_starts_71 rfl (lv_at hl 1 rfl) ?_
        refine lv_imul hx hb dX6_starts_72 ?_
        refine lv_iload_n hx hb dX6_starts_73 rfl (lv_at hl 2 rfl) ?_
        refine lv_iadd hx hb dX6_starts_74 ?_
        refine lv_iconst (v := 0) hx hb dX6_starts_75 (by decide) ?_
        refine q_iast X hw 21 (hL.2 21 (by decide) (by decide) (by decide)) (j := ((8 * r) + k)) (nat_add (nat_mul (show (8 : Int32) = nI 8 from rfl) rfl) rfl) (show ((8 * r) + k) < 192 by omega) dX6_starts_76 (fun H locs hw => ?_)
        have hB := MBI.set hB (k := 21) (j := ((8 * r) + k)) (v := 0) (by decide) (fun h => absurd rfl h)
        refine lv_iinc (v := nI (k + 1)) (lv' := [(2, .int (nI (k + 1))), (0, .ref (ad 20 0)), (1, .int (nI r))]) hx hb dX6_starts_77 hl (k := 2) rfl (by rw [← nI_1]; rfl) (by decide) rfl (fun ls hl => ?_)
        refine lv_goto (tgt := 59) hx hb dX6_starts_80 (by decide) ?_
        exact r_toQV (ih _ (k + 1) hB (⟨by omega, by omega⟩) _ _ hw _ (lv_sub hl [1, 2, 0] rfl)) ((if_neg h201).trans rfl)
  refine lv_aload_n hx hb dX6_starts_0 rfl (lv_at hl 0 rfl) ?_
  refine r_get X hw 20 _ 17 (hL.1) rfl rfl k_X6 (by decide) fl_RX6_58 dX6_starts_1 ?_
  refine lv_iload_n hx hb dX6_starts_4 rfl (lv_at hl 1 rfl) ?_
  refine lv_aload_n hx hb dX6_starts_5 rfl (lv_at hl 0 rfl) ?_
  refine r_get X hw 20 _ 6 (hL.1) rfl rfl k_X6 (by decide) fl_RX6_28 dX6_starts_6 ?_
  refine lv_aload_n hx hb dX6_starts_9 rfl (lv_at hl 0 rfl) ?_
  refine r_get X hw 20 _ 16 (hL.1) rfl rfl k_X6 (by decide) fl_RX6_55 dX6_starts_10 ?_
  refine lv_iload_n hx hb dX6_starts_13 rfl (lv_at hl 1 rfl) ?_
  refine q_iald X hw 16 (hL.2 16 (by decide) (by decide) (by decide)) (j := r) rfl (show r < 24 by omega) dX6_starts_14 ?_
  refine lv_topi (fun x1 ex1 => ?_)
  obtain ⟨px1, bx1⟩ := MBI.get hB 16 r (show r < 24 by omega) (by decide) ex1
  have bx1 : x1.toNatClampNeg < 4 := bx1
  refine q_iald X hw 6 (hL.2 6 (by decide) (by decide) (by decide)) (j := x1.toNatClampNeg) px1 (show x1.toNatClampNeg < 4 by omega) dX6_starts_15 ?_
  refine lv_topi (fun x2 ex2 => ?_)
  obtain ⟨px2, bx2⟩ := MBI.get hB 6 x1.toNatClampNeg (show x1.toNatClampNeg < 4 by omega) (by decide) ex2
  have bx2 : x2.toNatClampNeg < 7 := bx2
  refine lv_iconst (v := 1) hx hb dX6_starts_16 (by decide) ?_
  refine lv_isub hx hb dX6_starts_17 ?_
  refine q_iast X hw 17 (hL.2 17 (by decide) (by decide) (by decide)) (j := r) rfl (show r < 24 by omega) dX6_starts_18 (fun H locs hw => ?_)
  have hB := MBI.set hB (k := 17) (j := r) (v := x2 - 1) (by decide) (fun _ => ⟨(x2.toNatClampNeg - 1), by show _ < 6; omega, (nat_sub px2 (show (1 : Int32) = nI 1 from rfl) (by subst_vars; exact hv))⟩)
  refine lv_aload_n hx hb dX6_starts_19 rfl (lv_at hl 0 rfl) ?_
  refine r_get X hw 20 _ 23 (hL.1) rfl rfl k_X6 (by decide) fl_RX6_76 dX6_starts_20 ?_
  refine lv_iload_n hx hb dX6_starts_23 rfl (lv_at hl 1 rfl) ?_
  refine lv_aload_n hx hb dX6_starts_24 rfl (lv_at hl 0 rfl) ?_
  refine r_get X hw 20 _ 7 (hL.1) rfl rfl k_X6 (by decide) fl_RX6_31 dX6_starts_25 ?_
  refine lv_aload_n hx hb dX6_starts_28 rfl (lv_at hl 0 rfl) ?_
  refine r_get X hw 20 _ 16 (hL.1) rfl rfl k_X6 (by decide) fl_RX6_55 dX6_starts_29 ?_
  refine lv_iload_n hx hb dX6_starts_32 rfl (lv_at hl 1 rfl) ?_
  refine q_iald X hw 16 (hL.2 16 (by decide) (by decide) (by decide)) (j := r) rfl (show r < 24 by omega) dX6_starts_33 ?_
  refine lv_topi (fun x4 ex4 => ?_)
  have ex4 := (ex4.trans (congrFun (cs_n _ _ _ _ (by decide)) _)).trans ex1.symm; have ex4 := ex4.symm; subst ex4
  refine q_iald X hw 7 (hL.2 7 (by decide) (by decide) (by decide)) (j := x1.toNatClampNeg) px1 (show x1.toNatClampNeg < 4 by omega) dX6_starts_34 ?_
  refine lv_topi (fun x5 ex5 => ?_)
  obtain ⟨px5, bx5⟩ := MBI.get hB 7 x1.toNatClampNeg (show x1.toNatClampNeg < 4 by omega) (by decide) ex5
  have bx5 : x5.toNatClampNeg < 201 := bx5
  have ex5 := ex5.trans (congrFun (cs_n _ _ _ _ (by decide)) _)
  refine q_iast X hw 23 (hL.2 23 (by decide) (by decide) (by decide)) (j := r) rfl (show r < 24 by omega) dX6_starts_35 (fun H locs hw => ?_)
  have hB := MBI.set hB (k := 23) (j := r) (v := x5) (by decide) (fun _ => ⟨x5.toNatClampNeg, by show _ < 201; omega, px5⟩)
  refine lv_aload_n hx hb dX6_starts_36 rfl (lv_at hl 0 rfl) ?_
  refine r_get X hw 20 _ 18 (hL.1) rfl rfl k_X6 (by decide) fl_RX6_61 dX6_starts_37 ?_
  refine lv_iload_n hx hb dX6_starts_40 rfl (lv_at hl 1 rfl) ?_
  refine lv_iconst (v := 0) hx hb dX6_starts_41 (by decide) ?_
  refine q_iast X hw 18 (hL.2 18 (by decide) (by decide) (by decide)) (j := r) rfl (show r < 24 by omega) dX6_starts_42 (fun H locs hw => ?_)
  have hB := MBI.set hB (k := 18) (j := r) (v := 0) (by decide) (fun _ => ⟨0, by show _ < 25; omega, (show (0 : Int32) = nI 0 from rfl)⟩)
  refine lv_aload_n hx hb dX6_starts_43 rfl (lv_at hl 0 rfl) ?_
  refine r_get X hw 20 _ 20 (hL.1) rfl rfl k_X6 (by decide) fl_RX6_67 dX6_starts_44 ?_
  refine lv_iload_n hx hb dX6_starts_47 rfl (lv_at hl 1 rfl) ?_
  refine lv_iconst (v := 0) hx hb dX6_starts_48 (by decide) ?_
  refine q_iast X hw 20 (hL.2 20 (by decide) (by decide) (by decide)) (j := r) rfl (show r < 24 by omega) dX6_starts_49 (fun H locs hw => ?_)
  have hB := MBI.set hB (k := 20) (j := r) (v := 0) (by decide) (fun _ => ⟨0, by show _ < 9; omega, (show (0 : Int32) = nI 0 from rfl)⟩)
  refine lv_aload_n hx hb dX6_starts_50 rfl (lv_at hl 0 rfl) ?_
  refine r_get X hw 20 _ 22 (hL.1) rfl rfl k_X6 (by decide) fl_RX6_73 dX6_starts_51 ?_
  refine lv_iload_n hx hb dX6_starts_54 rfl (lv_at hl 1 rfl) ?_
  refine lv_iconst (v := 0) hx hb dX6_starts_55 (by decide) ?_
  refine q_iast X hw 22 (hL.2 22 (by decide) (by decide) (by decide)) (j := r) rfl (show r < 24 by omega) dX6_starts_56 (fun H locs hw => ?_)
  have hB := MBI.set hB (k := 22) (j := r) (v := 0) (by decide) (fun h => absurd rfl h)
  refine lv_iconst (v := 0) hx hb dX6_starts_57 (by decide) ?_
  refine lv_istore_n (lv' := [(2, .int 0), (0, .ref (ad 20 0)), (1, .int (nI r))]) hx hb dX6_starts_58 rfl hl (by decide) rfl (fun ls hl => ?_)
  subst ex5 ex2 ex1
  exact r_toQV (L_q_starts_L1 9 _ 0 hB (⟨by omega, by omega⟩) _ _ hw _ (lv_sub hl [1, 2, 0] rfl)) (rfl)

def m_goOn_L (n0 : Nat) (D : gCT) (k r : Nat) (g : Int32) (i : Int32) : gCT := match n0 with
  | 0 => D
  | n0 + 1 =>
    if 200 < i then (
      D
    ) else (
      let x102 : Int32 := D 7 k 4;
      if x102 = 7 then (
        let r104 : Int32 × gCT := m_pay D k ((D 11 r 7).toNatClampNeg);
        let x106 : Int32 := r104.1;
        let C105 : gCT := r104.2;
        if x106 = (-1) then (
          let x108 : Int32 := i + 1;
          m_goOn_L n0 C105 k r g x108
        ) else (
          let x109 : Int32 := m_at (C105 15 ((C105 11 r 7).toNatClampNeg)) 24 x106;
          let x110 : Int32 := m_at (C105 16 ((C105 11 r 7).toNatClampNeg)) 24 x106;
          let C111 : gCT := m_perform C105 k r x109 x110;
          let x112 : Int32 := i + 1;
          m_goOn_L n0 C111 k r g x112
        )
      ) else (
        D
      )
    )
def m_goOn (C : gCT) (k r : Nat) (g : Int32) : gCT :=
  let C1 : gCT := cs C 7 k 7 g;
  m_goOn_L 202 C1 k r g 0
set_option maxHeartbeats 4000000 in
set_option maxRecDepth 100000 in
theorem c_m_goOn (l : Launch) (G : gG) (lv : gLv) (ad : gAd) (C : gCT) (k r : Nat) (g : Int32) (cnt cap : Nat) (hM : gM lv k) (hR : gRun lv C r cnt cap) (hC : gCode lv (C 11 r 7).toNatClampNeg) : gMv l yX3_goOn cX3_goOn 5 (gRm 6 136 0 0) G [.ref (ad 7 k), .ref (ad 11 r), .int g] lv ad (gF G C ad) (gEv lv ad (gF G (m_goOn C k r g) ad)) := by
  refine r_met (own := RX3) (by decide) rfl (Nat.le_of_ble_eq_true rfl) ?_
  intro p e s m below meth c ls X hw hr hlk _ hl
  have hx := X.1.1; have hb := X.1.2.1; have hml := X.1.2.2.1; have hown := X.1.2.2.2.1; have hts := X.1.2.2.2.2
  have hl : lv_has ls 5 [(0, .ref (ad 7 k)), (1, .ref (ad 11 r)), (2, .int g)] := hl
  have L_m_goOn_L : ∀ (n0 : Nat) (D : gCT) (i : Int32), ((∃ j : Nat, i = nI j ∧ j ≤ 201 ∧ j + n0 = 202) ∧ D 2 = C 2 ∧ D 3 = C 3 ∧ D 11 = C 11) → ∀ (H : Heap) (locs : List Loc), gW G (gA lv ad s.heap.size) s.heap H locs lv ad (gF G D ad) → ∀ ls : Array Slot, lv_has ls 5 [(0, .ref (ad 7 k)), (1, .ref (ad 11 r)), (2, .int g), (3, .int i)] → W p l e (gRm 6 136 0 0) s m ([.ref (ad 7 k), .ref (ad 11 r), .int g] : List Value).toArray below meth c H locs 0 0 (MQ below (gQv G (gA lv ad s.heap.size) (gEv lv ad (gF G (m_goOn_L n0 D k r g i) ad))) ([.ref (ad 7 k), .ref (ad 11 r), .int g] : List Value).toArray s (gRm 6 136 0 0).cells (gRm 6 136 0 0).slots (gA lv ad s.heap.size)) (F0 m 7 ls []) := by
    intro n0
    induction n0 with
    | zero => intro D i hinv; exact absurd hinv (by rintro ⟨⟨j, -, h1, h2⟩, -⟩; omega)
    | succ n0 ih =>
      intro D i hinv H locs hw ls hl
      obtain ⟨⟨j, ej, hj, hn⟩, hk⟩ := hinv
      refine lv_iload_n hx hb dX3_goOn_7 rfl (lv_at hl 3 rfl) ?_
      refine lv_sipush (v := 200) hx hb dX3_goOn_8 (by decide) ?_
      refine lv_icmp_gt (tgt := 74) hx hb dX3_goOn_11 (by decide) (fun h101 => ?_) (fun h101 => ?_)
      · exact r_vret X hw hr hlk (Nat.le_of_ble_eq_true rfl) (Nat.le_of_ble_eq_true rfl) (gEv_of ((if_pos h101).trans rfl)) dX3_goOn_74
      · have hC' : gCode lv (D 11 r 7).toNatClampNeg := by rw [hk.2.2]; exact hC
        have hR' : gRun lv D r cnt cap := hR.cong hk.1 hk.2.1
        refine lv_aload_n hx hb dX3_goOn_14 rfl (lv_at hl 0 rfl) ?_
        refine r_get X hw 7 _ 7 (hM.1) rfl rfl k_X3 (by decide) fl_RX3_34 dX3_goOn_15 ?_
        refine lv_topi (fun x102 ex102 => ?_)
        refine lv_bipush (v := 7) hx hb dX3_goOn_18 (by decide) ?_
        refine lv_icmp_ne (tgt := 74) hx hb dX3_goOn_20 (by decide) (fun h103 => ?_) (fun h103 => ?_)
        · subst ex102
          exact r_vret X hw hr hlk (Nat.le_of_ble_eq_true rfl) (Nat.le_of_ble_eq_true rfl) (gEv_of ((if_neg h101).trans ((if_neg h103).trans rfl))) dX3_goOn_74
        · refine lv_aload_n hx hb dX3_goOn_23 rfl (lv_at hl 0 rfl) ?_
          refine lv_aload_n hx hb dX3_goOn_24 rfl (lv_at hl 1 rfl) ?_
          refine r_get X hw 11 _ 6 (hR.2.1) rfl rfl k_X4 (by decide) fl_RX3_47 dX3_goOn_25 ?_
          refine r_rix X hw (r_runV X (c_m_pay l G lv ad _ _ _ hM (by first | exact hC' | exact hC2') _) cy_X3_payForNext ml_RX3_53 ⟨(Nat.le_of_ble_eq_true rfl), (Nat.le_of_ble_eq_true rfl)⟩ gP.blind (g_recv X hw 7 _ (hM.1) rfl rfl) (gP_call X hw _) rfl hl.1 rfl (Nat.le_of_ble_eq_true rfl) dX3_goOn_28 ⟨(Nat.le_of_ble_eq_true rfl), (Nat.le_of_ble_eq_true rfl)⟩) (fun H locs hw => ?_)
          refine lv_topi (fun x106 ex106 => ?_)
          refine lv_istore (lv' := [(4, .int x106), (0, .ref (ad 7 k)), (1, .ref (ad 11 r)), (2, .int g), (3, .int i)]) hx hb dX3_goOn_31 hl (by decide) rfl (fun ls hl => ?_)
          refine lv_iload hx hb dX3_goOn_33 (lv_at hl 0 rfl) ?_
          refine lv_iconst (v := (-1)) hx hb dX3_goOn_35 (by decide) ?_
          refine lv_icmp_eq (tgt := 68) hx hb dX3_goOn_36 (by decide) (fun h107 => ?_) (fun h107 => ?_)
          · obtain ⟨x108, ex108⟩ : ∃ y : Int32, y = i + 1 := ⟨_, rfl⟩
            refine lv_iinc (v := x108) (lv' := [(3, .int x108), (4, .int x106), (0, .ref (ad 7 k)), (1, .ref (ad 11 r)), (2, .int g)]) hx hb dX3_goOn_68 hl (k := 4) rfl (by rw [ex108]; rfl) (by decide) rfl (fun ls hl => ?_)
            refine lv_goto (tgt := 7) hx hb dX3_goOn_71 (by decide) ?_
            subst ex108 ex106 ex102
            exact r_toV (ih _ _ (⟨⟨j + 1, by rw [ej]; exact nI_1 j, by have : ¬ 200 < j := fun q => absurd (by rw [ej]; exact nI_lt q (by omega) : (200 : Int32) < i) (by assumption); omega, by omega⟩, by first | exact ⟨(keep_tr (m_pay_keep D k _) (m_perform_keep _ _ _ _ _) 2 (by decide) (by decide) (by decide) (by decide)).trans hk.1, (keep_tr (m_pay_keep D k _) (m_perform_keep _ _ _ _ _) 3 (by decide) (by decide) (by decide) (by decide)).trans hk.2.1, (keep_tr (m_pay_keep D k _) (m_perform_keep _ _ _ _ _) 11 (by decide) (by decide) (by decide) (by decide)).trans hk.2.2⟩ | exact ⟨(m_pay_keep D k _ 2 (by decide) (by decide) (by decide) (by decide)).trans hk.1, (m_pay_keep D k _ 3 (by decide) (by decide) (by decide) (by decide)).trans hk.2.1, (m_pay_keep D k _ 11 (by decide) (by decide) (by decide) (by decide)).trans hk.2.2⟩⟩) _ _ hw _ (lv_sub hl [2, 3, 4, 0] rfl)) ((if_neg h101).trans ((if_pos h103).trans ((if_pos h107).trans rfl)))
          · have hp := m_pay_keep D k (D 11 r 7).toNatClampNeg
            have hC2' : gCode lv ((m_pay D k (D 11 r 7).toNatClampNeg).2 11 r 7).toNatClampNeg := by rw [hp 11 (by decide) (by decide) (by decide) (by decide), hk.2.2]; exact hC
            have hR2' : gRun lv (m_pay D k (D 11 r 7).toNatClampNeg).2 r cnt cap := hR'.cong (hp 2 (by decide) (by decide) (by decide) (by decide)) (hp 3 (by decide) (by decide) (by decide) (by decide))
            refine lv_aload_n hx hb dX3_goOn_39 rfl (lv_at hl 1 rfl) ?_
            refine lv_aload_n hx hb dX3_goOn_40 rfl (lv_at hl 2 rfl) ?_
            refine lv_aload_n hx hb dX3_goOn_41 rfl (lv_at hl 2 rfl) ?_
            refine r_get X hw 11 _ 6 (hR.2.1) rfl rfl k_X4 (by decide) fl_RX3_47 dX3_goOn_42 ?_
            refine r_get X hw 14 _ 0 (by first | exact hC'.1 | exact hC2'.1) rfl rfl k_X1 (by decide) fl_RX3_57 dX3_goOn_45 ?_
            refine lv_iload hx hb dX3_goOn_48 (lv_at hl 0 rfl) ?_
            refine r_rp (r_runSN X (c_m_at l (ad 15 _) 24 _ x106 (by decide)) cy_X5_at mn_RX3_62 ⟨(Nat.le_of_ble_eq_true rfl), (Nat.le_of_ble_eq_true rfl)⟩ gArr_blind (fun U hU hW => ⟨rfl, gArr_call X hw 15 _ (by exact hC2'.2.1) rfl U hU hW⟩) rfl hl.1 rfl (Nat.le_of_ble_eq_true rfl) dX3_goOn_50 ⟨(Nat.le_of_ble_eq_true rfl), (Nat.le_of_ble_eq_true rfl)⟩) ?_
            refine lv_topi (fun x109 ex109 => ?_)
            refine lv_aload_n hx hb dX3_goOn_53 rfl (lv_at hl 2 rfl) ?_
            refine r_get X hw 11 _ 6 (hR.2.1) rfl rfl k_X4 (by decide) fl_RX3_47 dX3_goOn_54 ?_
            refine r_get X hw 14 _ 1 (by first | exact hC'.1 | exact hC2'.1) rfl rfl k_X1 (by decide) fl_RX3_66 dX3_goOn_57 ?_
            refine lv_iload hx hb dX3_goOn_60 (lv_at hl 0 rfl) ?_
            refine r_rp (r_runSN X (c_m_at l (ad 16 _) 24 _ x106 (by decide)) cy_X5_at mn_RX3_62 ⟨(Nat.le_of_ble_eq_true rfl), (Nat.le_of_ble_eq_true rfl)⟩ gArr_blind (fun U hU hW => ⟨rfl, gArr_call X hw 16 _ (by exact hC2'.2.2) rfl U hU hW⟩) rfl hl.1 rfl (Nat.le_of_ble_eq_true rfl) dX3_goOn_62 ⟨(Nat.le_of_ble_eq_true rfl), (Nat.le_of_ble_eq_true rfl)⟩) ?_
            refine lv_topi (fun x110 ex110 => ?_)
            refine r_rvx X hw (r_runV X (c_m_perform l G lv ad _ _ _ _ _ _ _ hM (by exact hR2') _) cy_X3_perform ml_RX3_69 ⟨(Nat.le_of_ble_eq_true rfl), (Nat.le_of_ble_eq_true rfl)⟩ gP.blind (g_recv X hw 7 _ (hM.1) rfl rfl) (gP_call X hw _) rfl hl.1 rfl (Nat.le_of_ble_eq_true rfl) dX3_goOn_65 ⟨(Nat.le_of_ble_eq_true rfl), (Nat.le_of_ble_eq_true rfl)⟩) (fun H locs hw => ?_)
            obtain ⟨x112, ex112⟩ : ∃ y : Int32, y = i + 1 := ⟨_, rfl⟩
            refine lv_iinc (v := x112) (lv' := [(3, .int x112), (4, .int x106), (0, .ref (ad 7 k)), (1, .ref (ad 11 r)), (2, .int g)]) hx hb dX3_goOn_68 hl (k := 4) rfl (by rw [ex112]; rfl) (by decide) rfl (fun ls hl => ?_)
            refine lv_goto (tgt := 7) hx hb dX3_goOn_71 (by decide) ?_
            subst ex112 ex110 ex109 ex106 ex102
            exact r_toV (ih _ _ (⟨⟨j + 1, by rw [ej]; exact nI_1 j, by have : ¬ 200 < j := fun q => absurd (by rw [ej]; exact nI_lt q (by omega) : (200 : Int32) < i) (by assumption); omega, by omega⟩, by first | exact ⟨(keep_tr (m_pay_keep D k _) (m_perform_keep _ _ _ _ _) 2 (by decide) (by decide) (by decide) (by decide)).trans hk.1, (keep_tr (m_pay_keep D k _) (m_perform_keep _ _ _ _ _) 3 (by decide) (by decide) (by decide) (by decide)).trans hk.2.1, (keep_tr (m_pay_keep D k _) (m_perform_keep _ _ _ _ _) 11 (by decide) (by decide) (by decide) (by decide)).trans hk.2.2⟩ | exact ⟨(m_pay_keep D k _ 2 (by decide) (by decide) (by decide) (by decide)).trans hk.1, (m_pay_keep D k _ 3 (by decide) (by decide) (by decide) (by decide)).trans hk.2.1, (m_pay_keep D k _ 11 (by decide) (by decide) (by decide) (by decide)).trans hk.2.2⟩⟩) _ _ hw _ (lv_sub hl [2, 3, 4, 0] rfl)) ((if_neg h101).trans ((if_pos h103).trans ((if_neg h107).trans rfl)))
  refine lv_aload_n hx hb dX3_goOn_0 rfl (lv_at hl 0 rfl) ?_
  refine lv_iload_n hx hb dX3_goOn_1 rfl (lv_at hl 2 rfl) ?_
  refine s_put X hw 7 _ 10 7 (hM.1) rfl rfl k_X3 (by decide) (Nat.le_of_ble_eq_true rfl) fl_RX3_44 rfl rfl dX3_goOn_2 (fun H locs hw => ?_)
  refine lv_iconst (v := 0) hx hb dX3_goOn_5 (by decide) ?_
  refine lv_istore_n (lv' := [(3, .int 0), (0, .ref (ad 7 k)), (1, .ref (ad 11 r)), (2, .int g)]) hx hb dX3_goOn_6 rfl hl (by decide) rfl (fun ls hl => ?_)
  exact r_toV (L_m_goOn_L 202 _ _ (⟨⟨0, rfl, by omega, by omega⟩, cs_k _ _ _ _ (by decide), cs_k _ _ _ _ (by decide), cs_k _ _ _ _ (by decide)⟩) _ _ hw _ (lv_sub hl [1, 2, 3, 0] rfl)) (rfl)
theorem m_goOn_L_keep (n0 : Nat) (D : gCT) (k r : Nat) (g i : Int32) : gKeep D (m_goOn_L n0 D k r g i) := by
  induction n0 generalizing D i with
  | zero => exact keep_rf
  | succ n0 ih =>
    unfold m_goOn_L
    refine keep_ite keep_rf (keep_ite ?_ keep_rf)
    refine keep_ite (keep_tr (m_pay_keep _ _ _) (ih _ _)) (keep_tr (m_pay_keep _ _ _) (keep_tr (m_perform_keep _ _ _ _ _) (ih _ _)))
theorem m_goOn_keep (C : gCT) (k r : Nat) (g : Int32) : gKeep C (m_goOn C k r g) := keep_tr (keep_cs7 keep_rf) (m_goOn_L_keep _ _ _ _ _ _)
def m_reset_L2 (n0 : Nat) (D : gCT) (k : Nat) (v : Int32) (i : Int32) : gCT := match n0 with
  | 0 => D
  | n0 + 1 =>
    if 16 ≤ i then (
      let C102 : gCT := cs D 7 k 0 0;
      let C103 : gCT := cs C102 7 k 1 0;
      let C104 : gCT := cs C103 7 k 2 v;
      let C105 : gCT := cs C104 7 k 3 0;
      let C106 : gCT := cs C105 7 k 4 7;
      let C107 : gCT := cs C106 7 k 6 0;
      C107
    ) else (
      let C108 : gCT := cs D 10 k i.toNatClampNeg 0;
      let x109 : Int32 := i + 1;
      m_reset_L2 n0 C108 k v x109
    )
def m_reset_L1 (n0 : Nat) (D : gCT) (k : Nat) (v : Int32) (i : Int32) : gCT := match n0 with
  | 0 => D
  | n0 + 1 =>
    if 8 ≤ i then (
      m_reset_L2 17 D k v 0
    ) else (
      let C202 : gCT := cs D 9 k i.toNatClampNeg 0;
      let x203 : Int32 := i + 1;
      m_reset_L1 n0 C202 k v x203
    )
def m_reset (C : gCT) (k : Nat) (v : Int32) : gCT :=
  m_reset_L1 9 C k v 0
set_option maxHeartbeats 4000000 in
set_option maxRecDepth 100000 in
theorem c_m_reset (l : Launch) (G : gG) (lv : gLv) (ad : gAd) (C : gCT) (k : Nat) (v : Int32) (hM : gM lv k) : gMv l yX3_reset cX3_reset 3 (gRm 0 0 0 0) G [.ref (ad 7 k), .int v] lv ad (gF G C ad) (gEv lv ad (gF G (m_reset C k v) ad)) := by
  refine r_met (own := RX3) (by decide) rfl (Nat.le_of_ble_eq_true rfl) ?_
  intro p e s m below meth c ls X hw hr hlk _ hl
  have hx := X.1.1; have hb := X.1.2.1; have hml := X.1.2.2.1; have hown := X.1.2.2.2.1; have hts := X.1.2.2.2.2
  have hl : lv_has ls 3 [(0, .ref (ad 7 k)), (1, .int v)] := hl
  have L_m_reset_L2 : ∀ (n0 : Nat) (D : gCT) (i : Int32), (∃ j : Nat, i = nI j ∧ j + n0 = 17 ∧ j ≤ 16) → ∀ (H : Heap) (locs : List Loc), gW G (gA lv ad s.heap.size) s.heap H locs lv ad (gF G D ad) → ∀ ls : Array Slot, lv_has ls 3 [(0, .ref (ad 7 k)), (1, .int v), (2, .int i)] → W p l e (gRm 0 0 0 0) s m ([.ref (ad 7 k), .int v] : List Value).toArray below meth c H locs 0 0 (MQ below (gQv G (gA lv ad s.heap.size) (gEv lv ad (gF G (m_reset_L2 n0 D k v i) ad))) ([.ref (ad 7 k), .int v] : List Value).toArray s (gRm 0 0 0 0).cells (gRm 0 0 0 0).slots (gA lv ad s.heap.size)) (F0 m 23 ls []) := by
    intro n0
    induction n0 with
    | zero => intro D i hinv; exact absurd hinv (by rintro ⟨j, -, h1, h2⟩; omega)
    | succ n0 ih =>
      intro D i hinv H locs hw ls hl
      obtain ⟨j, ej, hj, hn⟩ := hinv
      refine lv_iload_n hx hb dX3_reset_23 rfl (lv_at hl 2 rfl) ?_
      refine lv_bipush (v := 16) hx hb dX3_reset_24 (by decide) ?_
      refine lv_icmp_ge (tgt := 42) hx hb dX3_reset_26 (by decide) (fun h101 => ?_) (fun h101 => ?_)
      · refine lv_aload_n hx hb dX3_reset_42 rfl (lv_at hl 0 rfl) ?_
        refine lv_iconst (v := 0) hx hb dX3_reset_43 (by decide) ?_
        refine s_put X hw 7 _ 3 0 (hM.1) rfl rfl k_X3 (by decide) (Nat.le_of_ble_eq_true rfl) fl_RX3_21 rfl rfl dX3_reset_44 (fun H locs hw => ?_)
        refine lv_aload_n hx hb dX3_reset_47 rfl (lv_at hl 0 rfl) ?_
        refine lv_iconst (v := 0) hx hb dX3_reset_48 (by decide) ?_
        refine s_put X hw 7 _ 4 1 (hM.1) rfl rfl k_X3 (by decide) (Nat.le_of_ble_eq_true rfl) fl_RX3_25 rfl rfl dX3_reset_49 (fun H locs hw => ?_)
        refine lv_aload_n hx hb dX3_reset_52 rfl (lv_at hl 0 rfl) ?_
        refine lv_iload_n hx hb dX3_reset_53 rfl (lv_at hl 1 rfl) ?_
        refine s_put X hw 7 _ 5 2 (hM.1) rfl rfl k_X3 (by decide) (Nat.le_of_ble_eq_true rfl) fl_RX3_28 rfl rfl dX3_reset_54 (fun H locs hw => ?_)
        refine lv_aload_n hx hb dX3_reset_57 rfl (lv_at hl 0 rfl) ?_
        refine lv_iconst (v := 0) hx hb dX3_reset_58 (by decide) ?_
        refine s_put X hw 7 _ 6 3 (hM.1) rfl rfl k_X3 (by decide) (Nat.le_of_ble_eq_true rfl) fl_RX3_31 rfl rfl dX3_reset_59 (fun H locs hw => ?_)
        refine lv_aload_n hx hb dX3_reset_62 rfl (lv_at hl 0 rfl) ?_
        refine lv_bipush (v := 7) hx hb dX3_reset_63 (by decide) ?_
        refine s_put X hw 7 _ 7 4 (hM.1) rfl rfl k_X3 (by decide) (Nat.le_of_ble_eq_true rfl) fl_RX3_34 rfl rfl dX3_reset_65 (fun H locs hw => ?_)
        refine lv_aload_n hx hb dX3_reset_68 rfl (lv_at hl 0 rfl) ?_
        refine lv_iconst (v := 0) hx hb dX3_reset_69 (by decide) ?_
        refine s_put X hw 7 _ 9 6 (hM.1) rfl rfl k_X3 (by decide) (Nat.le_of_ble_eq_true rfl) fl_RX3_37 rfl rfl dX3_reset_70 (fun H locs hw => ?_)
        exact r_vret X hw hr hlk (Nat.le_of_ble_eq_true rfl) (Nat.le_of_ble_eq_true rfl) (gEv_of ((if_pos h101).trans rfl)) dX3_reset_73
      · refine lv_aload_n hx hb dX3_reset_29 rfl (lv_at hl 0 rfl) ?_
        refine r_get X hw 7 _ 2 (hM.1) rfl rfl k_X3 (by decide) fl_RX3_18 dX3_reset_30 ?_
        refine lv_iload_n hx hb dX3_reset_33 rfl (lv_at hl 2 rfl) ?_
        refine lv_iconst (v := 0) hx hb dX3_reset_34 (by decide) ?_
        refine s_iast X hw 10 _ (hM.2.2.2) rfl (fun _ => rfl) (by subst_vars; exact vp_in_lt (j := j) rfl (show (16 : Int32) = nI 16 from rfl) (by omega) (by omega) (by assumption)) dX3_reset_35 (fun H locs hw => ?_)
        obtain ⟨x109, ex109⟩ : ∃ y : Int32, y = i + 1 := ⟨_, rfl⟩
        refine lv_iinc (v := x109) (lv' := [(2, .int x109), (0, .ref (ad 7 k)), (1, .int v)]) hx hb dX3_reset_36 hl (k := 2) rfl (by rw [ex109]; rfl) (by decide) rfl (fun ls hl => ?_)
        refine lv_goto (tgt := 23) hx hb dX3_reset_39 (by decide) ?_
        subst ex109
        exact r_toV (ih _ _ (⟨j + 1, by rw [ej]; exact nI_1 j, by omega, by have : ¬ 16 ≤ j := fun q => absurd (by rw [ej]; exact nI_le q (by omega) : (16 : Int32) ≤ i) (by assumption); omega⟩) _ _ hw _ (lv_sub hl [1, 2, 0] rfl)) ((if_neg h101).trans rfl)
  have L_m_reset_L1 : ∀ (n0 : Nat) (D : gCT) (i : Int32), (∃ j : Nat, i = nI j ∧ j + n0 = 9 ∧ j ≤ 8) → ∀ (H : Heap) (locs : List Loc), gW G (gA lv ad s.heap.size) s.heap H locs lv ad (gF G D ad) → ∀ ls : Array Slot, lv_has ls 3 [(0, .ref (ad 7 k)), (1, .int v), (2, .int i)] → W p l e (gRm 0 0 0 0) s m ([.ref (ad 7 k), .int v] : List Value).toArray below meth c H locs 0 0 (MQ below (gQv G (gA lv ad s.heap.size) (gEv lv ad (gF G (m_reset_L1 n0 D k v i) ad))) ([.ref (ad 7 k), .int v] : List Value).toArray s (gRm 0 0 0 0).cells (gRm 0 0 0 0).slots (gA lv ad s.heap.size)) (F0 m 2 ls []) := by
    intro n0
    induction n0 with
    | zero => intro D i hinv; exact absurd hinv (by rintro ⟨j, -, h1, h2⟩; omega)
    | succ n0 ih =>
      intro D i hinv H locs hw ls hl
      obtain ⟨j, ej, hj, hn⟩ := hinv
      refine lv_iload_n hx hb dX3_reset_2 rfl (lv_at hl 2 rfl) ?_
      refine lv_bipush (v := 8) hx hb dX3_reset_3 (by decide) ?_
      refine lv_icmp_ge (tgt := 21) hx hb dX3_reset_5 (by decide) (fun h201 => ?_) (fun h201 => ?_)
      · refine lv_iconst (v := 0) hx hb dX3_reset_21 (by decide) ?_
        refine lv_istore_n (lv' := [(2, .int 0), (0, .ref (ad 7 k)), (1, .int v)]) hx hb dX3_reset_22 rfl hl (by decide) rfl (fun ls hl => ?_)
        exact r_toV (L_m_reset_L2 17 _ _ (⟨0, rfl, by omega, by omega⟩) _ _ hw _ (lv_sub hl [1, 2, 0] rfl)) ((if_pos h201).trans rfl)
      · refine lv_aload_n hx hb dX3_reset_8 rfl (lv_at hl 0 rfl) ?_
        refine r_get X hw 7 _ 1 (hM.1) rfl rfl k_X3 (by decide) fl_RX3_15 dX3_reset_9 ?_
        refine lv_iload_n hx hb dX3_reset_12 rfl (lv_at hl 2 rfl) ?_
        refine lv_iconst (v := 0) hx hb dX3_reset_13 (by decide) ?_
        refine s_iast X hw 9 _ (hM.2.2.1) rfl (fun _ => rfl) (by subst_vars; exact vp_in_lt (j := j) rfl (show (8 : Int32) = nI 8 from rfl) (by omega) (by omega) (by assumption)) dX3_reset_14 (fun H locs hw => ?_)
        obtain ⟨x203, ex203⟩ : ∃ y : Int32, y = i + 1 := ⟨_, rfl⟩
        refine lv_iinc (v := x203) (lv' := [(2, .int x203), (0, .ref (ad 7 k)), (1, .int v)]) hx hb dX3_reset_15 hl (k := 2) rfl (by rw [ex203]; rfl) (by decide) rfl (fun ls hl => ?_)
        refine lv_goto (tgt := 2) hx hb dX3_reset_18 (by decide) ?_
        subst ex203
        exact r_toV (ih _ _ (⟨j + 1, by rw [ej]; exact nI_1 j, by omega, by have : ¬ 8 ≤ j := fun q => absurd (by rw [ej]; exact nI_le q (by omega) : (8 : Int32) ≤ i) (by assumption); omega⟩) _ _ hw _ (lv_sub hl [1, 2, 0] rfl)) ((if_neg h201).trans rfl)
  refine lv_iconst (v := 0) hx hb dX3_reset_0 (by decide) ?_
  refine lv_istore_n (lv' := [(2, .int 0), (0, .ref (ad 7 k)), (1, .int v)]) hx hb dX3_reset_1 rfl hl (by decide) rfl (fun ls hl => ?_)
  exact r_toV (L_m_reset_L1 9 _ _ (⟨0, rfl, by omega, by omega⟩) _ _ hw _ (lv_sub hl [1, 2, 0] rfl)) (rfl)

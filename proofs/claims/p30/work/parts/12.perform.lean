def gCode (lv : gLv) (d : Nat) : Prop := lv 14 d ∧ lv 15 d ∧ lv 16 d
/-- only machines change -/
def gKeep (C D : gCT) : Prop := ∀ κ, κ ≠ 7 → κ ≠ 8 → κ ≠ 9 → κ ≠ 10 → D κ = C κ
theorem m_addTo_k (C : gCT) {κ κ' n N : Nat} {i v : Int32} (h : κ' ≠ κ) : m_addTo C κ n N i v κ' = C κ' := by funext a b; simp [m_addTo, g2, h]
theorem m_put_keep (C : gCT) (k : Nat) (v : Int32) : gKeep C (m_put C k v) := by
  intro κ h7 h8 h9 h10
  unfold m_put
  dsimp only
  split <;> simp [cs_k, *]
theorem m_take_keep (C : gCT) (k : Nat) : gKeep C (m_take C k).2 := by
  intro κ h7 h8 h9 h10
  unfold m_take
  dsimp only
  split <;> simp [cs_k, *]
theorem m_takeAnswer_keep (C : gCT) (k : Nat) (v : Int32) : gKeep C (m_takeAnswer C k v) := by
  intro κ h7 h8 h9 h10
  unfold m_takeAnswer
  show m_put _ _ _ κ = _
  rw [m_put_keep _ _ _ κ h7 h8 h9 h10]
  simp [cs_k, *]
theorem m_store_keep (C : gCT) (k : Nat) (v : Int32) : gKeep C (m_store C k v) := by
  intro κ h7 h8 h9 h10
  have ht := m_take_keep C k κ h7 h8 h9 h10
  unfold m_store
  dsimp only
  repeat' split
  all_goals simp [cs_k, *]
theorem m_jumpIfZero_keep (C : gCT) (k : Nat) (v : Int32) : gKeep C (m_jumpIfZero C k v) := by
  intro κ h7 h8 h9 h10
  have ht := m_take_keep C k κ h7 h8 h9 h10
  unfold m_jumpIfZero
  dsimp only
  repeat' split
  all_goals simp [cs_k, *]
theorem m_combine_keep (C : gCT) (k : Nat) (v : Int32) : gKeep C (m_combine C k v) := by
  intro κ h7 h8 h9 h10
  have ht := m_take_keep C k κ h7 h8 h9 h10
  have ht2 := m_take_keep (m_take C k).2 k κ h7 h8 h9 h10
  unfold m_combine
  dsimp only
  repeat' split
  all_goals first | (rw [m_put_keep _ _ _ κ h7 h8 h9 h10, ht2, ht]) | (rw [ht2, ht])
theorem m_passesGate_keep (C : gCT) (k : Nat) : gKeep C (m_passesGate C k).2 := by
  intro κ h7 h8 h9 h10
  unfold m_passesGate
  dsimp only
  repeat' split
  all_goals simp [cs_k, *]
def m_ask (C : gCT) (k r : Nat) (v : Int32) : gCT :=
  let C1 : gCT := m_addTo C 10 k 16 v 1;
  let x2 : Int32 := m_at (C1 10 k) 16 v;
  let r3 : Int32 × gCT := m_nth C1 r v x2;
  let x5 : Int32 := r3.1;
  let C4 : gCT := r3.2;
  if x5 = (-1) then (
    let C8 : gCT := cs C4 7 k 5 v;
    let C9 : gCT := cs C8 7 k 4 0;
    C9
  ) else (
    let C7 : gCT := m_put C4 k x5;
    C7
  )
set_option maxHeartbeats 4000000 in
set_option maxRecDepth 100000 in
theorem c_m_ask (l : Launch) (G : gG) (lv : gLv) (ad : gAd) (C : gCT) (k r : Nat) (v : Int32) (cnt cap : Nat) (hM : gM lv k) (hR : gRun lv C r cnt cap) : gMv l yX3_ask cX3_ask 4 (gRm 4 90 0 0) G [.ref (ad 7 k), .ref (ad 11 r), .int v] lv ad (gF G C ad) (gEv lv ad (gF G (m_ask C k r v) ad)) := by
  refine r_met (own := RX3) (by decide) rfl (Nat.le_of_ble_eq_true rfl) ?_
  intro p e s m below meth c ls X hw hr hlk _ hl
  have hx := X.1.1; have hb := X.1.2.1; have hml := X.1.2.2.1; have hown := X.1.2.2.2.1; have hts := X.1.2.2.2.2
  have hl : lv_has ls 4 [(0, .ref (ad 7 k)), (1, .ref (ad 11 r)), (2, .int v)] := hl
  refine lv_aload_n hx hb dX3_ask_0 rfl (lv_at hl 0 rfl) ?_
  refine r_get X hw 7 _ 2 (hM.1) rfl rfl k_X3 (by decide) fl_RX3_18 dX3_ask_1 ?_
  refine lv_iload_n hx hb dX3_ask_4 rfl (lv_at hl 2 rfl) ?_
  refine lv_iconst (v := 1) hx hb dX3_ask_5 (by decide) ?_
  refine r_rvx X hw (r_runSN X (c_m_addTo l G lv ad _ 10 _ 16 v 1 (by decide) (hM.2.2.2) (fun _ => rfl) _) cy_X5_addTo mn_RX3_97 ⟨(Nat.le_of_ble_eq_true rfl), (Nat.le_of_ble_eq_true rfl)⟩ gP.blind (gP_call X hw _) rfl hl.1 rfl (Nat.le_of_ble_eq_true rfl) dX3_ask_6 ⟨(Nat.le_of_ble_eq_true rfl), (Nat.le_of_ble_eq_true rfl)⟩) (fun H locs hw => ?_)
  refine lv_aload_n hx hb dX3_ask_9 rfl (lv_at hl 1 rfl) ?_
  refine lv_iload_n hx hb dX3_ask_10 rfl (lv_at hl 2 rfl) ?_
  refine lv_aload_n hx hb dX3_ask_11 rfl (lv_at hl 0 rfl) ?_
  refine r_get X hw 7 _ 2 (hM.1) rfl rfl k_X3 (by decide) fl_RX3_18 dX3_ask_12 ?_
  refine lv_iload_n hx hb dX3_ask_15 rfl (lv_at hl 2 rfl) ?_
  refine r_rp (r_runSN X (c_m_at l (ad 10 _) 16 _ v (by decide)) cy_X5_at mn_RX3_62 ⟨(Nat.le_of_ble_eq_true rfl), (Nat.le_of_ble_eq_true rfl)⟩ gArr_blind (fun U hU hW => ⟨rfl, gArr_call X hw 10 _ (hM.2.2.2) rfl U hU hW⟩) rfl hl.1 rfl (Nat.le_of_ble_eq_true rfl) dX3_ask_16 ⟨(Nat.le_of_ble_eq_true rfl), (Nat.le_of_ble_eq_true rfl)⟩) ?_
  refine lv_topi (fun x2 ex2 => ?_)
  refine r_rix X hw (r_runV X (c_m_nth l G lv ad _ _ _ _ _ _ (by exact hR.cong (m_addTo_k _ (by decide)) (m_addTo_k _ (by decide))) _) cy_X4_nthValue ml_RX3_101 ⟨(Nat.le_of_ble_eq_true rfl), (Nat.le_of_ble_eq_true rfl)⟩ gP.blind (g_recv X hw 11 _ (hR.2.1) rfl rfl) (gP_call X hw _) rfl hl.1 rfl (Nat.le_of_ble_eq_true rfl) dX3_ask_19 ⟨(Nat.le_of_ble_eq_true rfl), (Nat.le_of_ble_eq_true rfl)⟩) (fun H locs hw => ?_)
  refine lv_topi (fun x5 ex5 => ?_)
  refine lv_istore_n (lv' := [(3, .int x5), (0, .ref (ad 7 k)), (1, .ref (ad 11 r)), (2, .int v)]) hx hb dX3_ask_22 rfl hl (by decide) rfl (fun ls hl => ?_)
  refine lv_iload_n hx hb dX3_ask_23 rfl (lv_at hl 0 rfl) ?_
  refine lv_iconst (v := (-1)) hx hb dX3_ask_24 (by decide) ?_
  refine lv_icmp_ne (tgt := 41) hx hb dX3_ask_25 (by decide) (fun h6 => ?_) (fun h6 => ?_)
  · refine lv_aload_n hx hb dX3_ask_41 rfl (lv_at hl 1 rfl) ?_
    refine lv_iload_n hx hb dX3_ask_42 rfl (lv_at hl 0 rfl) ?_
    refine r_rvx X hw (r_runV X (c_m_put l G lv ad _ _ _ hM _) cy_X3_put ml_RX3_40 ⟨(Nat.le_of_ble_eq_true rfl), (Nat.le_of_ble_eq_true rfl)⟩ gP.blind (g_recv X hw 7 _ (hM.1) rfl rfl) (gP_call X hw _) rfl hl.1 rfl (Nat.le_of_ble_eq_true rfl) dX3_ask_43 ⟨(Nat.le_of_ble_eq_true rfl), (Nat.le_of_ble_eq_true rfl)⟩) (fun H locs hw => ?_)
    subst ex5 ex2
    exact r_vret X hw hr hlk (Nat.le_of_ble_eq_true rfl) (Nat.le_of_ble_eq_true rfl) (gEv_of ((if_neg h6).trans rfl)) dX3_ask_46
  · refine lv_aload_n hx hb dX3_ask_28 rfl (lv_at hl 1 rfl) ?_
    refine lv_iload_n hx hb dX3_ask_29 rfl (lv_at hl 3 rfl) ?_
    refine s_put X hw 7 _ 8 5 (hM.1) rfl rfl k_X3 (by decide) (Nat.le_of_ble_eq_true rfl) fl_RX3_105 rfl rfl dX3_ask_30 (fun H locs hw => ?_)
    refine lv_aload_n hx hb dX3_ask_33 rfl (lv_at hl 1 rfl) ?_
    refine lv_iconst (v := 0) hx hb dX3_ask_34 (by decide) ?_
    refine s_put X hw 7 _ 7 4 (hM.1) rfl rfl k_X3 (by decide) (Nat.le_of_ble_eq_true rfl) fl_RX3_34 rfl rfl dX3_ask_35 (fun H locs hw => ?_)
    refine lv_goto (tgt := 46) hx hb dX3_ask_38 (by decide) ?_
    subst ex5 ex2
    exact r_vret X hw hr hlk (Nat.le_of_ble_eq_true rfl) (Nat.le_of_ble_eq_true rfl) (gEv_of ((if_pos h6).trans rfl)) dX3_ask_46
theorem m_nth_L_C (n0 : Nat) (C : gCT) (r : Nat) (q n w f i : Int32) : (m_nth_L n0 C r q n w f i).2 = C := by
  induction n0 generalizing w f i with
  | zero => rfl
  | succ n0 ih =>
    unfold m_nth_L
    dsimp only
    repeat' split
    all_goals first | rfl | exact ih _ _ _
theorem m_nth_C (C : gCT) (r : Nat) (q n : Int32) : (m_nth C r q n).2 = C := m_nth_L_C _ _ _ _ _ _ _ _
theorem m_ask_keep (C : gCT) (k r : Nat) (v : Int32) : gKeep C (m_ask C k r v) := by
  intro κ h7 h8 h9 h10
  unfold m_ask
  dsimp only
  rw [m_nth_C]
  repeat' split
  all_goals first | (rw [m_put_keep _ _ _ κ h7 h8 h9 h10]; simp [m_addTo_k, *]; done) | (simp [cs_k, m_addTo_k, *]; done)
def m_perform (C : gCT) (k r : Nat) (i v : Int32) : gCT :=
  if i = 0 then (
    let C2 : gCT := m_ask C k r v;
    C2
  ) else if i = 1 then (
    let C4 : gCT := m_put C k v;
    C4
  ) else if i = 2 then (
    let x6 : Int32 := m_at (C 9 k) 8 v;
    let C7 : gCT := m_put C k x6;
    C7
  ) else if i = 3 then (
    let C9 : gCT := m_store C k v;
    C9
  ) else if i = 4 then (
    let C11 : gCT := m_combine C k i;
    C11
  ) else if i = 5 then (
    let C13 : gCT := m_combine C k i;
    C13
  ) else if i = 6 then (
    let C15 : gCT := m_combine C k i;
    C15
  ) else if i = 7 then (
    let C17 : gCT := m_combine C k i;
    C17
  ) else if i = 8 then (
    let C19 : gCT := cs C 7 k 1 v;
    C19
  ) else if i = 9 then (
    let C21 : gCT := m_jumpIfZero C k v;
    C21
  ) else if i = 10 then (
    let x23 : Int32 := C 7 k 3;
    let x24 : Int32 := x23 + v;
    let C25 : gCT := cs C 7 k 3 x24;
    C25
  ) else if i = 11 then (
    let r27 : Int32 × gCT := m_passesGate C k;
    let x29 : Int32 := r27.1;
    let C28 : gCT := r27.2;
    let x32 : Int32 :=
      if x29 = 0 then (
        3
      ) else (
        7
      );
    let C33 : gCT := cs C28 7 k 4 x32;
    C33
  ) else if i = 12 then (
    let r35 : Int32 × gCT := m_passesGate C k;
    let x37 : Int32 := r35.1;
    let C36 : gCT := r35.2;
    let x40 : Int32 :=
      if x37 = 0 then (
        3
      ) else (
        2
      );
    let C41 : gCT := cs C36 7 k 4 x40;
    C41
  ) else (
    let C42 : gCT := m_combine C k i;
    C42
  )
set_option maxHeartbeats 4000000 in
set_option maxRecDepth 100000 in
theorem c_m_perform (l : Launch) (G : gG) (lv : gLv) (ad : gAd) (C : gCT) (k r : Nat) (i v : Int32) (cnt cap : Nat) (hM : gM lv k) (hR : gRun lv C r cnt cap) : gMv l yX3_perform cX3_perform 4 (gRm 5 113 0 0) G [.ref (ad 7 k), .ref (ad 11 r), .int i, .int v] lv ad (gF G C ad) (gEv lv ad (gF G (m_perform C k r i v) ad)) := by
  refine r_met (own := RX3) (by decide) rfl (Nat.le_of_ble_eq_true rfl) ?_
  intro p e s m below meth c ls X hw hr hlk _ hl
  have hx := X.1.1; have hb := X.1.2.1; have hml := X.1.2.2.1; have hown := X.1.2.2.2.1; have hts := X.1.2.2.2.2
  have hl : lv_has ls 4 [(0, .ref (ad 7 k)), (1, .ref (ad 11 r)), (2, .int i), (3, .int v)] := hl
  refine lv_iload_n hx hb dX3_perform_0 rfl (lv_at hl 2 rfl) ?_
  rcases Decidable.em (i = 0) with h1 | h1
  · refine lv_tableIn (tgt := 68) hx hb dX3_perform_1 (by rw [h1]; decide) (by rw [h1]; decide) (off := 67) (by rw [h1]; rfl) (by decide) ?_
    refine lv_aload_n hx hb dX3_perform_68 rfl (lv_at hl 0 rfl) ?_
    refine lv_aload_n hx hb dX3_perform_69 rfl (lv_at hl 1 rfl) ?_
    refine lv_iload_n hx hb dX3_perform_70 rfl (lv_at hl 3 rfl) ?_
    refine r_rvx X hw (r_runV X (c_m_ask l G lv ad _ _ _ _ _ _ hM hR _) cy_X3_ask ml_RX3_80 ⟨(Nat.le_of_ble_eq_true rfl), (Nat.le_of_ble_eq_true rfl)⟩ gP.blind (g_recv X hw 7 _ (hM.1) rfl rfl) (gP_call X hw _) rfl hl.1 rfl (Nat.le_of_ble_eq_true rfl) dX3_perform_71 ⟨(Nat.le_of_ble_eq_true rfl), (Nat.le_of_ble_eq_true rfl)⟩) (fun H locs hw => ?_)
    refine lv_goto (tgt := 181) hx hb dX3_perform_74 (by decide) ?_
    exact r_vret X hw hr hlk (Nat.le_of_ble_eq_true rfl) (Nat.le_of_ble_eq_true rfl) (gEv_of ((if_pos h1).trans rfl)) dX3_perform_181
  rcases Decidable.em (i = 1) with h3 | h3
  · refine lv_tableIn (tgt := 77) hx hb dX3_perform_1 (by rw [h3]; decide) (by rw [h3]; decide) (off := 76) (by rw [h3]; rfl) (by decide) ?_
    refine lv_aload_n hx hb dX3_perform_77 rfl (lv_at hl 0 rfl) ?_
    refine lv_iload_n hx hb dX3_perform_78 rfl (lv_at hl 3 rfl) ?_
    refine r_rvx X hw (r_runV X (c_m_put l G lv ad _ _ _ hM _) cy_X3_put ml_RX3_40 ⟨(Nat.le_of_ble_eq_true rfl), (Nat.le_of_ble_eq_true rfl)⟩ gP.blind (g_recv X hw 7 _ (hM.1) rfl rfl) (gP_call X hw _) rfl hl.1 rfl (Nat.le_of_ble_eq_true rfl) dX3_perform_79 ⟨(Nat.le_of_ble_eq_true rfl), (Nat.le_of_ble_eq_true rfl)⟩) (fun H locs hw => ?_)
    refine lv_goto (tgt := 181) hx hb dX3_perform_82 (by decide) ?_
    exact r_vret X hw hr hlk (Nat.le_of_ble_eq_true rfl) (Nat.le_of_ble_eq_true rfl) (gEv_of ((if_neg h1).trans ((if_pos h3).trans rfl))) dX3_perform_181
  rcases Decidable.em (i = 2) with h5 | h5
  · refine lv_tableIn (tgt := 85) hx hb dX3_perform_1 (by rw [h5]; decide) (by rw [h5]; decide) (off := 84) (by rw [h5]; rfl) (by decide) ?_
    refine lv_aload_n hx hb dX3_perform_85 rfl (lv_at hl 0 rfl) ?_
    refine lv_aload_n hx hb dX3_perform_86 rfl (lv_at hl 0 rfl) ?_
    refine r_get X hw 7 _ 1 (hM.1) rfl rfl k_X3 (by decide) fl_RX3_15 dX3_perform_87 ?_
    refine lv_iload_n hx hb dX3_perform_90 rfl (lv_at hl 3 rfl) ?_
    refine r_rp (r_runSN X (c_m_at l (ad 9 _) 8 _ v (by decide)) cy_X5_at mn_RX3_62 ⟨(Nat.le_of_ble_eq_true rfl), (Nat.le_of_ble_eq_true rfl)⟩ gArr_blind (fun U hU hW => ⟨rfl, gArr_call X hw 9 _ (hM.2.2.1) rfl U hU hW⟩) rfl hl.1 rfl (Nat.le_of_ble_eq_true rfl) dX3_perform_91 ⟨(Nat.le_of_ble_eq_true rfl), (Nat.le_of_ble_eq_true rfl)⟩) ?_
    refine lv_topi (fun x6 ex6 => ?_)
    refine r_rvx X hw (r_runV X (c_m_put l G lv ad _ _ _ hM _) cy_X3_put ml_RX3_40 ⟨(Nat.le_of_ble_eq_true rfl), (Nat.le_of_ble_eq_true rfl)⟩ gP.blind (g_recv X hw 7 _ (hM.1) rfl rfl) (gP_call X hw _) rfl hl.1 rfl (Nat.le_of_ble_eq_true rfl) dX3_perform_94 ⟨(Nat.le_of_ble_eq_true rfl), (Nat.le_of_ble_eq_true rfl)⟩) (fun H locs hw => ?_)
    refine lv_goto (tgt := 181) hx hb dX3_perform_97 (by decide) ?_
    subst ex6
    exact r_vret X hw hr hlk (Nat.le_of_ble_eq_true rfl) (Nat.le_of_ble_eq_true rfl) (gEv_of ((if_neg h1).trans ((if_neg h3).trans ((if_pos h5).trans rfl)))) dX3_perform_181
  rcases Decidable.em (i = 3) with h8 | h8
  · refine lv_tableIn (tgt := 100) hx hb dX3_perform_1 (by rw [h8]; decide) (by rw [h8]; decide) (off := 99) (by rw [h8]; rfl) (by decide) ?_
    refine lv_aload_n hx hb dX3_perform_100 rfl (lv_at hl 0 rfl) ?_
    refine lv_iload_n hx hb dX3_perform_101 rfl (lv_at hl 3 rfl) ?_
    refine r_rvx X hw (r_runV X (c_m_store l G lv ad _ _ _ hM _) cy_X3_store ml_RX3_84 ⟨(Nat.le_of_ble_eq_true rfl), (Nat.le_of_ble_eq_true rfl)⟩ gP.blind (g_recv X hw 7 _ (hM.1) rfl rfl) (gP_call X hw _) rfl hl.1 rfl (Nat.le_of_ble_eq_true rfl) dX3_perform_102 ⟨(Nat.le_of_ble_eq_true rfl), (Nat.le_of_ble_eq_true rfl)⟩) (fun H locs hw => ?_)
    refine lv_goto (tgt := 181) hx hb dX3_perform_105 (by decide) ?_
    exact r_vret X hw hr hlk (Nat.le_of_ble_eq_true rfl) (Nat.le_of_ble_eq_true rfl) (gEv_of ((if_neg h1).trans ((if_neg h3).trans ((if_neg h5).trans ((if_pos h8).trans rfl))))) dX3_perform_181
  rcases Decidable.em (i = 4) with h10 | h10
  · refine lv_tableIn (tgt := 176) hx hb dX3_perform_1 (by rw [h10]; decide) (by rw [h10]; decide) (off := 175) (by rw [h10]; rfl) (by decide) ?_
    refine lv_aload_n hx hb dX3_perform_176 rfl (lv_at hl 0 rfl) ?_
    refine lv_iload_n hx hb dX3_perform_177 rfl (lv_at hl 2 rfl) ?_
    refine r_rvx X hw (r_runV X (c_m_combine l G lv ad _ _ _ hM _) cy_X3_combine ml_RX3_94 ⟨(Nat.le_of_ble_eq_true rfl), (Nat.le_of_ble_eq_true rfl)⟩ gP.blind (g_recv X hw 7 _ (hM.1) rfl rfl) (gP_call X hw _) rfl hl.1 rfl (Nat.le_of_ble_eq_true rfl) dX3_perform_178 ⟨(Nat.le_of_ble_eq_true rfl), (Nat.le_of_ble_eq_true rfl)⟩) (fun H locs hw => ?_)
    exact r_vret X hw hr hlk (Nat.le_of_ble_eq_true rfl) (Nat.le_of_ble_eq_true rfl) (gEv_of ((if_neg h1).trans ((if_neg h3).trans ((if_neg h5).trans ((if_neg h8).trans ((if_pos h10).trans rfl)))))) dX3_perform_181
  rcases Decidable.em (i = 5) with h12 | h12
  · refine lv_tableIn (tgt := 176) hx hb dX3_perform_1 (by rw [h12]; decide) (by rw [h12]; decide) (off := 175) (by rw [h12]; rfl) (by decide) ?_
    refine lv_aload_n hx hb dX3_perform_176 rfl (lv_at hl 0 rfl) ?_
    refine lv_iload_n hx hb dX3_perform_177 rfl (lv_at hl 2 rfl) ?_
    refine r_rvx X hw (r_runV X (c_m_combine l G lv ad _ _ _ hM _) cy_X3_combine ml_RX3_94 ⟨(Nat.le_of_ble_eq_true rfl), (Nat.le_of_ble_eq_true rfl)⟩ gP.blind (g_recv X hw 7 _ (hM.1) rfl rfl) (gP_call X hw _) rfl hl.1 rfl (Nat.le_of_ble_eq_true rfl) dX3_perform_178 ⟨(Nat.le_of_ble_eq_true rfl), (Nat.le_of_ble_eq_true rfl)⟩) (fun H locs hw => ?_)
    exact r_vret X hw hr hlk (Nat.le_of_ble_eq_true rfl) (Nat.le_of_ble_eq_true rfl) (gEv_of ((if_neg h1).trans ((if_neg h3).trans ((if_neg h5).trans ((if_neg h8).trans ((if_neg h10).trans ((if_pos h12).trans rfl))))))) dX3_perform_181
  rcases Decidable.em (i = 6) with h14 | h14
  · refine lv_tableIn (tgt := 176) hx hb dX3_perform_1 (by rw [h14]; decide) (by rw [h14]; decide) (off := 175) (by rw [h14]; rfl) (by decide) ?_
    refine lv_aload_n hx hb dX3_perform_176 rfl (lv_at hl 0 rfl) ?_
    refine lv_iload_n hx hb dX3_perform_177 rfl (lv_at hl 2 rfl) ?_
    refine r_rvx X hw (r_runV X (c_m_combine l G lv ad _ _ _ hM _) cy_X3_combine ml_RX3_94 ⟨(Nat.le_of_ble_eq_true rfl), (Nat.le_of_ble_eq_true rfl)⟩ gP.blind (g_recv X hw 7 _ (hM.1) rfl rfl) (gP_call X hw _) rfl hl.1 rfl (Nat.le_of_ble_eq_true rfl) dX3_perform_178 ⟨(Nat.le_of_ble_eq_true rfl), (Nat.le_of_ble_eq_true rfl)⟩) (fun H locs hw => ?_)
    exact r_vret X hw hr hlk (Nat.le_of_ble_eq_true rfl) (Nat.le_of_ble_eq_true rfl) (gEv_of ((if_neg h1).trans ((if_neg h3).trans ((if_neg h5).trans ((if_neg h8).trans ((if_neg h10).trans ((if_neg h12).trans ((if_pos h14).trans rfl)))))))) dX3_perform_181
  rcases Decidable.em (i = 7) with h16 | h16
  · refine lv_tableIn (tgt := 176) hx hb dX3_perform_1 (by rw [h16]; decide) (by rw [h16]; decide) (off := 175) (by rw [h16]; rfl) (by decide) ?_
    refine lv_aload_n hx hb dX3_perform_176 rfl (lv_at hl 0 rfl) ?_
    refine lv_iload_n hx hb dX3_perform_177 rfl (lv_at hl 2 rfl) ?_
    refine r_rvx X hw (r_runV X (c_m_combine l G lv ad _ _ _ hM _) cy_X3_combine ml_RX3_94 ⟨(Nat.le_of_ble_eq_true rfl), (Nat.le_of_ble_eq_true rfl)⟩ gP.blind (g_recv X hw 7 _ (hM.1) rfl rfl) (gP_call X hw _) rfl hl.1 rfl (Nat.le_of_ble_eq_true rfl) dX3_perform_178 ⟨(Nat.le_of_ble_eq_true rfl), (Nat.le_of_ble_eq_true rfl)⟩) (fun H locs hw => ?_)
    exact r_vret X hw hr hlk (Nat.le_of_ble_eq_true rfl) (Nat.le_of_ble_eq_true rfl) (gEv_of ((if_neg h1).trans ((if_neg h3).trans ((if_neg h5).trans ((if_neg h8).trans ((if_neg h10).trans ((if_neg h12).trans ((if_neg h14).trans ((if_pos h16).trans rfl))))))))) dX3_perform_181
  rcases Decidable.em (i = 8) with h18 | h18
  · refine lv_tableIn (tgt := 108) hx hb dX3_perform_1 (by rw [h18]; decide) (by rw [h18]; decide) (off := 107) (by rw [h18]; rfl) (by decide) ?_
    refine lv_aload_n hx hb dX3_perform_108 rfl (lv_at hl 0 rfl) ?_
    refine lv_iload_n hx hb dX3_perform_109 rfl (lv_at hl 3 rfl) ?_
    refine s_put X hw 7 _ 4 1 (hM.1) rfl rfl k_X3 (by decide) (Nat.le_of_ble_eq_true rfl) fl_RX3_25 rfl rfl dX3_perform_110 (fun H locs hw => ?_)
    refine lv_goto (tgt := 181) hx hb dX3_perform_113 (by decide) ?_
    exact r_vret X hw hr hlk (Nat.le_of_ble_eq_true rfl) (Nat.le_of_ble_eq_true rfl) (gEv_of ((if_neg h1).trans ((if_neg h3).trans ((if_neg h5).trans ((if_neg h8).trans ((if_neg h10).trans ((if_neg h12).trans ((if_neg h14).trans ((if_neg h16).trans ((if_pos h18).trans rfl)))))))))) dX3_perform_181
  rcases Decidable.em (i = 9) with h20 | h20
  · refine lv_tableIn (tgt := 116) hx hb dX3_perform_1 (by rw [h20]; decide) (by rw [h20]; decide) (off := 115) (by rw [h20]; rfl) (by decide) ?_
    refine lv_aload_n hx hb dX3_perform_116 rfl (lv_at hl 0 rfl) ?_
    refine lv_iload_n hx hb dX3_perform_117 rfl (lv_at hl 3 rfl) ?_
    refine r_rvx X hw (r_runV X (c_m_jumpIfZero l G lv ad _ _ _ hM _) cy_X3_jumpIfZero ml_RX3_87 ⟨(Nat.le_of_ble_eq_true rfl), (Nat.le_of_ble_eq_true rfl)⟩ gP.blind (g_recv X hw 7 _ (hM.1) rfl rfl) (gP_call X hw _) rfl hl.1 rfl (Nat.le_of_ble_eq_true rfl) dX3_perform_118 ⟨(Nat.le_of_ble_eq_true rfl), (Nat.le_of_ble_eq_true rfl)⟩) (fun H locs hw => ?_)
    refine lv_goto (tgt := 181) hx hb dX3_perform_121 (by decide) ?_
    exact r_vret X hw hr hlk (Nat.le_of_ble_eq_true rfl) (Nat.le_of_ble_eq_true rfl) (gEv_of ((if_neg h1).trans ((if_neg h3).trans ((if_neg h5).trans ((if_neg h8).trans ((if_neg h10).trans ((if_neg h12).trans ((if_neg h14).trans ((if_neg h16).trans ((if_neg h18).trans ((if_pos h20).trans rfl))))))))))) dX3_perform_181
  rcases Decidable.em (i = 10) with h22 | h22
  · refine lv_tableIn (tgt := 124) hx hb dX3_perform_1 (by rw [h22]; decide) (by rw [h22]; decide) (off := 123) (by rw [h22]; rfl) (by decide) ?_
    refine lv_aload_n hx hb dX3_perform_124 rfl (lv_at hl 0 rfl) ?_
    refine lv_dup hx hb dX3_perform_125 rfl ?_
    refine r_get X hw 7 _ 6 (hM.1) rfl rfl k_X3 (by decide) fl_RX3_31 dX3_perform_126 ?_
    refine lv_topi (fun x23 ex23 => ?_)
    refine lv_iload_n hx hb dX3_perform_129 rfl (lv_at hl 3 rfl) ?_
    refine lv_iadd hx hb dX3_perform_130 ?_
    refine lv_topi (fun x24 ex24 => ?_)
    refine s_put X hw 7 _ 6 3 (hM.1) rfl rfl k_X3 (by decide) (Nat.le_of_ble_eq_true rfl) fl_RX3_31 rfl rfl dX3_perform_131 (fun H locs hw => ?_)
    refine lv_goto (tgt := 181) hx hb dX3_perform_134 (by decide) ?_
    subst ex24 ex23
    exact r_vret X hw hr hlk (Nat.le_of_ble_eq_true rfl) (Nat.le_of_ble_eq_true rfl) (gEv_of ((if_neg h1).trans ((if_neg h3).trans ((if_neg h5).trans ((if_neg h8).trans ((if_neg h10).trans ((if_neg h12).trans ((if_neg h14).trans ((if_neg h16).trans ((if_neg h18).trans ((if_neg h20).trans ((if_pos h22).trans rfl)))))))))))) dX3_perform_181
  rcases Decidable.em (i = 11) with h26 | h26
  · refine lv_tableIn (tgt := 137) hx hb dX3_perform_1 (by rw [h26]; decide) (by rw [h26]; decide) (off := 136) (by rw [h26]; rfl) (by decide) ?_
    refine lv_aload_n hx hb dX3_perform_137 rfl (lv_at hl 0 rfl) ?_
    refine lv_aload_n hx hb dX3_perform_138 rfl (lv_at hl 0 rfl) ?_
    refine r_rix X hw (r_runV X (c_m_passesGate l G lv ad _ _  hM _) cy_X3_passesGate ml_RX3_90 ⟨(Nat.le_of_ble_eq_true rfl), (Nat.le_of_ble_eq_true rfl)⟩ gP.blind (g_recv X hw 7 _ (hM.1) rfl rfl) (gP_call X hw _) rfl hl.1 rfl (Nat.le_of_ble_eq_true rfl) dX3_perform_139 ⟨(Nat.le_of_ble_eq_true rfl), (Nat.le_of_ble_eq_true rfl)⟩) (fun H locs hw => ?_)
    refine lv_topi (fun x29 ex29 => ?_)
    refine r_J (nL := 4) (J := 151) (rest := [.ref (ad 7 k)]) (L := [(0, .ref (ad 7 k)), (1, .ref (ad 11 r)), (2, .int i), (3, .int v)]) (if x29 = 0 then ( 3 ) else ( 7 )) (fun x32 ex32 ls hl => ?_) (fun J31 => ?_)
    · refine s_put X hw 7 _ 7 4 (hM.1) rfl rfl k_X3 (by decide) (Nat.le_of_ble_eq_true rfl) fl_RX3_34 rfl rfl dX3_perform_151 (fun H locs hw => ?_)
      refine lv_goto (tgt := 181) hx hb dX3_perform_154 (by decide) ?_
      subst ex32 ex29
      exact r_vret X hw hr hlk (Nat.le_of_ble_eq_true rfl) (Nat.le_of_ble_eq_true rfl) (gEv_of ((if_neg h1).trans ((if_neg h3).trans ((if_neg h5).trans ((if_neg h8).trans ((if_neg h10).trans ((if_neg h12).trans ((if_neg h14).trans ((if_neg h16).trans ((if_neg h18).trans ((if_neg h20).trans ((if_neg h22).trans ((if_pos h26).trans rfl))))))))))))) dX3_perform_181
    · refine lv_if_eq (tgt := 150) hx hb dX3_perform_142 (by decide) (fun h30 => ?_) (fun h30 => ?_)
      · refine lv_iconst (v := 3) hx hb dX3_perform_150 (by decide) ?_
        exact J31 _ ((if_pos h30).trans rfl).symm _ hl
      · refine lv_bipush (v := 7) hx hb dX3_perform_145 (by decide) ?_
        refine lv_goto (tgt := 151) hx hb dX3_perform_147 (by decide) ?_
        exact J31 _ ((if_neg h30).trans rfl).symm _ hl
  rcases Decidable.em (i = 12) with h34 | h34
  · refine lv_tableIn (tgt := 157) hx hb dX3_perform_1 (by rw [h34]; decide) (by rw [h34]; decide) (off := 156) (by rw [h34]; rfl) (by decide) ?_
    refine lv_aload_n hx hb dX3_perform_157 rfl (lv_at hl 0 rfl) ?_
    refine lv_aload_n hx hb dX3_perform_158 rfl (lv_at hl 0 rfl) ?_
    refine r_rix X hw (r_runV X (c_m_passesGate l G lv ad _ _  hM _) cy_X3_passesGate ml_RX3_90 ⟨(Nat.le_of_ble_eq_true rfl), (Nat.le_of_ble_eq_true rfl)⟩ gP.blind (g_recv X hw 7 _ (hM.1) rfl rfl) (gP_call X hw _) rfl hl.1 rfl (Nat.le_of_ble_eq_true rfl) dX3_perform_159 ⟨(Nat.le_of_ble_eq_true rfl), (Nat.le_of_ble_eq_true rfl)⟩) (fun H locs hw => ?_)
    refine lv_topi (fun x37 ex37 => ?_)
    refine r_J (nL := 4) (J := 170) (rest := [.ref (ad 7 k)]) (L := [(0, .ref (ad 7 k)), (1, .ref (ad 11 r)), (2, .int i), (3, .int v)]) (if x37 = 0 then ( 3 ) else ( 2 )) (fun x40 ex40 ls hl => ?_) (fun J39 => ?_)
    · refine s_put X hw 7 _ 7 4 (hM.1) rfl rfl k_X3 (by decide) (Nat.le_of_ble_eq_true rfl) fl_RX3_34 rfl rfl dX3_perform_170 (fun H locs hw => ?_)
      refine lv_goto (tgt := 181) hx hb dX3_perform_173 (by decide) ?_
      subst ex40 ex37
      exact r_vret X hw hr hlk (Nat.le_of_ble_eq_true rfl) (Nat.le_of_ble_eq_true rfl) (gEv_of ((if_neg h1).trans ((if_neg h3).trans ((if_neg h5).trans ((if_neg h8).trans ((if_neg h10).trans ((if_neg h12).trans ((if_neg h14).trans ((if_neg h16).trans ((if_neg h18).trans ((if_neg h20).trans ((if_neg h22).trans ((if_neg h26).trans ((if_pos h34).trans rfl)))))))))))))) dX3_perform_181
    · refine lv_if_eq (tgt := 169) hx hb dX3_perform_162 (by decide) (fun h38 => ?_) (fun h38 => ?_)
      · refine lv_iconst (v := 3) hx hb dX3_perform_169 (by decide) ?_
        exact J39 _ ((if_pos h38).trans rfl).symm _ hl
      · refine lv_iconst (v := 2) hx hb dX3_perform_165 (by decide) ?_
        refine lv_goto (tgt := 170) hx hb dX3_perform_166 (by decide) ?_
        exact J39 _ ((if_neg h38).trans rfl).symm _ hl
  refine lv_tableOut (tgt := 176) hx hb dX3_perform_1 (ts_out_0_12 h1 h3 h5 h8 h10 h12 h14 h16 h18 h20 h22 h26 h34) (by decide) ?_
  refine lv_aload_n hx hb dX3_perform_176 rfl (lv_at hl 0 rfl) ?_
  refine lv_iload_n hx hb dX3_perform_177 rfl (lv_at hl 2 rfl) ?_
  refine r_rvx X hw (r_runV X (c_m_combine l G lv ad _ _ _ hM _) cy_X3_combine ml_RX3_94 ⟨(Nat.le_of_ble_eq_true rfl), (Nat.le_of_ble_eq_true rfl)⟩ gP.blind (g_recv X hw 7 _ (hM.1) rfl rfl) (gP_call X hw _) rfl hl.1 rfl (Nat.le_of_ble_eq_true rfl) dX3_perform_178 ⟨(Nat.le_of_ble_eq_true rfl), (Nat.le_of_ble_eq_true rfl)⟩) (fun H locs hw => ?_)
  exact r_vret X hw hr hlk (Nat.le_of_ble_eq_true rfl) (Nat.le_of_ble_eq_true rfl) (gEv_of ((if_neg h1).trans ((if_neg h3).trans ((if_neg h5).trans ((if_neg h8).trans ((if_neg h10).trans ((if_neg h12).trans ((if_neg h14).trans ((if_neg h16).trans ((if_neg h18).trans ((if_neg h20).trans ((if_neg h22).trans ((if_neg h26).trans ((if_neg h34).trans rfl)))))))))))))) dX3_perform_181
def m_pay (C : gCT) (k d : Nat) : Int32 × gCT :=
  let x1 : Int32 := C 7 k 1;
  let x2 : Int32 := C 14 d 0;
  let x3 : Int32 := x2 - 1;
  let x4 : Int32 := m_isWithin x1 0 x3;
  if x4 = 0 then (
    let C22 : gCT := cs C 7 k 4 5;
    ((-1), C22)
  ) else (
    let x6 : Int32 := C 7 k 1;
    let x7 : Int32 := m_at (C 15 d) 24 x6;
    let x10 : Int32 :=
      if x7 = 0 then (
        3
      ) else (
        1
      );
    let x11 : Int32 := C 7 k 2;
    if x10 ≤ x11 then (
      let x13 : Int32 := C 7 k 2;
      let x14 : Int32 := x13 - x10;
      let C15 : gCT := cs C 7 k 2 x14;
      let x16 : Int32 := C15 7 k 1;
      let x17 : Int32 := x16 + 1;
      let C18 : gCT := cs C15 7 k 1 x17;
      let x19 : Int32 := C18 7 k 1;
      let x20 : Int32 := x19 - 1;
      (x20, C18)
    ) else (
      let C21 : gCT := cs C 7 k 4 4;
      ((-1), C21)
    )
  )
set_option maxHeartbeats 4000000 in
set_option maxRecDepth 100000 in
theorem c_m_pay (l : Launch) (G : gG) (lv : gLv) (ad : gAd) (C : gCT) (k d : Nat) (hM : gM lv k) (hC : gCode lv d) : gMi l yX3_payForNext cX3_payForNext 3 (some .int) (gRm 1 22 0 0) G [.ref (ad 7 k), .ref (ad 14 d)] lv ad (gF G C ad) (gE (m_pay C k d).1 lv ad (gF G (m_pay C k d).2 ad)) := by
  refine r_met (own := RX3) (by decide) rfl (Nat.le_of_ble_eq_true rfl) ?_
  intro p e s m below meth c ls X hw hr hlk _ hl
  have hx := X.1.1; have hb := X.1.2.1; have hml := X.1.2.2.1; have hown := X.1.2.2.2.1; have hts := X.1.2.2.2.2
  have hl : lv_has ls 3 [(0, .ref (ad 7 k)), (1, .ref (ad 14 d))] := hl
  refine lv_aload_n hx hb dX3_payForNext_0 rfl (lv_at hl 0 rfl) ?_
  refine r_get X hw 7 _ 4 (hM.1) rfl rfl k_X3 (by decide) fl_RX3_25 dX3_payForNext_1 ?_
  refine lv_topi (fun x1 ex1 => ?_)
  refine lv_iconst (v := 0) hx hb dX3_payForNext_4 (by decide) ?_
  refine lv_aload_n hx hb dX3_payForNext_5 rfl (lv_at hl 1 rfl) ?_
  refine r_get X hw 14 _ 2 (hC.1) rfl rfl k_X1 (by decide) fl_RX3_73 dX3_payForNext_6 ?_
  refine lv_topi (fun x2 ex2 => ?_)
  refine lv_iconst (v := 1) hx hb dX3_payForNext_9 (by decide) ?_
  refine lv_isub hx hb dX3_payForNext_10 ?_
  refine lv_topi (fun x3 ex3 => ?_)
  refine r_rp (r_runSN X (c_m_isWithin l x1 0 x3) cy_X5_isWithin mn_RX3_76 ⟨(Nat.le_of_ble_eq_true rfl), (Nat.le_of_ble_eq_true rfl)⟩ gPc_blind (fun _ _ _ => ⟨rfl, trivial⟩) rfl hl.1 rfl (Nat.le_of_ble_eq_true rfl) dX3_payForNext_11 ⟨(Nat.le_of_ble_eq_true rfl), (Nat.le_of_ble_eq_true rfl)⟩) ?_
  refine lv_topi (fun x4 ex4 => ?_)
  refine lv_if_ne (tgt := 24) hx hb dX3_payForNext_14 (by decide) (fun h5 => ?_) (fun h5 => ?_)
  · refine lv_aload_n hx hb dX3_payForNext_24 rfl (lv_at hl 1 rfl) ?_
    refine r_get X hw 14 _ 0 (hC.1) rfl rfl k_X1 (by decide) fl_RX3_57 dX3_payForNext_25 ?_
    refine lv_aload_n hx hb dX3_payForNext_28 rfl (lv_at hl 0 rfl) ?_
    refine r_get X hw 7 _ 4 (hM.1) rfl rfl k_X3 (by decide) fl_RX3_25 dX3_payForNext_29 ?_
    refine lv_topi (fun x6 ex6 => ?_)
    refine r_rp (r_runSN X (c_m_at l (ad 15 _) 24 _ x6 (by decide)) cy_X5_at mn_RX3_62 ⟨(Nat.le_of_ble_eq_true rfl), (Nat.le_of_ble_eq_true rfl)⟩ gArr_blind (fun U hU hW => ⟨rfl, gArr_call X hw 15 _ (hC.2.1) rfl U hU hW⟩) rfl hl.1 rfl (Nat.le_of_ble_eq_true rfl) dX3_payForNext_32 ⟨(Nat.le_of_ble_eq_true rfl), (Nat.le_of_ble_eq_true rfl)⟩) ?_
    refine lv_topi (fun x7 ex7 => ?_)
    refine r_J (nL := 3) (J := 43) (rest := []) (L := [(0, .ref (ad 7 k)), (1, .ref (ad 14 d))]) (if x7 = 0 then ( 3 ) else ( 1 )) (fun x10 ex10 ls hl => ?_) (fun J9 => ?_)
    · refine lv_istore_n (lv' := [(2, .int x10), (0, .ref (ad 7 k)), (1, .ref (ad 14 d))]) hx hb dX3_payForNext_43 rfl hl (by decide) rfl (fun ls hl => ?_)
      refine lv_aload_n hx hb dX3_payForNext_44 rfl (lv_at hl 1 rfl) ?_
      refine r_get X hw 7 _ 5 (hM.1) rfl rfl k_X3 (by decide) fl_RX3_28 dX3_payForNext_45 ?_
      refine lv_topi (fun x11 ex11 => ?_)
      refine lv_iload_n hx hb dX3_payForNext_48 rfl (lv_at hl 0 rfl) ?_
      refine lv_icmp_ge (tgt := 59) hx hb dX3_payForNext_49 (by decide) (fun h12 => ?_) (fun h12 => ?_)
      · refine lv_aload_n hx hb dX3_payForNext_59 rfl (lv_at hl 1 rfl) ?_
        refine lv_dup hx hb dX3_payForNext_60 rfl ?_
        refine r_get X hw 7 _ 5 (hM.1) rfl rfl k_X3 (by decide) fl_RX3_28 dX3_payForNext_61 ?_
        refine lv_topi (fun x13 ex13 => ?_)
        refine lv_iload_n hx hb dX3_payForNext_64 rfl (lv_at hl 0 rfl) ?_
        refine lv_isub hx hb dX3_payForNext_65 ?_
        refine lv_topi (fun x14 ex14 => ?_)
        refine s_put X hw 7 _ 5 2 (hM.1) rfl rfl k_X3 (by decide) (Nat.le_of_ble_eq_true rfl) fl_RX3_28 rfl rfl dX3_payForNext_66 (fun H locs hw => ?_)
        refine lv_aload_n hx hb dX3_payForNext_69 rfl (lv_at hl 1 rfl) ?_
        refine lv_dup hx hb dX3_payForNext_70 rfl ?_
        refine r_get X hw 7 _ 4 (hM.1) rfl rfl k_X3 (by decide) fl_RX3_25 dX3_payForNext_71 ?_
        refine lv_topi (fun x16 ex16 => ?_)
        refine lv_iconst (v := 1) hx hb dX3_payForNext_74 (by decide) ?_
        refine lv_iadd hx hb dX3_payForNext_75 ?_
        refine lv_topi (fun x17 ex17 => ?_)
        refine s_put X hw 7 _ 4 1 (hM.1) rfl rfl k_X3 (by decide) (Nat.le_of_ble_eq_true rfl) fl_RX3_25 rfl rfl dX3_payForNext_76 (fun H locs hw => ?_)
        refine lv_aload_n hx hb dX3_payForNext_79 rfl (lv_at hl 1 rfl) ?_
        refine r_get X hw 7 _ 4 (hM.1) rfl rfl k_X3 (by decide) fl_RX3_25 dX3_payForNext_80 ?_
        refine lv_topi (fun x19 ex19 => ?_)
        refine lv_iconst (v := 1) hx hb dX3_payForNext_83 (by decide) ?_
        refine lv_isub hx hb dX3_payForNext_84 ?_
        refine lv_topi (fun x20 ex20 => ?_)
        subst ex20 ex19 ex17 ex16 ex14 ex13 ex11 ex10 ex7 ex6 ex4 ex3 ex2 ex1
        exact r_iret X hw hr rfl hlk (Nat.le_of_ble_eq_true rfl) (Nat.le_of_ble_eq_true rfl) (gE_of ((if_neg h5).trans ((if_pos h12).trans rfl))) dX3_payForNext_85
      · refine lv_aload_n hx hb dX3_payForNext_52 rfl (lv_at hl 1 rfl) ?_
        refine lv_iconst (v := 4) hx hb dX3_payForNext_53 (by decide) ?_
        refine s_put X hw 7 _ 7 4 (hM.1) rfl rfl k_X3 (by decide) (Nat.le_of_ble_eq_true rfl) fl_RX3_34 rfl rfl dX3_payForNext_54 (fun H locs hw => ?_)
        refine lv_iconst (v := (-1)) hx hb dX3_payForNext_57 (by decide) ?_
        subst ex11 ex10 ex7 ex6 ex4 ex3 ex2 ex1
        exact r_iret X hw hr rfl hlk (Nat.le_of_ble_eq_true rfl) (Nat.le_of_ble_eq_true rfl) (gE_of ((if_neg h5).trans ((if_neg h12).trans rfl))) dX3_payForNext_58
    · refine lv_if_ne (tgt := 42) hx hb dX3_payForNext_35 (by decide) (fun h8 => ?_) (fun h8 => ?_)
      · refine lv_iconst (v := 1) hx hb dX3_payForNext_42 (by decide) ?_
        exact J9 _ ((if_neg h8).trans rfl).symm _ hl
      · refine lv_iconst (v := 3) hx hb dX3_payForNext_38 (by decide) ?_
        refine lv_goto (tgt := 43) hx hb dX3_payForNext_39 (by decide) ?_
        exact J9 _ ((if_pos h8).trans rfl).symm _ hl
  · refine lv_aload_n hx hb dX3_payForNext_17 rfl (lv_at hl 0 rfl) ?_
    refine lv_iconst (v := 5) hx hb dX3_payForNext_18 (by decide) ?_
    refine s_put X hw 7 _ 7 4 (hM.1) rfl rfl k_X3 (by decide) (Nat.le_of_ble_eq_true rfl) fl_RX3_34 rfl rfl dX3_payForNext_19 (fun H locs hw => ?_)
    refine lv_iconst (v := (-1)) hx hb dX3_payForNext_22 (by decide) ?_
    subst ex4 ex3 ex2 ex1
    exact r_iret X hw hr rfl hlk (Nat.le_of_ble_eq_true rfl) (Nat.le_of_ble_eq_true rfl) (gE_of ((if_pos h5).trans rfl)) dX3_payForNext_23
theorem keep_ite {C a b : gCT} {c : Prop} [Decidable c] (h1 : gKeep C a) (h2 : gKeep C b) : gKeep C (if c then a else b) := by
  split
  · exact h1
  · exact h2
theorem keep_cs7 {C D : gCT} {n j : Nat} {v : Int32} (h : gKeep C D) : gKeep C (cs D 7 n j v) := fun κ h7 h8 h9 h10 => by
  rw [cs_k _ _ _ _ h7]
  exact h κ h7 h8 h9 h10
theorem keep_rf {C : gCT} : gKeep C C := fun _ _ _ _ _ => rfl
theorem keep_tr {C D E : gCT} (h1 : gKeep C D) (h2 : gKeep D E) : gKeep C E := fun κ h7 h8 h9 h10 => (h2 κ h7 h8 h9 h10).trans (h1 κ h7 h8 h9 h10)
theorem m_perform_keep (C : gCT) (k r : Nat) (i v : Int32) : gKeep C (m_perform C k r i v) := by
  unfold m_perform
  exact keep_ite (m_ask_keep _ _ _ _) (keep_ite (m_put_keep _ _ _) (keep_ite (m_put_keep _ _ _) (keep_ite (m_store_keep _ _ _) (keep_ite (m_combine_keep _ _ _) (keep_ite (m_combine_keep _ _ _) (keep_ite (m_combine_keep _ _ _) (keep_ite (m_combine_keep _ _ _) (keep_ite (keep_cs7 keep_rf) (keep_ite (m_jumpIfZero_keep _ _ _) (keep_ite (keep_cs7 keep_rf) (keep_ite (keep_cs7 (m_passesGate_keep _ _)) (keep_ite (keep_cs7 (m_passesGate_keep _ _)) (m_combine_keep _ _ _)))))))))))))
theorem m_pay_keep (C : gCT) (k d : Nat) : gKeep C (m_pay C k d).2 := by
  intro κ h7 h8 h9 h10
  unfold m_pay
  dsimp only
  repeat' split
  all_goals simp [cs_k, *]

/-! ===== the law: cases ===== -/
section LC
variable {p : Program} {l : Launch} {e : Env} {s : State} {m : MethodId} {below : List Frame} {meth : Method} {c : Code} {H : Heap} {locs : List Loc} {cells slots : Nat} {Q : State → Prop}
variable {ls : Array Slot} {G : gG} {A : Nat → Prop} {adC adM : gAd} {b i n : Nat}
set_option maxHeartbeats 2000000 in
set_option maxRecDepth 100000 in
theorem law_c13 (hst : l.stackTraces = false) {C M : gCT} (X : gX p s m #[.ref b] c cL_law RL 7 G A) (hw : gT2 G A s.heap H locs (gLvO C) adC (gF G C adC) (gLvR 34) adM (gF G M adM)) (hI : gInv C) (hB : MBI M) (hR : sRel n C M) (hn : n < 512) {L : Nat} {xs : Nat → Int32} (hX : va_X b L xs s s.heap) (hbl : b < s.heap.size) (hbA : ¬ A b) (h1 : vp_in (nI i + 1) L) (h2 : vp_in (nI i + 2) L) (h3 : vp_in (nI i + 3) L) (hc : cells + 16 ≤ 601024) (hs : slots + 4096 ≤ 7293033)
    (hl : lv_has ls 7 [(4, .int (nI i)), (0, .ref b), (1, .ref (adC 0 0)), (2, .ref (adM 20 0)), (3, .ref (adC 22 0))]) (kk : lawK p l e s m below meth c Q G A b adM i n cells slots) : W p l e room_1 s m #[.ref b] below meth c H locs cells slots Q (F0 m 940 ls []) := by
  have hx := X.1.1
  have hb := X.1.2.1
  refine lv_aload_n hx hb dL_law_940 rfl (lv_at hl 2 rfl) ?_
  refine lv_aload_n hx hb dL_law_941 rfl (lv_at hl 1 rfl) ?_
  refine lv_iload hx hb dL_law_942 (lv_at hl 0 rfl) ?_
  refine lv_iconst (v := 1) hx hb dL_law_944 (by decide) ?_
  refine lv_iadd hx hb dL_law_945 ?_
  refine va_sld hx hb hX hbl hbA hw.2.2.2 h1 dL_law_946 ?_
  refine lv_aload_n hx hb dL_law_947 rfl (lv_at hl 4 rfl) ?_
  refine t_w X hw (r_runSW X (c_w_state l hst G C adC (xs (nI i + 1).toNatClampNeg) hI _) cw_state ini_RL dd_state ml_RL_149 ⟨(Nat.le_of_ble_eq_true rfl), (Nat.le_of_ble_eq_true rfl)⟩ gP.blind (gP_call X hw.wc _) rfl hl.1 rfl (Nat.le_of_ble_eq_true rfl) dL_law_948 ⟨show cells + 2 ≤ 601024 by omega, show slots + 12 ≤ 7293033 by omega⟩) (fun H locs adD hK hw => ?_)
  rw [← hK.1, ← hK.2] at hl
  refine lv_istore (lv' := [(5, .int (nI (m_state C (xs (nI i + 1).toNatClampNeg)).1)), (4, .int (nI i)), (0, .ref b), (1, .ref (adD 0 0)), (2, .ref (adM 20 0)), (3, .ref (adD 22 0))]) hx hb dL_law_951 hl (by decide) rfl (fun ls hl => ?_)
  refine lv_aload_n hx hb dL_law_953 rfl (lv_at hl 4 rfl) ?_
  refine lv_aload_n hx hb dL_law_954 rfl (lv_at hl 2 rfl) ?_
  refine lv_iload hx hb dL_law_955 (lv_at hl 1 rfl) ?_
  refine lv_iconst (v := 1) hx hb dL_law_957 (by decide) ?_
  refine lv_iadd hx hb dL_law_958 ?_
  refine va_sld hx hb hX hbl hbA hw.2.2.2 h1 dL_law_959 ?_
  refine t_q X hw (r_runV X (c_q_state l G _ adM M (xs (nI i + 1).toNatClampNeg) gLM_R hB _) cy_X6_state ml_RL_151 ⟨(Nat.le_of_ble_eq_true rfl), (Nat.le_of_ble_eq_true rfl)⟩ gP.blind (g_recv X hw.wm 20 0 gLM_R.1 rfl rfl) (gP_call X hw.wm _) rfl hl.1 rfl (Nat.le_of_ble_eq_true rfl) dL_law_960 ⟨show cells + 2 + 0 ≤ 601024 by omega, show slots + 12 + 0 ≤ 7293033 by omega⟩) (fun H locs hB1 hw => ?_)
  have hO := s_state hI hB hR (xs (nI i + 1).toNatClampNeg)
  have hI1 := w_out_inv (r := m_state C (xs (nI i + 1).toNatClampNeg)) hI (by rw [m_state_str C (xs (nI i + 1).toNatClampNeg)]; exact hI)
  refine lv_istore (lv' := [(6, .int (q_state M (xs (nI i + 1).toNatClampNeg)).1), (5, .int (nI (m_state C (xs (nI i + 1).toNatClampNeg)).1)), (4, .int (nI i)), (0, .ref b), (1, .ref (adD 0 0)), (2, .ref (adM 20 0)), (3, .ref (adD 22 0))]) hx hb dL_law_963 hl (by decide) rfl (fun ls hl => ?_)
  refine law_tail (t0 := 965) X hw hI1 hB1 (m_state_lt C (xs (nI i + 1).toNatClampNeg)) hO.1 hO.2.1 (show cells + 2 + 0 ≤ 601024 by omega) (show slots + 12 + 0 ≤ 7293033 by omega) dL_law_965 dL_law_966 dL_law_969 dL_law_971 dL_law_976 dL_law_978 dL_law_981 dL_law_982 dL_law_983 dL_law_984 dL_law_986 dL_law_987 dL_law_988 hl (fun H locs hw => ?_)
  refine lv_goto (tgt := 1729) hx hb dL_law_993 (by decide) ?_
  exact kk _ _ _ _ _ _ _ _ (by show cells + 2 + 0 ≤ cells + 16; omega) (by show slots + 12 + 0 ≤ slots + 4096; omega) hI1 hB1 hO.2.2 hw (lv_sub hl [2, 3, 4, 5, 6] rfl)
set_option maxHeartbeats 2000000 in
set_option maxRecDepth 100000 in
theorem law_c14 (hst : l.stackTraces = false) {C M : gCT} (X : gX p s m #[.ref b] c cL_law RL 7 G A) (hw : gT2 G A s.heap H locs (gLvO C) adC (gF G C adC) (gLvR 34) adM (gF G M adM)) (hI : gInv C) (hB : MBI M) (hR : sRel n C M) (hn : n < 512) {L : Nat} {xs : Nat → Int32} (hX : va_X b L xs s s.heap) (hbl : b < s.heap.size) (hbA : ¬ A b) (h1 : vp_in (nI i + 1) L) (h2 : vp_in (nI i + 2) L) (h3 : vp_in (nI i + 3) L) (hc : cells + 16 ≤ 601024) (hs : slots + 4096 ≤ 7293033)
    (hl : lv_has ls 7 [(4, .int (nI i)), (0, .ref b), (1, .ref (adC 0 0)), (2, .ref (adM 20 0)), (3, .ref (adC 22 0))]) (kk : lawK p l e s m below meth c Q G A b adM i n cells slots) : W p l e room_1 s m #[.ref b] below meth c H locs cells slots Q (F0 m 996 ls []) := by
  have hx := X.1.1
  have hb := X.1.2.1
  refine lv_aload_n hx hb dL_law_996 rfl (lv_at hl 2 rfl) ?_
  refine lv_aload_n hx hb dL_law_997 rfl (lv_at hl 1 rfl) ?_
  refine lv_iload hx hb dL_law_998 (lv_at hl 0 rfl) ?_
  refine lv_iconst (v := 1) hx hb dL_law_1000 (by decide) ?_
  refine lv_iadd hx hb dL_law_1001 ?_
  refine va_sld hx hb hX hbl hbA hw.2.2.2 h1 dL_law_1002 ?_
  refine lv_aload_n hx hb dL_law_1003 rfl (lv_at hl 4 rfl) ?_
  refine t_w X hw (r_runSW X (c_w_question l hst G C adC (xs (nI i + 1).toNatClampNeg) hI _) cw_question ini_RL dd_question ml_RL_152 ⟨(Nat.le_of_ble_eq_true rfl), (Nat.le_of_ble_eq_true rfl)⟩ gP.blind (gP_call X hw.wc _) rfl hl.1 rfl (Nat.le_of_ble_eq_true rfl) dL_law_1004 ⟨show cells + 2 ≤ 601024 by omega, show slots + 12 ≤ 7293033 by omega⟩) (fun H locs adD hK hw => ?_)
  rw [← hK.1, ← hK.2] at hl
  refine lv_istore (lv' := [(5, .int (nI (m_question C (xs (nI i + 1).toNatClampNeg)).1)), (4, .int (nI i)), (0, .ref b), (1, .ref (adD 0 0)), (2, .ref (adM 20 0)), (3, .ref (adD 22 0))]) hx hb dL_law_1007 hl (by decide) rfl (fun ls hl => ?_)
  refine lv_aload_n hx hb dL_law_1009 rfl (lv_at hl 4 rfl) ?_
  refine lv_aload_n hx hb dL_law_1010 rfl (lv_at hl 2 rfl) ?_
  refine lv_iload hx hb dL_law_1011 (lv_at hl 1 rfl) ?_
  refine lv_iconst (v := 1) hx hb dL_law_1013 (by decide) ?_
  refine lv_iadd hx hb dL_law_1014 ?_
  refine va_sld hx hb hX hbl hbA hw.2.2.2 h1 dL_law_1015 ?_
  refine t_q X hw (r_runV X (c_q_question l G _ adM M (xs (nI i + 1).toNatClampNeg) gLM_R hB _) cy_X6_question ml_RL_154 ⟨(Nat.le_of_ble_eq_true rfl), (Nat.le_of_ble_eq_true rfl)⟩ gP.blind (g_recv X hw.wm 20 0 gLM_R.1 rfl rfl) (gP_call X hw.wm _) rfl hl.1 rfl (Nat.le_of_ble_eq_true rfl) dL_law_1016 ⟨show cells + 2 + 0 ≤ 601024 by omega, show slots + 12 + 0 ≤ 7293033 by omega⟩) (fun H locs hB1 hw => ?_)
  have hO := s_question hI hB hR (xs (nI i + 1).toNatClampNeg)
  have hI1 := w_out_inv (r := m_question C (xs (nI i + 1).toNatClampNeg)) hI (by rw [m_question_str C (xs (nI i + 1).toNatClampNeg)]; exact hI)
  refine lv_istore (lv' := [(6, .int (q_question M (xs (nI i + 1).toNatClampNeg)).1), (5, .int (nI (m_question C (xs (nI i + 1).toNatClampNeg)).1)), (4, .int (nI i)), (0, .ref b), (1, .ref (adD 0 0)), (2, .ref (adM 20 0)), (3, .ref (adD 22 0))]) hx hb dL_law_1019 hl (by decide) rfl (fun ls hl => ?_)
  refine law_tail (t0 := 1021) X hw hI1 hB1 (m_question_lt C (xs (nI i + 1).toNatClampNeg)) hO.1 hO.2.1 (show cells + 2 + 0 ≤ 601024 by omega) (show slots + 12 + 0 ≤ 7293033 by omega) dL_law_1021 dL_law_1022 dL_law_1025 dL_law_1027 dL_law_1032 dL_law_1034 dL_law_1037 dL_law_1038 dL_law_1039 dL_law_1040 dL_law_1042 dL_law_1043 dL_law_1044 hl (fun H locs hw => ?_)
  refine lv_goto (tgt := 1729) hx hb dL_law_1049 (by decide) ?_
  exact kk _ _ _ _ _ _ _ _ (by show cells + 2 + 0 ≤ cells + 16; omega) (by show slots + 12 + 0 ≤ slots + 4096; omega) hI1 hB1 hO.2.2 hw (lv_sub hl [2, 3, 4, 5, 6] rfl)
set_option maxHeartbeats 2000000 in
set_option maxRecDepth 100000 in
theorem law_c15 (hst : l.stackTraces = false) {C M : gCT} (X : gX p s m #[.ref b] c cL_law RL 7 G A) (hw : gT2 G A s.heap H locs (gLvO C) adC (gF G C adC) (gLvR 34) adM (gF G M adM)) (hI : gInv C) (hB : MBI M) (hR : sRel n C M) (hn : n < 512) {L : Nat} {xs : Nat → Int32} (hX : va_X b L xs s s.heap) (hbl : b < s.heap.size) (hbA : ¬ A b) (h1 : vp_in (nI i + 1) L) (h2 : vp_in (nI i + 2) L) (h3 : vp_in (nI i + 3) L) (hc : cells + 16 ≤ 601024) (hs : slots + 4096 ≤ 7293033)
    (hl : lv_has ls 7 [(4, .int (nI i)), (0, .ref b), (1, .ref (adC 0 0)), (2, .ref (adM 20 0)), (3, .ref (adC 22 0))]) (kk : lawK p l e s m below meth c Q G A b adM i n cells slots) : W p l e room_1 s m #[.ref b] below meth c H locs cells slots Q (F0 m 1052 ls []) := by
  have hx := X.1.1
  have hb := X.1.2.1
  refine lv_aload_n hx hb dL_law_1052 rfl (lv_at hl 2 rfl) ?_
  refine lv_aload_n hx hb dL_law_1053 rfl (lv_at hl 1 rfl) ?_
  refine lv_iload hx hb dL_law_1054 (lv_at hl 0 rfl) ?_
  refine lv_iconst (v := 1) hx hb dL_law_1056 (by decide) ?_
  refine lv_iadd hx hb dL_law_1057 ?_
  refine va_sld hx hb hX hbl hbA hw.2.2.2 h1 dL_law_1058 ?_
  refine lv_aload_n hx hb dL_law_1059 rfl (lv_at hl 4 rfl) ?_
  refine t_w X hw (r_runSW X (c_w_version l hst G C adC (xs (nI i + 1).toNatClampNeg) hI _) cw_version ini_RL dd_version ml_RL_155 ⟨(Nat.le_of_ble_eq_true rfl), (Nat.le_of_ble_eq_true rfl)⟩ gP.blind (gP_call X hw.wc _) rfl hl.1 rfl (Nat.le_of_ble_eq_true rfl) dL_law_1060 ⟨show cells + 2 ≤ 601024 by omega, show slots + 12 ≤ 7293033 by omega⟩) (fun H locs adD hK hw => ?_)
  rw [← hK.1, ← hK.2] at hl
  refine lv_istore (lv' := [(5, .int (nI (m_version C (xs (nI i + 1).toNatClampNeg)).1)), (4, .int (nI i)), (0, .ref b), (1, .ref (adD 0 0)), (2, .ref (adM 20 0)), (3, .ref (adD 22 0))]) hx hb dL_law_1063 hl (by decide) rfl (fun ls hl => ?_)
  refine lv_aload_n hx hb dL_law_1065 rfl (lv_at hl 4 rfl) ?_
  refine lv_aload_n hx hb dL_law_1066 rfl (lv_at hl 2 rfl) ?_
  refine lv_iload hx hb dL_law_1067 (lv_at hl 1 rfl) ?_
  refine lv_iconst (v := 1) hx hb dL_law_1069 (by decide) ?_
  refine lv_iadd hx hb dL_law_1070 ?_
  refine va_sld hx hb hX hbl hbA hw.2.2.2 h1 dL_law_1071 ?_
  refine t_q X hw (r_runV X (c_q_version l G _ adM M (xs (nI i + 1).toNatClampNeg) gLM_R hB _) cy_X6_version ml_RL_157 ⟨(Nat.le_of_ble_eq_true rfl), (Nat.le_of_ble_eq_true rfl)⟩ gP.blind (g_recv X hw.wm 20 0 gLM_R.1 rfl rfl) (gP_call X hw.wm _) rfl hl.1 rfl (Nat.le_of_ble_eq_true rfl) dL_law_1072 ⟨show cells + 2 + 0 ≤ 601024 by omega, show slots + 12 + 0 ≤ 7293033 by omega⟩) (fun H locs hB1 hw => ?_)
  have hO := s_version hI hB hR (xs (nI i + 1).toNatClampNeg)
  have hI1 := w_out_inv (r := m_version C (xs (nI i + 1).toNatClampNeg)) hI (by rw [m_version_str C (xs (nI i + 1).toNatClampNeg)]; exact hI)
  refine lv_istore (lv' := [(6, .int (q_version M (xs (nI i + 1).toNatClampNeg)).1), (5, .int (nI (m_version C (xs (nI i + 1).toNatClampNeg)).1)), (4, .int (nI i)), (0, .ref b), (1, .ref (adD 0 0)), (2, .ref (adM 20 0)), (3, .ref (adD 22 0))]) hx hb dL_law_1075 hl (by decide) rfl (fun ls hl => ?_)
  refine law_tail (t0 := 1077) X hw hI1 hB1 (m_version_lt C (xs (nI i + 1).toNatClampNeg)) hO.1 hO.2.1 (show cells + 2 + 0 ≤ 601024 by omega) (show slots + 12 + 0 ≤ 7293033 by omega) dL_law_1077 dL_law_1078 dL_law_1081 dL_law_1083 dL_law_1088 dL_law_1090 dL_law_1093 dL_law_1094 dL_law_1095 dL_law_1096 dL_law_1098 dL_law_1099 dL_law_1100 hl (fun H locs hw => ?_)
  refine lv_goto (tgt := 1729) hx hb dL_law_1105 (by decide) ?_
  exact kk _ _ _ _ _ _ _ _ (by show cells + 2 + 0 ≤ cells + 16; omega) (by show slots + 12 + 0 ≤ slots + 4096; omega) hI1 hB1 hO.2.2 hw (lv_sub hl [2, 3, 4, 5, 6] rfl)
set_option maxHeartbeats 2000000 in
set_option maxRecDepth 100000 in
theorem law_c16 (hst : l.stackTraces = false) {C M : gCT} (X : gX p s m #[.ref b] c cL_law RL 7 G A) (hw : gT2 G A s.heap H locs (gLvO C) adC (gF G C adC) (gLvR 34) adM (gF G M adM)) (hI : gInv C) (hB : MBI M) (hR : sRel n C M) (hn : n < 512) {L : Nat} {xs : Nat → Int32} (hX : va_X b L xs s s.heap) (hbl : b < s.heap.size) (hbA : ¬ A b) (h1 : vp_in (nI i + 1) L) (h2 : vp_in (nI i + 2) L) (h3 : vp_in (nI i + 3) L) (hc : cells + 16 ≤ 601024) (hs : slots + 4096 ≤ 7293033)
    (hl : lv_has ls 7 [(4, .int (nI i)), (0, .ref b), (1, .ref (adC 0 0)), (2, .ref (adM 20 0)), (3, .ref (adC 22 0))]) (kk : lawK p l e s m below meth c Q G A b adM i n cells slots) : W p l e room_1 s m #[.ref b] below meth c H locs cells slots Q (F0 m 1108 ls []) := by
  have hx := X.1.1
  have hb := X.1.2.1
  refine lv_aload_n hx hb dL_law_1108 rfl (lv_at hl 2 rfl) ?_
  refine lv_aload_n hx hb dL_law_1109 rfl (lv_at hl 1 rfl) ?_
  refine lv_iload hx hb dL_law_1110 (lv_at hl 0 rfl) ?_
  refine lv_iconst (v := 1) hx hb dL_law_1112 (by decide) ?_
  refine lv_iadd hx hb dL_law_1113 ?_
  refine va_sld hx hb hX hbl hbA hw.2.2.2 h1 dL_law_1114 ?_
  refine lv_aload_n hx hb dL_law_1115 rfl (lv_at hl 4 rfl) ?_
  refine t_w X hw (r_runSW X (c_w_fuel l hst G C adC (xs (nI i + 1).toNatClampNeg) hI _) cw_fuel ini_RL dd_fuel ml_RL_158 ⟨(Nat.le_of_ble_eq_true rfl), (Nat.le_of_ble_eq_true rfl)⟩ gP.blind (gP_call X hw.wc _) rfl hl.1 rfl (Nat.le_of_ble_eq_true rfl) dL_law_1116 ⟨show cells + 2 ≤ 601024 by omega, show slots + 12 ≤ 7293033 by omega⟩) (fun H locs adD hK hw => ?_)
  rw [← hK.1, ← hK.2] at hl
  refine lv_istore (lv' := [(5, .int (nI (m_fuel C (xs (nI i + 1).toNatClampNeg)).1)), (4, .int (nI i)), (0, .ref b), (1, .ref (adD 0 0)), (2, .ref (adM 20 0)), (3, .ref (adD 22 0))]) hx hb dL_law_1119 hl (by decide) rfl (fun ls hl => ?_)
  refine lv_aload_n hx hb dL_law_1121 rfl (lv_at hl 4 rfl) ?_
  refine lv_aload_n hx hb dL_law_1122 rfl (lv_at hl 2 rfl) ?_
  refine lv_iload hx hb dL_law_1123 (lv_at hl 1 rfl) ?_
  refine lv_iconst (v := 1) hx hb dL_law_1125 (by decide) ?_
  refine lv_iadd hx hb dL_law_1126 ?_
  refine va_sld hx hb hX hbl hbA hw.2.2.2 h1 dL_law_1127 ?_
  refine t_q X hw (r_runV X (c_q_fuel l G _ adM M (xs (nI i + 1).toNatClampNeg) gLM_R hB _) cy_X6_fuel ml_RL_160 ⟨(Nat.le_of_ble_eq_true rfl), (Nat.le_of_ble_eq_true rfl)⟩ gP.blind (g_recv X hw.wm 20 0 gLM_R.1 rfl rfl) (gP_call X hw.wm _) rfl hl.1 rfl (Nat.le_of_ble_eq_true rfl) dL_law_1128 ⟨show cells + 2 + 0 ≤ 601024 by omega, show slots + 12 + 0 ≤ 7293033 by omega⟩) (fun H locs hB1 hw => ?_)
  have hO := s_fuel hI hB hR (xs (nI i + 1).toNatClampNeg)
  have hI1 := w_out_inv (r := m_fuel C (xs (nI i + 1).toNatClampNeg)) hI (by rw [m_fuel_str C (xs (nI i + 1).toNatClampNeg)]; exact hI)
  refine lv_istore (lv' := [(6, .int (q_fuel M (xs (nI i + 1).toNatClampNeg)).1), (5, .int (nI (m_fuel C (xs (nI i + 1).toNatClampNeg)).1)), (4, .int (nI i)), (0, .ref b), (1, .ref (adD 0 0)), (2, .ref (adM 20 0)), (3, .ref (adD 22 0))]) hx hb dL_law_1131 hl (by decide) rfl (fun ls hl => ?_)
  refine law_tail (t0 := 1133) X hw hI1 hB1 (m_fuel_lt C (xs (nI i + 1).toNatClampNeg)) hO.1 hO.2.1 (show cells + 2 + 0 ≤ 601024 by omega) (show slots + 12 + 0 ≤ 7293033 by omega) dL_law_1133 dL_law_1134 dL_law_1137 dL_law_1139 dL_law_1144 dL_law_1146 dL_law_1149 dL_law_1150 dL_law_1151 dL_law_1152 dL_law_1154 dL_law_1155 dL_law_1156 hl (fun H locs hw => ?_)
  refine lv_goto (tgt := 1729) hx hb dL_law_1161 (by decide) ?_
  exact kk _ _ _ _ _ _ _ _ (by show cells + 2 + 0 ≤ cells + 16; omega) (by show slots + 12 + 0 ≤ slots + 4096; omega) hI1 hB1 hO.2.2 hw (lv_sub hl [2, 3, 4, 5, 6] rfl)
set_option maxHeartbeats 2000000 in
set_option maxRecDepth 100000 in
theorem law_c17 (hst : l.stackTraces = false) {C M : gCT} (X : gX p s m #[.ref b] c cL_law RL 7 G A) (hw : gT2 G A s.heap H locs (gLvO C) adC (gF G C adC) (gLvR 34) adM (gF G M adM)) (hI : gInv C) (hB : MBI M) (hR : sRel n C M) (hn : n < 512) {L : Nat} {xs : Nat → Int32} (hX : va_X b L xs s s.heap) (hbl : b < s.heap.size) (hbA : ¬ A b) (h1 : vp_in (nI i + 1) L) (h2 : vp_in (nI i + 2) L) (h3 : vp_in (nI i + 3) L) (hc : cells + 16 ≤ 601024) (hs : slots + 4096 ≤ 7293033)
    (hl : lv_has ls 7 [(4, .int (nI i)), (0, .ref b), (1, .ref (adC 0 0)), (2, .ref (adM 20 0)), (3, .ref (adC 22 0))]) (kk : lawK p l e s m below meth c Q G A b adM i n cells slots) : W p l e room_1 s m #[.ref b] below meth c H locs cells slots Q (F0 m 1164 ls []) := by
  have hx := X.1.1
  have hb := X.1.2.1
  refine lv_aload_n hx hb dL_law_1164 rfl (lv_at hl 2 rfl) ?_
  refine lv_aload_n hx hb dL_law_1165 rfl (lv_at hl 1 rfl) ?_
  refine lv_iload hx hb dL_law_1166 (lv_at hl 0 rfl) ?_
  refine lv_iconst (v := 1) hx hb dL_law_1168 (by decide) ?_
  refine lv_iadd hx hb dL_law_1169 ?_
  refine va_sld hx hb hX hbl hbA hw.2.2.2 h1 dL_law_1170 ?_
  refine lv_aload_n hx hb dL_law_1171 rfl (lv_at hl 4 rfl) ?_
  refine t_w X hw (r_runSW X (c_w_fuelAgain l hst G C adC (xs (nI i + 1).toNatClampNeg) hI _) cw_fuelAgain ini_RL dd_fuelAgain ml_RL_161 ⟨(Nat.le_of_ble_eq_true rfl), (Nat.le_of_ble_eq_true rfl)⟩ gP.blind (gP_call X hw.wc _) rfl hl.1 rfl (Nat.le_of_ble_eq_true rfl) dL_law_1172 ⟨show cells + 2 ≤ 601024 by omega, show slots + 12 ≤ 7293033 by omega⟩) (fun H locs adD hK hw => ?_)
  rw [← hK.1, ← hK.2] at hl
  refine lv_istore (lv' := [(5, .int (nI (m_fuelAgain C (xs (nI i + 1).toNatClampNeg)).1)), (4, .int (nI i)), (0, .ref b), (1, .ref (adD 0 0)), (2, .ref (adM 20 0)), (3, .ref (adD 22 0))]) hx hb dL_law_1175 hl (by decide) rfl (fun ls hl => ?_)
  refine lv_aload_n hx hb dL_law_1177 rfl (lv_at hl 4 rfl) ?_
  refine lv_aload_n hx hb dL_law_1178 rfl (lv_at hl 2 rfl) ?_
  refine lv_iload hx hb dL_law_1179 (lv_at hl 1 rfl) ?_
  refine lv_iconst (v := 1) hx hb dL_law_1181 (by decide) ?_
  refine lv_iadd hx hb dL_law_1182 ?_
  refine va_sld hx hb hX hbl hbA hw.2.2.2 h1 dL_law_1183 ?_
  refine t_q X hw (r_runV X (c_q_fuelAgain l G _ adM M (xs (nI i + 1).toNatClampNeg) gLM_R hB _) cy_X6_fuelAgain ml_RL_163 ⟨(Nat.le_of_ble_eq_true rfl), (Nat.le_of_ble_eq_true rfl)⟩ gP.blind (g_recv X hw.wm 20 0 gLM_R.1 rfl rfl) (gP_call X hw.wm _) rfl hl.1 rfl (Nat.le_of_ble_eq_true rfl) dL_law_1184 ⟨show cells + 2 + 0 ≤ 601024 by omega, show slots + 12 + 0 ≤ 7293033 by omega⟩) (fun H locs hB1 hw => ?_)
  have hO := s_fuelAgain hI hB hR (xs (nI i + 1).toNatClampNeg)
  have hI1 := w_out_inv (r := m_fuelAgain C (xs (nI i + 1).toNatClampNeg)) hI ((m_fuelAgain_str C (xs (nI i + 1).toNatClampNeg)).inv hI)
  refine lv_istore (lv' := [(6, .int (q_fuelAgain M (xs (nI i + 1).toNatClampNeg)).1), (5, .int (nI (m_fuelAgain C (xs (nI i + 1).toNatClampNeg)).1)), (4, .int (nI i)), (0, .ref b), (1, .ref (adD 0 0)), (2, .ref (adM 20 0)), (3, .ref (adD 22 0))]) hx hb dL_law_1187 hl (by decide) rfl (fun ls hl => ?_)
  refine law_tail (t0 := 1189) X hw hI1 hB1 (m_fuelAgain_lt C (xs (nI i + 1).toNatClampNeg)) hO.1 hO.2.1 (show cells + 2 + 0 ≤ 601024 by omega) (show slots + 12 + 0 ≤ 7293033 by omega) dL_law_1189 dL_law_1190 dL_law_1193 dL_law_1195 dL_law_1200 dL_law_1202 dL_law_1205 dL_law_1206 dL_law_1207 dL_law_1208 dL_law_1210 dL_law_1211 dL_law_1212 hl (fun H locs hw => ?_)
  refine lv_goto (tgt := 1729) hx hb dL_law_1217 (by decide) ?_
  exact kk _ _ _ _ _ _ _ _ (by show cells + 2 + 0 ≤ cells + 16; omega) (by show slots + 12 + 0 ≤ slots + 4096; omega) hI1 hB1 hO.2.2 hw (lv_sub hl [2, 3, 4, 5, 6] rfl)
set_option maxHeartbeats 2000000 in
set_option maxRecDepth 100000 in
theorem law_c18 (hst : l.stackTraces = false) {C M : gCT} (X : gX p s m #[.ref b] c cL_law RL 7 G A) (hw : gT2 G A s.heap H locs (gLvO C) adC (gF G C adC) (gLvR 34) adM (gF G M adM)) (hI : gInv C) (hB : MBI M) (hR : sRel n C M) (hn : n < 512) {L : Nat} {xs : Nat → Int32} (hX : va_X b L xs s s.heap) (hbl : b < s.heap.size) (hbA : ¬ A b) (h1 : vp_in (nI i + 1) L) (h2 : vp_in (nI i + 2) L) (h3 : vp_in (nI i + 3) L) (hc : cells + 16 ≤ 601024) (hs : slots + 4096 ≤ 7293033)
    (hl : lv_has ls 7 [(4, .int (nI i)), (0, .ref b), (1, .ref (adC 0 0)), (2, .ref (adM 20 0)), (3, .ref (adC 22 0))]) (kk : lawK p l e s m below meth c Q G A b adM i n cells slots) : W p l e room_1 s m #[.ref b] below meth c H locs cells slots Q (F0 m 1220 ls []) := by
  have hx := X.1.1
  have hb := X.1.2.1
  refine lv_aload_n hx hb dL_law_1220 rfl (lv_at hl 2 rfl) ?_
  refine lv_aload_n hx hb dL_law_1221 rfl (lv_at hl 1 rfl) ?_
  refine lv_iload hx hb dL_law_1222 (lv_at hl 0 rfl) ?_
  refine lv_iconst (v := 1) hx hb dL_law_1224 (by decide) ?_
  refine lv_iadd hx hb dL_law_1225 ?_
  refine va_sld hx hb hX hbl hbA hw.2.2.2 h1 dL_law_1226 ?_
  refine lv_aload_n hx hb dL_law_1227 rfl (lv_at hl 1 rfl) ?_
  refine lv_iload hx hb dL_law_1228 (lv_at hl 0 rfl) ?_
  refine lv_iconst (v := 2) hx hb dL_law_1230 (by decide) ?_
  refine lv_iadd hx hb dL_law_1231 ?_
  refine va_sld hx hb hX hbl hbA hw.2.2.2 h2 dL_law_1232 ?_
  refine lv_aload_n hx hb dL_law_1233 rfl (lv_at hl 4 rfl) ?_
  refine t_w X hw (r_runSW X (c_w_slot l hst G C adC (xs (nI i + 1).toNatClampNeg) (xs (nI i + 2).toNatClampNeg) hI _) cw_slot ini_RL dd_slot ml_RL_164 ⟨(Nat.le_of_ble_eq_true rfl), (Nat.le_of_ble_eq_true rfl)⟩ gP.blind (gP_call X hw.wc _) rfl hl.1 rfl (Nat.le_of_ble_eq_true rfl) dL_law_1234 ⟨show cells + 2 ≤ 601024 by omega, show slots + 12 ≤ 7293033 by omega⟩) (fun H locs adD hK hw => ?_)
  rw [← hK.1, ← hK.2] at hl
  refine lv_istore (lv' := [(5, .int (nI (m_slot C (xs (nI i + 1).toNatClampNeg) (xs (nI i + 2).toNatClampNeg)).1)), (4, .int (nI i)), (0, .ref b), (1, .ref (adD 0 0)), (2, .ref (adM 20 0)), (3, .ref (adD 22 0))]) hx hb dL_law_1237 hl (by decide) rfl (fun ls hl => ?_)
  refine lv_aload_n hx hb dL_law_1239 rfl (lv_at hl 4 rfl) ?_
  refine lv_aload_n hx hb dL_law_1240 rfl (lv_at hl 2 rfl) ?_
  refine lv_iload hx hb dL_law_1241 (lv_at hl 1 rfl) ?_
  refine lv_iconst (v := 1) hx hb dL_law_1243 (by decide) ?_
  refine lv_iadd hx hb dL_law_1244 ?_
  refine va_sld hx hb hX hbl hbA hw.2.2.2 h1 dL_law_1245 ?_
  refine lv_aload_n hx hb dL_law_1246 rfl (lv_at hl 2 rfl) ?_
  refine lv_iload hx hb dL_law_1247 (lv_at hl 1 rfl) ?_
  refine lv_iconst (v := 2) hx hb dL_law_1249 (by decide) ?_
  refine lv_iadd hx hb dL_law_1250 ?_
  refine va_sld hx hb hX hbl hbA hw.2.2.2 h2 dL_law_1251 ?_
  refine t_q X hw (r_runV X (c_q_slot l G _ adM M (xs (nI i + 1).toNatClampNeg) (xs (nI i + 2).toNatClampNeg) gLM_R hB _) cy_X6_slot ml_RL_166 ⟨(Nat.le_of_ble_eq_true rfl), (Nat.le_of_ble_eq_true rfl)⟩ gP.blind (g_recv X hw.wm 20 0 gLM_R.1 rfl rfl) (gP_call X hw.wm _) rfl hl.1 rfl (Nat.le_of_ble_eq_true rfl) dL_law_1252 ⟨show cells + 2 + 0 ≤ 601024 by omega, show slots + 12 + 0 ≤ 7293033 by omega⟩) (fun H locs hB1 hw => ?_)
  have hO := s_slot hI hB hR (xs (nI i + 1).toNatClampNeg) (xs (nI i + 2).toNatClampNeg)
  have hI1 := w_out_inv (r := m_slot C (xs (nI i + 1).toNatClampNeg) (xs (nI i + 2).toNatClampNeg)) hI (by rw [m_slot_str C (xs (nI i + 1).toNatClampNeg) (xs (nI i + 2).toNatClampNeg)]; exact hI)
  refine lv_istore (lv' := [(6, .int (q_slot M (xs (nI i + 1).toNatClampNeg) (xs (nI i + 2).toNatClampNeg)).1), (5, .int (nI (m_slot C (xs (nI i + 1).toNatClampNeg) (xs (nI i + 2).toNatClampNeg)).1)), (4, .int (nI i)), (0, .ref b), (1, .ref (adD 0 0)), (2, .ref (adM 20 0)), (3, .ref (adD 22 0))]) hx hb dL_law_1255 hl (by decide) rfl (fun ls hl => ?_)
  refine law_tail (t0 := 1257) X hw hI1 hB1 (m_slot_lt C (xs (nI i + 1).toNatClampNeg) (xs (nI i + 2).toNatClampNeg)) hO.1 hO.2.1 (show cells + 2 + 0 ≤ 601024 by omega) (show slots + 12 + 0 ≤ 7293033 by omega) dL_law_1257 dL_law_1258 dL_law_1261 dL_law_1263 dL_law_1268 dL_law_1270 dL_law_1273 dL_law_1274 dL_law_1275 dL_law_1276 dL_law_1278 dL_law_1279 dL_law_1280 hl (fun H locs hw => ?_)
  refine lv_goto (tgt := 1729) hx hb dL_law_1285 (by decide) ?_
  exact kk _ _ _ _ _ _ _ _ (by show cells + 2 + 0 ≤ cells + 16; omega) (by show slots + 12 + 0 ≤ slots + 4096; omega) hI1 hB1 hO.2.2 hw (lv_sub hl [2, 3, 4, 5, 6] rfl)
set_option maxHeartbeats 2000000 in
set_option maxRecDepth 100000 in
theorem law_c19 (hst : l.stackTraces = false) {C M : gCT} (X : gX p s m #[.ref b] c cL_law RL 7 G A) (hw : gT2 G A s.heap H locs (gLvO C) adC (gF G C adC) (gLvR 34) adM (gF G M adM)) (hI : gInv C) (hB : MBI M) (hR : sRel n C M) (hn : n < 512) {L : Nat} {xs : Nat → Int32} (hX : va_X b L xs s s.heap) (hbl : b < s.heap.size) (hbA : ¬ A b) (h1 : vp_in (nI i + 1) L) (h2 : vp_in (nI i + 2) L) (h3 : vp_in (nI i + 3) L) (hc : cells + 16 ≤ 601024) (hs : slots + 4096 ≤ 7293033)
    (hl : lv_has ls 7 [(4, .int (nI i)), (0, .ref b), (1, .ref (adC 0 0)), (2, .ref (adM 20 0)), (3, .ref (adC 22 0))]) (kk : lawK p l e s m below meth c Q G A b adM i n cells slots) : W p l e room_1 s m #[.ref b] below meth c H locs cells slots Q (F0 m 1288 ls []) := by
  have hx := X.1.1
  have hb := X.1.2.1
  refine lv_aload_n hx hb dL_law_1288 rfl (lv_at hl 2 rfl) ?_
  refine lv_aload_n hx hb dL_law_1289 rfl (lv_at hl 1 rfl) ?_
  refine lv_iload hx hb dL_law_1290 (lv_at hl 0 rfl) ?_
  refine lv_iconst (v := 1) hx hb dL_law_1292 (by decide) ?_
  refine lv_iadd hx hb dL_law_1293 ?_
  refine va_sld hx hb hX hbl hbA hw.2.2.2 h1 dL_law_1294 ?_
  refine lv_aload_n hx hb dL_law_1295 rfl (lv_at hl 1 rfl) ?_
  refine lv_iload hx hb dL_law_1296 (lv_at hl 0 rfl) ?_
  refine lv_iconst (v := 2) hx hb dL_law_1298 (by decide) ?_
  refine lv_iadd hx hb dL_law_1299 ?_
  refine va_sld hx hb hX hbl hbA hw.2.2.2 h2 dL_law_1300 ?_
  refine lv_aload_n hx hb dL_law_1301 rfl (lv_at hl 4 rfl) ?_
  refine t_w X hw (r_runSW X (c_w_slotAgain l hst G C adC (xs (nI i + 1).toNatClampNeg) (xs (nI i + 2).toNatClampNeg) hI _) cw_slotAgain ini_RL dd_slotAgain ml_RL_167 ⟨(Nat.le_of_ble_eq_true rfl), (Nat.le_of_ble_eq_true rfl)⟩ gP.blind (gP_call X hw.wc _) rfl hl.1 rfl (Nat.le_of_ble_eq_true rfl) dL_law_1302 ⟨show cells + 2 ≤ 601024 by omega, show slots + 12 ≤ 7293033 by omega⟩) (fun H locs adD hK hw => ?_)
  rw [← hK.1, ← hK.2] at hl
  refine lv_istore (lv' := [(5, .int (nI (m_slotAgain C (xs (nI i + 1).toNatClampNeg) (xs (nI i + 2).toNatClampNeg)).1)), (4, .int (nI i)), (0, .ref b), (1, .ref (adD 0 0)), (2, .ref (adM 20 0)), (3, .ref (adD 22 0))]) hx hb dL_law_1305 hl (by decide) rfl (fun ls hl => ?_)
  refine lv_aload_n hx hb dL_law_1307 rfl (lv_at hl 4 rfl) ?_
  refine lv_aload_n hx hb dL_law_1308 rfl (lv_at hl 2 rfl) ?_
  refine lv_iload hx hb dL_law_1309 (lv_at hl 1 rfl) ?_
  refine lv_iconst (v := 1) hx hb dL_law_1311 (by decide) ?_
  refine lv_iadd hx hb dL_law_1312 ?_
  refine va_sld hx hb hX hbl hbA hw.2.2.2 h1 dL_law_1313 ?_
  refine lv_aload_n hx hb dL_law_1314 rfl (lv_at hl 2 rfl) ?_
  refine lv_iload hx hb dL_law_1315 (lv_at hl 1 rfl) ?_
  refine lv_iconst (v := 2) hx hb dL_law_1317 (by decide) ?_
  refine lv_iadd hx hb dL_law_1318 ?_
  refine va_sld hx hb hX hbl hbA hw.2.2.2 h2 dL_law_1319 ?_
  refine t_q X hw (r_runV X (c_q_slotAgain l G _ adM M (xs (nI i + 1).toNatClampNeg) (xs (nI i + 2).toNatClampNeg) gLM_R hB _) cy_X6_slotAgain ml_RL_169 ⟨(Nat.le_of_ble_eq_true rfl), (Nat.le_of_ble_eq_true rfl)⟩ gP.blind (g_recv X hw.wm 20 0 gLM_R.1 rfl rfl) (gP_call X hw.wm _) rfl hl.1 rfl (Nat.le_of_ble_eq_true rfl) dL_law_1320 ⟨show cells + 2 + 0 ≤ 601024 by omega, show slots + 12 + 0 ≤ 7293033 by omega⟩) (fun H locs hB1 hw => ?_)
  have hO := s_slotAgain hI hB hR (xs (nI i + 1).toNatClampNeg) (xs (nI i + 2).toNatClampNeg)
  have hI1 := w_out_inv (r := m_slotAgain C (xs (nI i + 1).toNatClampNeg) (xs (nI i + 2).toNatClampNeg)) hI ((m_slotAgain_str C (xs (nI i + 1).toNatClampNeg) (xs (nI i + 2).toNatClampNeg)).inv hI)
  refine lv_istore (lv' := [(6, .int (q_slotAgain M (xs (nI i + 1).toNatClampNeg) (xs (nI i + 2).toNatClampNeg)).1), (5, .int (nI (m_slotAgain C (xs (nI i + 1).toNatClampNeg) (xs (nI i + 2).toNatClampNeg)).1)), (4, .int (nI i)), (0, .ref b), (1, .ref (adD 0 0)), (2, .ref (adM 20 0)), (3, .ref (adD 22 0))]) hx hb dL_law_1323 hl (by decide) rfl (fun ls hl => ?_)
  refine law_tail (t0 := 1325) X hw hI1 hB1 (m_slotAgain_lt C (xs (nI i + 1).toNatClampNeg) (xs (nI i + 2).toNatClampNeg)) hO.1 hO.2.1 (show cells + 2 + 0 ≤ 601024 by omega) (show slots + 12 + 0 ≤ 7293033 by omega) dL_law_1325 dL_law_1326 dL_law_1329 dL_law_1331 dL_law_1336 dL_law_1338 dL_law_1341 dL_law_1342 dL_law_1343 dL_law_1344 dL_law_1346 dL_law_1347 dL_law_1348 hl (fun H locs hw => ?_)
  refine lv_goto (tgt := 1729) hx hb dL_law_1353 (by decide) ?_
  exact kk _ _ _ _ _ _ _ _ (by show cells + 2 + 0 ≤ cells + 16; omega) (by show slots + 12 + 0 ≤ slots + 4096; omega) hI1 hB1 hO.2.2 hw (lv_sub hl [2, 3, 4, 5, 6] rfl)
set_option maxHeartbeats 2000000 in
set_option maxRecDepth 100000 in
theorem law_c20 (hst : l.stackTraces = false) {C M : gCT} (X : gX p s m #[.ref b] c cL_law RL 7 G A) (hw : gT2 G A s.heap H locs (gLvO C) adC (gF G C adC) (gLvR 34) adM (gF G M adM)) (hI : gInv C) (hB : MBI M) (hR : sRel n C M) (hn : n < 512) {L : Nat} {xs : Nat → Int32} (hX : va_X b L xs s s.heap) (hbl : b < s.heap.size) (hbA : ¬ A b) (h1 : vp_in (nI i + 1) L) (h2 : vp_in (nI i + 2) L) (h3 : vp_in (nI i + 3) L) (hc : cells + 16 ≤ 601024) (hs : slots + 4096 ≤ 7293033)
    (hl : lv_has ls 7 [(4, .int (nI i)), (0, .ref b), (1, .ref (adC 0 0)), (2, .ref (adM 20 0)), (3, .ref (adC 22 0))]) (kk : lawK p l e s m below meth c Q G A b adM i n cells slots) : W p l e room_1 s m #[.ref b] below meth c H locs cells slots Q (F0 m 1356 ls []) := by
  have hx := X.1.1
  have hb := X.1.2.1
  refine lv_aload_n hx hb dL_law_1356 rfl (lv_at hl 2 rfl) ?_
  refine lv_aload_n hx hb dL_law_1357 rfl (lv_at hl 1 rfl) ?_
  refine lv_iload hx hb dL_law_1358 (lv_at hl 0 rfl) ?_
  refine lv_iconst (v := 1) hx hb dL_law_1360 (by decide) ?_
  refine lv_iadd hx hb dL_law_1361 ?_
  refine va_sld hx hb hX hbl hbA hw.2.2.2 h1 dL_law_1362 ?_
  refine lv_aload_n hx hb dL_law_1363 rfl (lv_at hl 4 rfl) ?_
  refine t_w X hw (r_runSW X (c_w_depth l hst G C adC (xs (nI i + 1).toNatClampNeg) hI _) cw_depth ini_RL dd_depth ml_RL_170 ⟨(Nat.le_of_ble_eq_true rfl), (Nat.le_of_ble_eq_true rfl)⟩ gP.blind (gP_call X hw.wc _) rfl hl.1 rfl (Nat.le_of_ble_eq_true rfl) dL_law_1364 ⟨show cells + 2 ≤ 601024 by omega, show slots + 12 ≤ 7293033 by omega⟩) (fun H locs adD hK hw => ?_)
  rw [← hK.1, ← hK.2] at hl
  refine lv_istore (lv' := [(5, .int (nI (m_depth C (xs (nI i + 1).toNatClampNeg)).1)), (4, .int (nI i)), (0, .ref b), (1, .ref (adD 0 0)), (2, .ref (adM 20 0)), (3, .ref (adD 22 0))]) hx hb dL_law_1367 hl (by decide) rfl (fun ls hl => ?_)
  refine lv_aload_n hx hb dL_law_1369 rfl (lv_at hl 4 rfl) ?_
  refine lv_aload_n hx hb dL_law_1370 rfl (lv_at hl 2 rfl) ?_
  refine lv_iload hx hb dL_law_1371 (lv_at hl 1 rfl) ?_
  refine lv_iconst (v := 1) hx hb dL_law_1373 (by decide) ?_
  refine lv_iadd hx hb dL_law_1374 ?_
  refine va_sld hx hb hX hbl hbA hw.2.2.2 h1 dL_law_1375 ?_
  refine t_q X hw (r_runV X (c_q_depth l G _ adM M (xs (nI i + 1).toNatClampNeg) gLM_R hB _) cy_X6_depth ml_RL_172 ⟨(Nat.le_of_ble_eq_true rfl), (Nat.le_of_ble_eq_true rfl)⟩ gP.blind (g_recv X hw.wm 20 0 gLM_R.1 rfl rfl) (gP_call X hw.wm _) rfl hl.1 rfl (Nat.le_of_ble_eq_true rfl) dL_law_1376 ⟨show cells + 2 + 0 ≤ 601024 by omega, show slots + 12 + 0 ≤ 7293033 by omega⟩) (fun H locs hB1 hw => ?_)
  have hO := s_depth hI hB hR (xs (nI i + 1).toNatClampNeg)
  have hI1 := w_out_inv (r := m_depth C (xs (nI i + 1).toNatClampNeg)) hI (by rw [m_depth_str C (xs (nI i + 1).toNatClampNeg)]; exact hI)
  refine lv_istore (lv' := [(6, .int (q_depth M (xs (nI i + 1).toNatClampNeg)).1), (5, .int (nI (m_depth C (xs (nI i + 1).toNatClampNeg)).1)), (4, .int (nI i)), (0, .ref b), (1, .ref (adD 0 0)), (2, .ref (adM 20 0)), (3, .ref (adD 22 0))]) hx hb dL_law_1379 hl (by decide) rfl (fun ls hl => ?_)
  refine law_tail (t0 := 1381) X hw hI1 hB1 (m_depth_lt C (xs (nI i + 1).toNatClampNeg)) hO.1 hO.2.1 (show cells + 2 + 0 ≤ 601024 by omega) (show slots + 12 + 0 ≤ 7293033 by omega) dL_law_1381 dL_law_1382 dL_law_1385 dL_law_1387 dL_law_1392 dL_law_1394 dL_law_1397 dL_law_1398 dL_law_1399 dL_law_1400 dL_law_1402 dL_law_1403 dL_law_1404 hl (fun H locs hw => ?_)
  refine lv_goto (tgt := 1729) hx hb dL_law_1409 (by decide) ?_
  exact kk _ _ _ _ _ _ _ _ (by show cells + 2 + 0 ≤ cells + 16; omega) (by show slots + 12 + 0 ≤ slots + 4096; omega) hI1 hB1 hO.2.2 hw (lv_sub hl [2, 3, 4, 5, 6] rfl)
set_option maxHeartbeats 2000000 in
set_option maxRecDepth 100000 in
theorem law_c21 (hst : l.stackTraces = false) {C M : gCT} (X : gX p s m #[.ref b] c cL_law RL 7 G A) (hw : gT2 G A s.heap H locs (gLvO C) adC (gF G C adC) (gLvR 34) adM (gF G M adM)) (hI : gInv C) (hB : MBI M) (hR : sRel n C M) (hn : n < 512) {L : Nat} {xs : Nat → Int32} (hX : va_X b L xs s s.heap) (hbl : b < s.heap.size) (hbA : ¬ A b) (h1 : vp_in (nI i + 1) L) (h2 : vp_in (nI i + 2) L) (h3 : vp_in (nI i + 3) L) (hc : cells + 16 ≤ 601024) (hs : slots + 4096 ≤ 7293033)
    (hl : lv_has ls 7 [(4, .int (nI i)), (0, .ref b), (1, .ref (adC 0 0)), (2, .ref (adM 20 0)), (3, .ref (adC 22 0))]) (kk : lawK p l e s m below meth c Q G A b adM i n cells slots) : W p l e room_1 s m #[.ref b] below meth c H locs cells slots Q (F0 m 1412 ls []) := by
  have hx := X.1.1
  have hb := X.1.2.1
  refine lv_aload_n hx hb dL_law_1412 rfl (lv_at hl 2 rfl) ?_
  refine lv_aload_n hx hb dL_law_1413 rfl (lv_at hl 1 rfl) ?_
  refine lv_iload hx hb dL_law_1414 (lv_at hl 0 rfl) ?_
  refine lv_iconst (v := 1) hx hb dL_law_1416 (by decide) ?_
  refine lv_iadd hx hb dL_law_1417 ?_
  refine va_sld hx hb hX hbl hbA hw.2.2.2 h1 dL_law_1418 ?_
  refine lv_aload_n hx hb dL_law_1419 rfl (lv_at hl 4 rfl) ?_
  refine t_w X hw (r_runSW X (c_w_answers l hst G C adC (xs (nI i + 1).toNatClampNeg) hI _) cw_answers ini_RL dd_answers ml_RL_173 ⟨(Nat.le_of_ble_eq_true rfl), (Nat.le_of_ble_eq_true rfl)⟩ gP.blind (gP_call X hw.wc _) rfl hl.1 rfl (Nat.le_of_ble_eq_true rfl) dL_law_1420 ⟨show cells + 2 ≤ 601024 by omega, show slots + 12 ≤ 7293033 by omega⟩) (fun H locs adD hK hw => ?_)
  rw [← hK.1, ← hK.2] at hl
  refine lv_istore (lv' := [(5, .int (nI (m_answers C (xs (nI i + 1).toNatClampNeg)).1)), (4, .int (nI i)), (0, .ref b), (1, .ref (adD 0 0)), (2, .ref (adM 20 0)), (3, .ref (adD 22 0))]) hx hb dL_law_1423 hl (by decide) rfl (fun ls hl => ?_)
  refine lv_aload_n hx hb dL_law_1425 rfl (lv_at hl 4 rfl) ?_
  refine lv_aload_n hx hb dL_law_1426 rfl (lv_at hl 2 rfl) ?_
  refine lv_iload hx hb dL_law_1427 (lv_at hl 1 rfl) ?_
  refine lv_iconst (v := 1) hx hb dL_law_1429 (by decide) ?_
  refine lv_iadd hx hb dL_law_1430 ?_
  refine va_sld hx hb hX hbl hbA hw.2.2.2 h1 dL_law_1431 ?_
  refine t_q X hw (r_runV X (c_q_answers l G _ adM M (xs (nI i + 1).toNatClampNeg) gLM_R hB _) cy_X6_answers ml_RL_175 ⟨(Nat.le_of_ble_eq_true rfl), (Nat.le_of_ble_eq_true rfl)⟩ gP.blind (g_recv X hw.wm 20 0 gLM_R.1 rfl rfl) (gP_call X hw.wm _) rfl hl.1 rfl (Nat.le_of_ble_eq_true rfl) dL_law_1432 ⟨show cells + 2 + 0 ≤ 601024 by omega, show slots + 12 + 0 ≤ 7293033 by omega⟩) (fun H locs hB1 hw => ?_)
  have hO := s_answers hn hI hB hR (xs (nI i + 1).toNatClampNeg)
  have hI1 := w_out_inv (r := m_answers C (xs (nI i + 1).toNatClampNeg)) hI (by rw [m_answers_str C (xs (nI i + 1).toNatClampNeg)]; exact hI)
  refine lv_istore (lv' := [(6, .int (q_answers M (xs (nI i + 1).toNatClampNeg)).1), (5, .int (nI (m_answers C (xs (nI i + 1).toNatClampNeg)).1)), (4, .int (nI i)), (0, .ref b), (1, .ref (adD 0 0)), (2, .ref (adM 20 0)), (3, .ref (adD 22 0))]) hx hb dL_law_1435 hl (by decide) rfl (fun ls hl => ?_)
  refine law_tail (t0 := 1437) X hw hI1 hB1 (m_answers_lt C (xs (nI i + 1).toNatClampNeg)) hO.1 hO.2.1 (show cells + 2 + 0 ≤ 601024 by omega) (show slots + 12 + 0 ≤ 7293033 by omega) dL_law_1437 dL_law_1438 dL_law_1441 dL_law_1443 dL_law_1448 dL_law_1450 dL_law_1453 dL_law_1454 dL_law_1455 dL_law_1456 dL_law_1458 dL_law_1459 dL_law_1460 hl (fun H locs hw => ?_)
  refine lv_goto (tgt := 1729) hx hb dL_law_1465 (by decide) ?_
  exact kk _ _ _ _ _ _ _ _ (by show cells + 2 + 0 ≤ cells + 16; omega) (by show slots + 12 + 0 ≤ slots + 4096; omega) hI1 hB1 hO.2.2 hw (lv_sub hl [2, 3, 4, 5, 6] rfl)
set_option maxHeartbeats 2000000 in
set_option maxRecDepth 100000 in
theorem law_c22 (hst : l.stackTraces = false) {C M : gCT} (X : gX p s m #[.ref b] c cL_law RL 7 G A) (hw : gT2 G A s.heap H locs (gLvO C) adC (gF G C adC) (gLvR 34) adM (gF G M adM)) (hI : gInv C) (hB : MBI M) (hR : sRel n C M) (hn : n < 512) {L : Nat} {xs : Nat → Int32} (hX : va_X b L xs s s.heap) (hbl : b < s.heap.size) (hbA : ¬ A b) (h1 : vp_in (nI i + 1) L) (h2 : vp_in (nI i + 2) L) (h3 : vp_in (nI i + 3) L) (hc : cells + 16 ≤ 601024) (hs : slots + 4096 ≤ 7293033)
    (hl : lv_has ls 7 [(4, .int (nI i)), (0, .ref b), (1, .ref (adC 0 0)), (2, .ref (adM 20 0)), (3, .ref (adC 22 0))]) (kk : lawK p l e s m below meth c Q G A b adM i n cells slots) : W p l e room_1 s m #[.ref b] below meth c H locs cells slots Q (F0 m 1468 ls []) := by
  have hx := X.1.1
  have hb := X.1.2.1
  refine lv_aload_n hx hb dL_law_1468 rfl (lv_at hl 2 rfl) ?_
  refine lv_aload_n hx hb dL_law_1469 rfl (lv_at hl 1 rfl) ?_
  refine lv_iload hx hb dL_law_1470 (lv_at hl 0 rfl) ?_
  refine lv_iconst (v := 1) hx hb dL_law_1472 (by decide) ?_
  refine lv_iadd hx hb dL_law_1473 ?_
  refine va_sld hx hb hX hbl hbA hw.2.2.2 h1 dL_law_1474 ?_
  refine lv_aload_n hx hb dL_law_1475 rfl (lv_at hl 1 rfl) ?_
  refine lv_iload hx hb dL_law_1476 (lv_at hl 0 rfl) ?_
  refine lv_iconst (v := 2) hx hb dL_law_1478 (by decide) ?_
  refine lv_iadd hx hb dL_law_1479 ?_
  refine va_sld hx hb hX hbl hbA hw.2.2.2 h2 dL_law_1480 ?_
  refine lv_aload_n hx hb dL_law_1481 rfl (lv_at hl 4 rfl) ?_
  refine t_w X hw (r_runSW X (c_w_answerAt l hst G C adC (xs (nI i + 1).toNatClampNeg) (xs (nI i + 2).toNatClampNeg) hI _) cw_answerAt ini_RL dd_answerAt ml_RL_176 ⟨(Nat.le_of_ble_eq_true rfl), (Nat.le_of_ble_eq_true rfl)⟩ gP.blind (gP_call X hw.wc _) rfl hl.1 rfl (Nat.le_of_ble_eq_true rfl) dL_law_1482 ⟨show cells + 2 ≤ 601024 by omega, show slots + 12 ≤ 7293033 by omega⟩) (fun H locs adD hK hw => ?_)
  rw [← hK.1, ← hK.2] at hl
  refine lv_istore (lv' := [(5, .int (nI (m_answerAt C (xs (nI i + 1).toNatClampNeg) (xs (nI i + 2).toNatClampNeg)).1)), (4, .int (nI i)), (0, .ref b), (1, .ref (adD 0 0)), (2, .ref (adM 20 0)), (3, .ref (adD 22 0))]) hx hb dL_law_1485 hl (by decide) rfl (fun ls hl => ?_)
  refine lv_aload_n hx hb dL_law_1487 rfl (lv_at hl 4 rfl) ?_
  refine lv_aload_n hx hb dL_law_1488 rfl (lv_at hl 2 rfl) ?_
  refine lv_iload hx hb dL_law_1489 (lv_at hl 1 rfl) ?_
  refine lv_iconst (v := 1) hx hb dL_law_1491 (by decide) ?_
  refine lv_iadd hx hb dL_law_1492 ?_
  refine va_sld hx hb hX hbl hbA hw.2.2.2 h1 dL_law_1493 ?_
  refine lv_aload_n hx hb dL_law_1494 rfl (lv_at hl 2 rfl) ?_
  refine lv_iload hx hb dL_law_1495 (lv_at hl 1 rfl) ?_
  refine lv_iconst (v := 2) hx hb dL_law_1497 (by decide) ?_
  refine lv_iadd hx hb dL_law_1498 ?_
  refine va_sld hx hb hX hbl hbA hw.2.2.2 h2 dL_law_1499 ?_
  refine t_q X hw (r_runV X (c_q_answerAt l G _ adM M (xs (nI i + 1).toNatClampNeg) (xs (nI i + 2).toNatClampNeg) gLM_R hB _) cy_X6_answerAt ml_RL_178 ⟨(Nat.le_of_ble_eq_true rfl), (Nat.le_of_ble_eq_true rfl)⟩ gP.blind (g_recv X hw.wm 20 0 gLM_R.1 rfl rfl) (gP_call X hw.wm _) rfl hl.1 rfl (Nat.le_of_ble_eq_true rfl) dL_law_1500 ⟨show cells + 2 + 0 ≤ 601024 by omega, show slots + 12 + 0 ≤ 7293033 by omega⟩) (fun H locs hB1 hw => ?_)
  have hO := s_answerAt hn hI hB hR (xs (nI i + 1).toNatClampNeg) (xs (nI i + 2).toNatClampNeg)
  have hI1 := w_out_inv (r := m_answerAt C (xs (nI i + 1).toNatClampNeg) (xs (nI i + 2).toNatClampNeg)) hI (by rw [m_answerAt_str C (xs (nI i + 1).toNatClampNeg) (xs (nI i + 2).toNatClampNeg)]; exact hI)
  refine lv_istore (lv' := [(6, .int (q_answerAt M (xs (nI i + 1).toNatClampNeg) (xs (nI i + 2).toNatClampNeg)).1), (5, .int (nI (m_answerAt C (xs (nI i + 1).toNatClampNeg) (xs (nI i + 2).toNatClampNeg)).1)), (4, .int (nI i)), (0, .ref b), (1, .ref (adD 0 0)), (2, .ref (adM 20 0)), (3, .ref (adD 22 0))]) hx hb dL_law_1503 hl (by decide) rfl (fun ls hl => ?_)
  refine law_tail (t0 := 1505) X hw hI1 hB1 (m_answerAt_lt C (xs (nI i + 1).toNatClampNeg) (xs (nI i + 2).toNatClampNeg)) hO.1 hO.2.1 (show cells + 2 + 0 ≤ 601024 by omega) (show slots + 12 + 0 ≤ 7293033 by omega) dL_law_1505 dL_law_1506 dL_law_1509 dL_law_1511 dL_law_1516 dL_law_1518 dL_law_1521 dL_law_1522 dL_law_1523 dL_law_1524 dL_law_1526 dL_law_1527 dL_law_1528 hl (fun H locs hw => ?_)
  refine lv_goto (tgt := 1729) hx hb dL_law_1533 (by decide) ?_
  exact kk _ _ _ _ _ _ _ _ (by show cells + 2 + 0 ≤ cells + 16; omega) (by show slots + 12 + 0 ≤ slots + 4096; omega) hI1 hB1 hO.2.2 hw (lv_sub hl [2, 3, 4, 5, 6] rfl)
set_option maxHeartbeats 2000000 in
set_option maxRecDepth 100000 in
theorem law_c23 (hst : l.stackTraces = false) {C M : gCT} (X : gX p s m #[.ref b] c cL_law RL 7 G A) (hw : gT2 G A s.heap H locs (gLvO C) adC (gF G C adC) (gLvR 34) adM (gF G M adM)) (hI : gInv C) (hB : MBI M) (hR : sRel n C M) (hn : n < 512) {L : Nat} {xs : Nat → Int32} (hX : va_X b L xs s s.heap) (hbl : b < s.heap.size) (hbA : ¬ A b) (h1 : vp_in (nI i + 1) L) (h2 : vp_in (nI i + 2) L) (h3 : vp_in (nI i + 3) L) (hc : cells + 16 ≤ 601024) (hs : slots + 4096 ≤ 7293033)
    (hl : lv_has ls 7 [(4, .int (nI i)), (0, .ref b), (1, .ref (adC 0 0)), (2, .ref (adM 20 0)), (3, .ref (adC 22 0))]) (kk : lawK p l e s m below meth c Q G A b adM i n cells slots) : W p l e room_1 s m #[.ref b] below meth c H locs cells slots Q (F0 m 1536 ls []) := by
  have hx := X.1.1
  have hb := X.1.2.1
  refine lv_aload_n hx hb dL_law_1536 rfl (lv_at hl 2 rfl) ?_
  refine lv_aload_n hx hb dL_law_1537 rfl (lv_at hl 1 rfl) ?_
  refine lv_iload hx hb dL_law_1538 (lv_at hl 0 rfl) ?_
  refine lv_iconst (v := 1) hx hb dL_law_1540 (by decide) ?_
  refine lv_iadd hx hb dL_law_1541 ?_
  refine va_sld hx hb hX hbl hbA hw.2.2.2 h1 dL_law_1542 ?_
  refine lv_aload_n hx hb dL_law_1543 rfl (lv_at hl 4 rfl) ?_
  refine t_w X hw (r_runSW X (c_w_reward l hst G C adC (xs (nI i + 1).toNatClampNeg) hI _) cw_reward ini_RL dd_reward ml_RL_179 ⟨(Nat.le_of_ble_eq_true rfl), (Nat.le_of_ble_eq_true rfl)⟩ gP.blind (gP_call X hw.wc _) rfl hl.1 rfl (Nat.le_of_ble_eq_true rfl) dL_law_1544 ⟨show cells + 1 ≤ 601024 by omega, show slots + 6 ≤ 7293033 by omega⟩) (fun H locs adD hK hw => ?_)
  rw [← hK.1, ← hK.2] at hl
  refine lv_istore (lv' := [(5, .int (nI (m_reward C (xs (nI i + 1).toNatClampNeg)).1)), (4, .int (nI i)), (0, .ref b), (1, .ref (adD 0 0)), (2, .ref (adM 20 0)), (3, .ref (adD 22 0))]) hx hb dL_law_1547 hl (by decide) rfl (fun ls hl => ?_)
  refine lv_aload_n hx hb dL_law_1549 rfl (lv_at hl 4 rfl) ?_
  refine lv_aload_n hx hb dL_law_1550 rfl (lv_at hl 2 rfl) ?_
  refine lv_iload hx hb dL_law_1551 (lv_at hl 1 rfl) ?_
  refine lv_iconst (v := 1) hx hb dL_law_1553 (by decide) ?_
  refine lv_iadd hx hb dL_law_1554 ?_
  refine va_sld hx hb hX hbl hbA hw.2.2.2 h1 dL_law_1555 ?_
  refine t_q X hw (r_runV X (c_q_reward l G _ adM M (xs (nI i + 1).toNatClampNeg) gLM_R hB _) cy_X6_reward ml_RL_181 ⟨(Nat.le_of_ble_eq_true rfl), (Nat.le_of_ble_eq_true rfl)⟩ gP.blind (g_recv X hw.wm 20 0 gLM_R.1 rfl rfl) (gP_call X hw.wm _) rfl hl.1 rfl (Nat.le_of_ble_eq_true rfl) dL_law_1556 ⟨show cells + 1 + 0 ≤ 601024 by omega, show slots + 6 + 0 ≤ 7293033 by omega⟩) (fun H locs hB1 hw => ?_)
  have hO := s_reward hI hR (xs (nI i + 1).toNatClampNeg)
  have hI1 := w_out_inv (r := m_reward C (xs (nI i + 1).toNatClampNeg)) hI (by rw [m_reward_str C (xs (nI i + 1).toNatClampNeg)]; exact hI)
  refine lv_istore (lv' := [(6, .int (q_reward M (xs (nI i + 1).toNatClampNeg)).1), (5, .int (nI (m_reward C (xs (nI i + 1).toNatClampNeg)).1)), (4, .int (nI i)), (0, .ref b), (1, .ref (adD 0 0)), (2, .ref (adM 20 0)), (3, .ref (adD 22 0))]) hx hb dL_law_1559 hl (by decide) rfl (fun ls hl => ?_)
  refine law_tail (t0 := 1561) X hw hI1 hB1 (m_reward_lt C (xs (nI i + 1).toNatClampNeg)) hO.1 hO.2.1 (show cells + 1 + 0 ≤ 601024 by omega) (show slots + 6 + 0 ≤ 7293033 by omega) dL_law_1561 dL_law_1562 dL_law_1565 dL_law_1567 dL_law_1572 dL_law_1574 dL_law_1577 dL_law_1578 dL_law_1579 dL_law_1580 dL_law_1582 dL_law_1583 dL_law_1584 hl (fun H locs hw => ?_)
  refine lv_goto (tgt := 1729) hx hb dL_law_1589 (by decide) ?_
  exact kk _ _ _ _ _ _ _ _ (by show cells + 1 + 0 ≤ cells + 16; omega) (by show slots + 6 + 0 ≤ slots + 4096; omega) hI1 hB1 hO.2.2 hw (lv_sub hl [2, 3, 4, 5, 6] rfl)
set_option maxHeartbeats 2000000 in
set_option maxRecDepth 100000 in
theorem law_c24 (hst : l.stackTraces = false) {C M : gCT} (X : gX p s m #[.ref b] c cL_law RL 7 G A) (hw : gT2 G A s.heap H locs (gLvO C) adC (gF G C adC) (gLvR 34) adM (gF G M adM)) (hI : gInv C) (hB : MBI M) (hR : sRel n C M) (hn : n < 512) {L : Nat} {xs : Nat → Int32} (hX : va_X b L xs s s.heap) (hbl : b < s.heap.size) (hbA : ¬ A b) (h1 : vp_in (nI i + 1) L) (h2 : vp_in (nI i + 2) L) (h3 : vp_in (nI i + 3) L) (hc : cells + 16 ≤ 601024) (hs : slots + 4096 ≤ 7293033)
    (hl : lv_has ls 7 [(4, .int (nI i)), (0, .ref b), (1, .ref (adC 0 0)), (2, .ref (adM 20 0)), (3, .ref (adC 22 0))]) (kk : lawK p l e s m below meth c Q G A b adM i n cells slots) : W p l e room_1 s m #[.ref b] below meth c H locs cells slots Q (F0 m 1592 ls []) := by
  have hx := X.1.1
  have hb := X.1.2.1
  refine lv_aload_n hx hb dL_law_1592 rfl (lv_at hl 2 rfl) ?_
  refine lv_aload_n hx hb dL_law_1593 rfl (lv_at hl 1 rfl) ?_
  refine lv_iload hx hb dL_law_1594 (lv_at hl 0 rfl) ?_
  refine lv_iconst (v := 1) hx hb dL_law_1596 (by decide) ?_
  refine lv_iadd hx hb dL_law_1597 ?_
  refine va_sld hx hb hX hbl hbA hw.2.2.2 h1 dL_law_1598 ?_
  refine lv_aload_n hx hb dL_law_1599 rfl (lv_at hl 4 rfl) ?_
  refine t_w X hw (r_runSW X (c_w_budget l hst G C adC (xs (nI i + 1).toNatClampNeg) hI _) cw_budget ini_RL dd_budget ml_RL_182 ⟨(Nat.le_of_ble_eq_true rfl), (Nat.le_of_ble_eq_true rfl)⟩ gP.blind (gP_call X hw.wc _) rfl hl.1 rfl (Nat.le_of_ble_eq_true rfl) dL_law_1600 ⟨show cells + 2 ≤ 601024 by omega, show slots + 12 ≤ 7293033 by omega⟩) (fun H locs adD hK hw => ?_)
  rw [← hK.1, ← hK.2] at hl
  refine lv_istore (lv' := [(5, .int (nI (m_budget C (xs (nI i + 1).toNatClampNeg)).1)), (4, .int (nI i)), (0, .ref b), (1, .ref (adD 0 0)), (2, .ref (adM 20 0)), (3, .ref (adD 22 0))]) hx hb dL_law_1603 hl (by decide) rfl (fun ls hl => ?_)
  refine lv_aload_n hx hb dL_law_1605 rfl (lv_at hl 4 rfl) ?_
  refine lv_aload_n hx hb dL_law_1606 rfl (lv_at hl 2 rfl) ?_
  refine lv_iload hx hb dL_law_1607 (lv_at hl 1 rfl) ?_
  refine lv_iconst (v := 1) hx hb dL_law_1609 (by decide) ?_
  refine lv_iadd hx hb dL_law_1610 ?_
  refine va_sld hx hb hX hbl hbA hw.2.2.2 h1 dL_law_1611 ?_
  refine t_q X hw (r_runV X (c_q_budget l G _ adM M (xs (nI i + 1).toNatClampNeg) gLM_R hB _) cy_X6_budget ml_RL_184 ⟨(Nat.le_of_ble_eq_true rfl), (Nat.le_of_ble_eq_true rfl)⟩ gP.blind (g_recv X hw.wm 20 0 gLM_R.1 rfl rfl) (gP_call X hw.wm _) rfl hl.1 rfl (Nat.le_of_ble_eq_true rfl) dL_law_1612 ⟨show cells + 2 + 0 ≤ 601024 by omega, show slots + 12 + 0 ≤ 7293033 by omega⟩) (fun H locs hB1 hw => ?_)
  have hO := s_budget hI hR (xs (nI i + 1).toNatClampNeg)
  have hI1 := w_out_inv (r := m_budget C (xs (nI i + 1).toNatClampNeg)) hI (by rw [m_budget_str C (xs (nI i + 1).toNatClampNeg)]; exact hI)
  refine lv_istore (lv' := [(6, .int (q_budget M (xs (nI i + 1).toNatClampNeg)).1), (5, .int (nI (m_budget C (xs (nI i + 1).toNatClampNeg)).1)), (4, .int (nI i)), (0, .ref b), (1, .ref (adD 0 0)), (2, .ref (adM 20 0)), (3, .ref (adD 22 0))]) hx hb dL_law_1615 hl (by decide) rfl (fun ls hl => ?_)
  refine law_tail (t0 := 1617) X hw hI1 hB1 (m_budget_lt C (xs (nI i + 1).toNatClampNeg)) hO.1 hO.2.1 (show cells + 2 + 0 ≤ 601024 by omega) (show slots + 12 + 0 ≤ 7293033 by omega) dL_law_1617 dL_law_1618 dL_law_1621 dL_law_1623 dL_law_1628 dL_law_1630 dL_law_1633 dL_law_1634 dL_law_1635 dL_law_1636 dL_law_1638 dL_law_1639 dL_law_1640 hl (fun H locs hw => ?_)
  refine lv_goto (tgt := 1729) hx hb dL_law_1645 (by decide) ?_
  exact kk _ _ _ _ _ _ _ _ (by show cells + 2 + 0 ≤ cells + 16; omega) (by show slots + 12 + 0 ≤ slots + 4096; omega) hI1 hB1 hO.2.2 hw (lv_sub hl [2, 3, 4, 5, 6] rfl)
set_option maxHeartbeats 2000000 in
set_option maxRecDepth 100000 in
theorem law_c26 (hst : l.stackTraces = false) {C M : gCT} (X : gX p s m #[.ref b] c cL_law RL 7 G A) (hw : gT2 G A s.heap H locs (gLvO C) adC (gF G C adC) (gLvR 34) adM (gF G M adM)) (hI : gInv C) (hB : MBI M) (hR : sRel n C M) (hn : n < 512) {L : Nat} {xs : Nat → Int32} (hX : va_X b L xs s s.heap) (hbl : b < s.heap.size) (hbA : ¬ A b) (h1 : vp_in (nI i + 1) L) (h2 : vp_in (nI i + 2) L) (h3 : vp_in (nI i + 3) L) (hc : cells + 16 ≤ 601024) (hs : slots + 4096 ≤ 7293033)
    (hl : lv_has ls 7 [(4, .int (nI i)), (0, .ref b), (1, .ref (adC 0 0)), (2, .ref (adM 20 0)), (3, .ref (adC 22 0))]) (kk : lawK p l e s m below meth c Q G A b adM i n cells slots) : W p l e room_1 s m #[.ref b] below meth c H locs cells slots Q (F0 m 1661 ls []) := by
  have hx := X.1.1
  have hb := X.1.2.1
  refine lv_aload_n hx hb dL_law_1661 rfl (lv_at hl 2 rfl) ?_
  refine lv_aload_n hx hb dL_law_1662 rfl (lv_at hl 1 rfl) ?_
  refine lv_iload hx hb dL_law_1663 (lv_at hl 0 rfl) ?_
  refine lv_iconst (v := 1) hx hb dL_law_1665 (by decide) ?_
  refine lv_iadd hx hb dL_law_1666 ?_
  refine va_sld hx hb hX hbl hbA hw.2.2.2 h1 dL_law_1667 ?_
  refine lv_aload_n hx hb dL_law_1668 rfl (lv_at hl 1 rfl) ?_
  refine lv_iload hx hb dL_law_1669 (lv_at hl 0 rfl) ?_
  refine lv_iconst (v := 2) hx hb dL_law_1671 (by decide) ?_
  refine lv_iadd hx hb dL_law_1672 ?_
  refine va_sld hx hb hX hbl hbA hw.2.2.2 h2 dL_law_1673 ?_
  refine lv_aload_n hx hb dL_law_1674 rfl (lv_at hl 4 rfl) ?_
  refine t_w X hw (r_runSW X (c_w_done l hst G C adC (xs (nI i + 1).toNatClampNeg) (xs (nI i + 2).toNatClampNeg) hI _) cw_done ini_RL dd_done ml_RL_189 ⟨(Nat.le_of_ble_eq_true rfl), (Nat.le_of_ble_eq_true rfl)⟩ gP.blind (gP_call X hw.wc _) rfl hl.1 rfl (Nat.le_of_ble_eq_true rfl) dL_law_1675 ⟨show cells + 2 ≤ 601024 by omega, show slots + 12 ≤ 7293033 by omega⟩) (fun H locs adD hK hw => ?_)
  rw [← hK.1, ← hK.2] at hl
  refine lv_istore (lv' := [(5, .int (nI (m_done C (xs (nI i + 1).toNatClampNeg) (xs (nI i + 2).toNatClampNeg)).1)), (4, .int (nI i)), (0, .ref b), (1, .ref (adD 0 0)), (2, .ref (adM 20 0)), (3, .ref (adD 22 0))]) hx hb dL_law_1678 hl (by decide) rfl (fun ls hl => ?_)
  refine lv_aload_n hx hb dL_law_1680 rfl (lv_at hl 4 rfl) ?_
  refine lv_aload_n hx hb dL_law_1681 rfl (lv_at hl 2 rfl) ?_
  refine lv_iload hx hb dL_law_1682 (lv_at hl 1 rfl) ?_
  refine lv_iconst (v := 1) hx hb dL_law_1684 (by decide) ?_
  refine lv_iadd hx hb dL_law_1685 ?_
  refine va_sld hx hb hX hbl hbA hw.2.2.2 h1 dL_law_1686 ?_
  refine lv_aload_n hx hb dL_law_1687 rfl (lv_at hl 2 rfl) ?_
  refine lv_iload hx hb dL_law_1688 (lv_at hl 1 rfl) ?_
  refine lv_iconst (v := 2) hx hb dL_law_1690 (by decide) ?_
  refine lv_iadd hx hb dL_law_1691 ?_
  refine va_sld hx hb hX hbl hbA hw.2.2.2 h2 dL_law_1692 ?_
  refine t_q X hw (r_runV X (c_q_done l G _ adM M (xs (nI i + 1).toNatClampNeg) (xs (nI i + 2).toNatClampNeg) gLM_R hB _) cy_X6_done ml_RL_191 ⟨(Nat.le_of_ble_eq_true rfl), (Nat.le_of_ble_eq_true rfl)⟩ gP.blind (g_recv X hw.wm 20 0 gLM_R.1 rfl rfl) (gP_call X hw.wm _) rfl hl.1 rfl (Nat.le_of_ble_eq_true rfl) dL_law_1693 ⟨show cells + 2 + 0 ≤ 601024 by omega, show slots + 12 + 0 ≤ 7293033 by omega⟩) (fun H locs hB1 hw => ?_)
  have hO := s_done hI hR (xs (nI i + 1).toNatClampNeg) (xs (nI i + 2).toNatClampNeg)
  have hI1 := w_out_inv (r := m_done C (xs (nI i + 1).toNatClampNeg) (xs (nI i + 2).toNatClampNeg)) hI (by rw [m_done_str C (xs (nI i + 1).toNatClampNeg) (xs (nI i + 2).toNatClampNeg)]; exact hI)
  refine lv_istore (lv' := [(6, .int (q_done M (xs (nI i + 1).toNatClampNeg) (xs (nI i + 2).toNatClampNeg)).1), (5, .int (nI (m_done C (xs (nI i + 1).toNatClampNeg) (xs (nI i + 2).toNatClampNeg)).1)), (4, .int (nI i)), (0, .ref b), (1, .ref (adD 0 0)), (2, .ref (adM 20 0)), (3, .ref (adD 22 0))]) hx hb dL_law_1696 hl (by decide) rfl (fun ls hl => ?_)
  refine law_tail (t0 := 1698) X hw hI1 hB1 (m_done_lt C (xs (nI i + 1).toNatClampNeg) (xs (nI i + 2).toNatClampNeg)) hO.1 hO.2.1 (show cells + 2 + 0 ≤ 601024 by omega) (show slots + 12 + 0 ≤ 7293033 by omega) dL_law_1698 dL_law_1699 dL_law_1702 dL_law_1704 dL_law_1709 dL_law_1711 dL_law_1714 dL_law_1715 dL_law_1716 dL_law_1717 dL_law_1719 dL_law_1720 dL_law_1721 hl (fun H locs hw => ?_)
  refine lv_goto (tgt := 1729) hx hb dL_law_1726 (by decide) ?_
  exact kk _ _ _ _ _ _ _ _ (by show cells + 2 + 0 ≤ cells + 16; omega) (by show slots + 12 + 0 ≤ slots + 4096; omega) hI1 hB1 hO.2.2 hw (lv_sub hl [2, 3, 4, 5, 6] rfl)
end LC

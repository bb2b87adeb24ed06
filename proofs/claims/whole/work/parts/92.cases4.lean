/-! ===== the law: save, wake, runs, repaid ===== -/
section LC
variable {p : Program} {l : Launch} {e : Env} {s : State} {m : MethodId} {below : List Frame} {meth : Method} {c : Code} {H : Heap} {locs : List Loc} {cells slots : Nat} {Q : State → Prop}
variable {ls : Array Slot} {G : gG} {A : Nat → Prop} {adC adM : gAd} {b i n : Nat}
set_option maxHeartbeats 2000000 in
set_option maxRecDepth 100000 in
theorem law_c12 {C M : gCT} (X : gX p s m #[.ref b] c cL_law RL 7 G A) (hw : gT2 G A s.heap H locs (gLvO C) adC (gF G C adC) (gLvR 34) adM (gF G M adM)) (hI : gInv C) (hB : MBI M) (hR : sRel n C M) (hc : cells + 16 ≤ 601024) (hs : slots + 4096 ≤ 7293033)
    (hl : lv_has ls 7 [(4, .int (nI i)), (0, .ref b), (1, .ref (adC 0 0)), (2, .ref (adM 20 0)), (3, .ref (adC 22 0))]) (kk : lawK p l e s m below meth c Q G A b adM i n cells slots) : W p l e room_1 s m #[.ref b] below meth c H locs cells slots Q (F0 m 927 ls []) := by
  have hx := X.1.1
  have hb := X.1.2.1
  refine lv_aload_n hx hb dL_law_927 rfl (lv_at hl 2 rfl) ?_
  refine t_c (r := (m_runs C).1) X hw (r_runV X (c_m_runs l G _ adC C _ _ hI.top hI.runs _) cy_X5_runs ml_RL_145 ⟨(Nat.le_of_ble_eq_true rfl), (Nat.le_of_ble_eq_true rfl)⟩ gP.blind (g_recv X hw.wc 0 0 hI.top.1 rfl rfl) (gP_call X hw.wc _) rfl hl.1 rfl (Nat.le_of_ble_eq_true rfl) dL_law_928 ⟨show cells + 0 ≤ 601024 by omega, show slots + 0 ≤ 7293033 by omega⟩) (fun H locs hw => ?_)
  refine lv_aload_n hx hb dL_law_931 rfl (lv_at hl 3 rfl) ?_
  refine t_q X hw (r_runV X (c_q_runs l G _ adM M gLM_R hB _) cy_X6_runs ml_RL_148 ⟨(Nat.le_of_ble_eq_true rfl), (Nat.le_of_ble_eq_true rfl)⟩ gP.blind (g_recv X hw.wm 20 0 gLM_R.1 rfl rfl) (gP_call X hw.wm _) rfl hl.1 rfl (Nat.le_of_ble_eq_true rfl) dL_law_932 ⟨show cells + 0 + 0 ≤ 601024 by omega, show slots + 0 + 0 ≤ 7293033 by omega⟩) (fun H locs hB1 hw => ?_)
  obtain ⟨o1, -, o3⟩ := s_runs hR
  refine lv_icmp_eq (tgt := 1729) hx hb dL_law_935 (by decide) (fun _ => ?_) (fun h => absurd o1 h)
  exact kk _ _ _ _ _ _ _ _ (by show cells + 0 + 0 ≤ cells + 16; omega) (by show slots + 0 + 0 ≤ slots + 4096; omega) hI hB1 o3 hw hl
set_option maxHeartbeats 2000000 in
set_option maxRecDepth 100000 in
theorem law_c25 {C M : gCT} (X : gX p s m #[.ref b] c cL_law RL 7 G A) (hw : gT2 G A s.heap H locs (gLvO C) adC (gF G C adC) (gLvR 34) adM (gF G M adM)) (hI : gInv C) (hB : MBI M) (hR : sRel n C M) (hc : cells + 16 ≤ 601024) (hs : slots + 4096 ≤ 7293033)
    (hl : lv_has ls 7 [(4, .int (nI i)), (0, .ref b), (1, .ref (adC 0 0)), (2, .ref (adM 20 0)), (3, .ref (adC 22 0))]) (kk : lawK p l e s m below meth c Q G A b adM i n cells slots) : W p l e room_1 s m #[.ref b] below meth c H locs cells slots Q (F0 m 1648 ls []) := by
  have hx := X.1.1
  have hb := X.1.2.1
  refine lv_aload_n hx hb dL_law_1648 rfl (lv_at hl 2 rfl) ?_
  refine t_c (r := (m_repaid C).1) X hw (r_runV X (c_m_repaid l G _ adC C hI.top _) cy_X5_repaid ml_RL_185 ⟨(Nat.le_of_ble_eq_true rfl), (Nat.le_of_ble_eq_true rfl)⟩ gP.blind (g_recv X hw.wc 0 0 hI.top.1 rfl rfl) (gP_call X hw.wc _) rfl hl.1 rfl (Nat.le_of_ble_eq_true rfl) dL_law_1649 ⟨show cells + 0 ≤ 601024 by omega, show slots + 0 ≤ 7293033 by omega⟩) (fun H locs hw => ?_)
  refine lv_aload_n hx hb dL_law_1652 rfl (lv_at hl 3 rfl) ?_
  refine t_q X hw (r_runV X (c_q_repaid l G _ adM M gLM_R hB _) cy_X6_repaid ml_RL_188 ⟨(Nat.le_of_ble_eq_true rfl), (Nat.le_of_ble_eq_true rfl)⟩ gP.blind (g_recv X hw.wm 20 0 gLM_R.1 rfl rfl) (gP_call X hw.wm _) rfl hl.1 rfl (Nat.le_of_ble_eq_true rfl) dL_law_1653 ⟨show cells + 0 + 0 ≤ 601024 by omega, show slots + 0 + 0 ≤ 7293033 by omega⟩) (fun H locs hB1 hw => ?_)
  obtain ⟨o1, -, o3⟩ := s_repaid hR
  refine lv_icmp_eq (tgt := 1729) hx hb dL_law_1656 (by decide) (fun _ => ?_) (fun h => absurd o1 h)
  exact kk _ _ _ _ _ _ _ _ (by show cells + 0 + 0 ≤ cells + 16; omega) (by show slots + 0 + 0 ≤ slots + 4096; omega) hI hB1 o3 hw hl
set_option maxHeartbeats 2000000 in
set_option maxRecDepth 100000 in
theorem law_c9 (hst : l.stackTraces = false) {C M : gCT} (X : gX p s m #[.ref b] c cL_law RL 7 G A) (hw : gT2 G A s.heap H locs (gLvO C) adC (gF G C adC) (gLvR 34) adM (gF G M adM)) (hI : gInv C) (hB : MBI M) (hR : sRel n C M) (hn : n < 512) {L : Nat} {xs : Nat → Int32} (hX : va_X b L xs s s.heap) (hbl : b < s.heap.size) (hbA : ¬ A b) (h1 : vp_in (nI i + 1) L) (h2 : vp_in (nI i + 2) L) (h3 : vp_in (nI i + 3) L) (hc : cells + 16 ≤ 601024) (hs : slots + 4096 ≤ 7293033)
    (hl : lv_has ls 7 [(4, .int (nI i)), (0, .ref b), (1, .ref (adC 0 0)), (2, .ref (adM 20 0)), (3, .ref (adC 22 0))]) (kk : lawK p l e s m below meth c Q G A b adM i n cells slots) : W p l e room_1 s m #[.ref b] below meth c H locs cells slots Q (F0 m 772 ls []) := by
  have hx := X.1.1
  have hb := X.1.2.1
  refine lv_aload_n hx hb dL_law_772 rfl (lv_at hl 2 rfl) ?_
  refine lv_aload_n hx hb dL_law_773 rfl (lv_at hl 1 rfl) ?_
  refine lv_iload hx hb dL_law_774 (lv_at hl 0 rfl) ?_
  refine lv_iconst (v := 1) hx hb dL_law_776 (by decide) ?_
  refine lv_iadd hx hb dL_law_777 ?_
  refine va_sld hx hb hX hbl hbA hw.2.2.2 h1 dL_law_778 ?_
  refine t_w X hw (r_runSW X (c_w_save l hst G C adC (xs (nI i + 1).toNatClampNeg) hI _) cw_save ini_RL dd_save ml_RL_135 ⟨(Nat.le_of_ble_eq_true rfl), (Nat.le_of_ble_eq_true rfl)⟩ gP.blind (gP_call X hw.wc _) rfl hl.1 rfl (Nat.le_of_ble_eq_true rfl) dL_law_779 ⟨show cells + 2 ≤ 601024 by omega, show slots + 12 ≤ 7293033 by omega⟩) (fun H locs adD hK hw => ?_)
  rw [← hK.1, ← hK.2] at hl
  refine lv_istore (lv' := [(5, .int (nI (w_two (m_save C (xs (nI i + 1).toNatClampNeg)).1))), (4, .int (nI i)), (0, .ref b), (1, .ref (adD 0 0)), (2, .ref (adM 20 0)), (3, .ref (adD 22 0))]) hx hb dL_law_782 hl (by decide) rfl (fun ls hl => ?_)
  refine lv_aload_n hx hb dL_law_784 rfl (lv_at hl 4 rfl) ?_
  refine lv_aload_n hx hb dL_law_785 rfl (lv_at hl 2 rfl) ?_
  refine lv_iload hx hb dL_law_786 (lv_at hl 1 rfl) ?_
  refine lv_iconst (v := 1) hx hb dL_law_788 (by decide) ?_
  refine lv_iadd hx hb dL_law_789 ?_
  refine va_sld hx hb hX hbl hbA hw.2.2.2 h1 dL_law_790 ?_
  refine t_qv X hw (r_runV X (c_q_save l G _ adM M (xs (nI i + 1).toNatClampNeg) gLM_R hB _) cy_X6_save ml_RL_138 ⟨(Nat.le_of_ble_eq_true rfl), (Nat.le_of_ble_eq_true rfl)⟩ gP.blind (g_recv X hw.wm 20 0 gLM_R.1 rfl rfl) (gP_call X hw.wm _) rfl hl.1 rfl (Nat.le_of_ble_eq_true rfl) dL_law_791 ⟨show cells + 2 + 0 ≤ 601024 by omega, show slots + 12 + 0 ≤ 7293033 by omega⟩) (fun H locs hB1 hw => ?_)
  have hO := s_save hI hB hR (xs (nI i + 1).toNatClampNeg)
  have hI1 := w_outv_inv (r := m_save C (xs (nI i + 1).toNatClampNeg)) hI ((m_save_str C (xs (nI i + 1).toNatClampNeg)).inv hI)
  refine lv_aload_n hx hb dL_law_794 rfl (lv_at hl 4 rfl) ?_
  refine t_q X hw (r_runV X (c_q_thrown l G _ adM _ gLM_R hB1 _) cy_X6_thrown ml_RL_105 ⟨(Nat.le_of_ble_eq_true rfl), (Nat.le_of_ble_eq_true rfl)⟩ gP.blind (g_recv X hw.wm 20 0 gLM_R.1 rfl rfl) (gP_call X hw.wm _) rfl hl.1 rfl (Nat.le_of_ble_eq_true rfl) dL_law_795 ⟨show cells + 2 + 0 + 0 ≤ 601024 by omega, show slots + 12 + 0 + 0 ≤ 7293033 by omega⟩) (fun H locs _ hw => ?_)
  refine lv_iload hx hb dL_law_798 (lv_at hl 0 rfl) ?_
  refine lv_icmp_eq (tgt := 805) hx hb dL_law_800 (by decide) (fun _ => ?_) (fun h => absurd hO.1 h)
  refine lv_goto (tgt := 1729) hx hb dL_law_805 (by decide) ?_
  exact kk _ _ _ _ _ _ _ _ (by show cells + 2 + 0 + 0 ≤ cells + 16; omega) (by show slots + 12 + 0 + 0 ≤ slots + 4096; omega) hI1 hB1 hO.2 hw (lv_sub hl [1, 2, 3, 4, 5] rfl)
theorem w_two_0 {k : Nat} (h : w_two k = 0) : k = 0 := by
  unfold w_two at h
  split at h
  · omega
  · exact h
theorem w_outw_01 {C : gCT} {r : Nat × Int32 × gCT} (h : r.1 = 0) : w_outw C r 22 0 0 = 0 ∨ w_outw C r 22 0 0 = 1 := by
  unfold w_outw
  rw [if_pos h, cs_s]
  split
  · exact Or.inl rfl
  · exact Or.inr rfl
set_option maxHeartbeats 2000000 in
set_option maxRecDepth 100000 in
theorem law_c10 (hst : l.stackTraces = false) {C M : gCT} (X : gX p s m #[.ref b] c cL_law RL 7 G A) (hw : gT2 G A s.heap H locs (gLvO C) adC (gF G C adC) (gLvR 34) adM (gF G M adM)) (hI : gInv C) (hB : MBI M) (hR : sRel n C M) (hn : n < 512) {L : Nat} {xs : Nat → Int32} (hX : va_X b L xs s s.heap) (hbl : b < s.heap.size) (hbA : ¬ A b) (h1 : vp_in (nI i + 1) L) (h2 : vp_in (nI i + 2) L) (h3 : vp_in (nI i + 3) L) (hc : cells + 16 ≤ 601024) (hs : slots + 4096 ≤ 7293033)
    (hl : lv_has ls 7 [(4, .int (nI i)), (0, .ref b), (1, .ref (adC 0 0)), (2, .ref (adM 20 0)), (3, .ref (adC 22 0))]) (kk : lawK p l e s m below meth c Q G A b adM i n cells slots) : W p l e room_1 s m #[.ref b] below meth c H locs cells slots Q (F0 m 808 ls []) := by
  have hx := X.1.1
  have hb := X.1.2.1
  refine lv_aload_n hx hb dL_law_808 rfl (lv_at hl 2 rfl) ?_
  refine lv_aload_n hx hb dL_law_809 rfl (lv_at hl 1 rfl) ?_
  refine lv_iload hx hb dL_law_810 (lv_at hl 0 rfl) ?_
  refine lv_iconst (v := 1) hx hb dL_law_812 (by decide) ?_
  refine lv_iadd hx hb dL_law_813 ?_
  refine va_sld hx hb hX hbl hbA hw.2.2.2 h1 dL_law_814 ?_
  refine lv_aload_n hx hb dL_law_815 rfl (lv_at hl 4 rfl) ?_
  refine t_w X hw (r_runSW X (c_w_wake l hst G C adC (xs (nI i + 1).toNatClampNeg) hI _) cw_wake ini_RL dd_wake ml_RL_139 ⟨(Nat.le_of_ble_eq_true rfl), (Nat.le_of_ble_eq_true rfl)⟩ gP.blind (gP_call X hw.wc _) rfl hl.1 rfl (Nat.le_of_ble_eq_true rfl) dL_law_816 ⟨show cells + 2 ≤ 601024 by omega, show slots + 12 ≤ 7293033 by omega⟩) (fun H locs adD hK hw => ?_)
  rw [← hK.1, ← hK.2] at hl
  refine lv_istore (lv' := [(5, .int (nI (w_two (m_wake C (xs (nI i + 1).toNatClampNeg)).1))), (4, .int (nI i)), (0, .ref b), (1, .ref (adD 0 0)), (2, .ref (adM 20 0)), (3, .ref (adD 22 0))]) hx hb dL_law_819 hl (by decide) rfl (fun ls hl => ?_)
  refine lv_aload_n hx hb dL_law_821 rfl (lv_at hl 4 rfl) ?_
  refine lv_aload_n hx hb dL_law_822 rfl (lv_at hl 2 rfl) ?_
  refine lv_iload hx hb dL_law_823 (lv_at hl 1 rfl) ?_
  refine lv_iconst (v := 1) hx hb dL_law_825 (by decide) ?_
  refine lv_iadd hx hb dL_law_826 ?_
  refine va_sld hx hb hX hbl hbA hw.2.2.2 h1 dL_law_827 ?_
  refine t_q X hw (r_runV X (c_q_wake l G _ adM M (xs (nI i + 1).toNatClampNeg) gLM_R hB (hR.ver hI) _) cy_X6_wake ml_RL_141 ⟨(Nat.le_of_ble_eq_true rfl), (Nat.le_of_ble_eq_true rfl)⟩ gP.blind (g_recv X hw.wm 20 0 gLM_R.1 rfl rfl) (gP_call X hw.wm _) rfl hl.1 rfl (Nat.le_of_ble_eq_true rfl) dL_law_828 ⟨show cells + 2 + 0 ≤ 601024 by omega, show slots + 12 + 0 ≤ 7293033 by omega⟩) (fun H locs hB1 hw => ?_)
  have hO := s_wake hn hI hB hR (xs (nI i + 1).toNatClampNeg)
  have hI1 := w_outw_inv (r := m_wake C (xs (nI i + 1).toNatClampNeg)) hI (m_wake_inv hI).1
  refine lv_istore (lv' := [(6, .int (q_wake M (xs (nI i + 1).toNatClampNeg)).1), (5, .int (nI (w_two (m_wake C (xs (nI i + 1).toNatClampNeg)).1))), (4, .int (nI i)), (0, .ref b), (1, .ref (adD 0 0)), (2, .ref (adM 20 0)), (3, .ref (adD 22 0))]) hx hb dL_law_831 hl (by decide) rfl (fun ls hl => ?_)
  refine lv_aload_n hx hb dL_law_833 rfl (lv_at hl 5 rfl) ?_
  refine t_q X hw (r_runV X (c_q_thrown l G _ adM _ gLM_R hB1 _) cy_X6_thrown ml_RL_105 ⟨(Nat.le_of_ble_eq_true rfl), (Nat.le_of_ble_eq_true rfl)⟩ gP.blind (g_recv X hw.wm 20 0 gLM_R.1 rfl rfl) (gP_call X hw.wm _) rfl hl.1 rfl (Nat.le_of_ble_eq_true rfl) dL_law_834 ⟨show cells + 2 + 0 + 0 ≤ 601024 by omega, show slots + 12 + 0 + 0 ≤ 7293033 by omega⟩) (fun H locs _ hw => ?_)
  have fin : W p l e room_1 s m #[.ref b] below meth c H locs (cells + 2 + 0 + 0) (slots + 12 + 0 + 0) Q (F0 m 868 ls []) := by
    refine lv_goto (tgt := 1729) hx hb dL_law_868 (by decide) ?_
    exact kk _ _ _ _ _ _ _ _ (by omega) (by omega) hI1 hB1 hO.2.2 hw (lv_sub hl [2, 3, 4, 5, 6] rfl)
  refine lv_iload hx hb dL_law_837 (lv_at hl 1 rfl) ?_
  refine lv_icmp_eq (tgt := 844) hx hb dL_law_839 (by decide) (fun _ => ?_) (fun h => absurd hO.1 h)
  refine lv_iload hx hb dL_law_844 (lv_at hl 1 rfl) ?_
  refine lv_if_ne (tgt := 868) hx hb dL_law_846 (by decide) (fun _ => fin) (fun h => ?_)
  have hk0 : (w_two (m_wake C (xs (nI i + 1).toNatClampNeg)).1) = 0 := (nI_eq (by have := (w_two_lt (m_wake_lt C (xs (nI i + 1).toNatClampNeg))); omega) (by omega)).mp (show nI (w_two (m_wake C (xs (nI i + 1).toNatClampNeg)).1) = nI 0 from h)
  have h22 := hO.2.1 hk0
  have h01 := w_outw_01 (C := C) (w_two_0 hk0)
  refine lv_aload_n hx hb dL_law_849 rfl (lv_at hl 6 rfl) ?_
  refine lv_iconst (v := 0) hx hb dL_law_850 (by decide) ?_
  refine r_lald X hw.wc 22 0 (show gLvO (w_outw C (m_wake C (xs (nI i + 1).toNatClampNeg))) 22 0 from (rfl : (0 : Nat) = 0)) (N := 1) (f := fun j => ((w_outw C (m_wake C (xs (nI i + 1).toNatClampNeg))) 22 0 j).toInt64) rfl (show vp_in (nI 0) 1 from vp_in_nI (by decide) (by decide)) dL_law_851 ?_
  have e0 : (0 : Int32).toNatClampNeg = 0 := by decide
  rw [e0]
  refine lv_iload hx hb dL_law_852 (lv_at hl 0 rfl) ?_
  refine lv_if_eq (tgt := 861) hx hb dL_law_854 (by decide) (fun hq => ?_) (fun hq => ?_)
  · refine lv_lconst (v := 0) hx hb dL_law_861 (by decide) ?_
    refine W.lcmp hx hb dL_law_862 ?_
    refine lv_if_eq (tgt := 868) hx hb dL_law_863 (by decide) (fun _ => fin) (fun h => absurd ?_ h)
    rw [h22, hq]
    decide
  · refine lv_lconst (v := 1) hx hb dL_law_857 (by decide) ?_
    refine lv_goto (tgt := 862) hx hb dL_law_858 (by decide) ?_
    refine W.lcmp hx hb dL_law_862 ?_
    refine lv_if_eq (tgt := 868) hx hb dL_law_863 (by decide) (fun _ => fin) (fun h => absurd ?_ h)
    rcases h01 with z | z
    · exact absurd (h22.symm.trans z) hq
    · rw [z]; decide
end LC

/-! ===== the law's kinds: begin, answer, save, wake, leave ===== -/
theorem n103 {r : Nat} (h : r < 25) : ¬ nI r = -103 := by
  have : ∀ r : Nat, r < 25 → ¬ nI r = -103 := by decide
  exact this r h
/-- a run's states -/
def kV (w : Int32) : Prop := w = 0 ∨ w = 1 ∨ w = 2 ∨ w = 3 ∨ w = 4 ∨ w = 5 ∨ w = 6
theorem kS.v {C : gCT} {r : Nat} (h : kS C r) : kV (C 11 r 4) := by
  unfold kV
  rcases h with ⟨h | h | h, -⟩ | ⟨h, q⟩
  · exact Or.inl h
  · exact Or.inr (Or.inl h)
  · exact Or.inr (Or.inr (Or.inr (Or.inr (Or.inr (Or.inr h)))))
  · rw [h]
    rcases q with q | q | q | q
    · exact Or.inr (Or.inr (Or.inl q))
    · exact Or.inr (Or.inr (Or.inr (Or.inl q)))
    · exact Or.inr (Or.inr (Or.inr (Or.inr (Or.inl q))))
    · exact Or.inr (Or.inr (Or.inr (Or.inr (Or.inr (Or.inl q)))))
theorem kV.n103 {w : Int32} (h : kV w) : ¬ w = -103 := by
  rcases h with h | h | h | h | h | h | h <;> rw [h] <;> decide
section LC
variable {p : Program} {l : Launch} {e : Env} {s : State} {m : MethodId} {below : List Frame} {meth : Method} {c : Code} {Q : State → Prop} {G : gG} {A : Nat → Prop} {b a0 : Nat} {bb : Nat → Nat} {i run : Nat}
set_option maxHeartbeats 4000000 in
set_option maxRecDepth 100000 in
theorem law_k6 (hstk : l.stackTraces = false) {C : gCT} {H : Heap} {locs : List Loc} {cells slots v f kd : Nat} {fd : Int32} {ls : Array Slot} (X : gX p s m #[.ref b] c cL_law RL 22 G A) (hw : tW G A s.heap H locs C a0 bb) (hJ : kJ (11 * i) fd C) (hi : i < 60) (hDr : kDr C) (hEn : kEn1 C) (hf : f < 3) (hv : v < 2 ^ 31) (hc : cells ≤ 600000) (hs : slots ≤ 7290000) (hl : lv_has ls 22 [(14, .int (nI v)), (13, .int (nI run)), (12, .int (nI f)), (11, .int (nI kd)), (8, .int (nI i)), (7, .int 1), (6, .int fd), (5, .int (nI (gRc C))), (4, .ref (bb 2)), (3, .ref (bb 1)), (2, .ref (bb 0)), (1, .ref a0), (0, .ref b)]) (kk : lawJ p l e s m below meth c Q G A b a0 bb i run cells slots) : W p l e room_1 s m #[.ref b] below meth c H locs cells slots Q (F0 m 704 ls []) := by
  have hx := X.1.1; have hb := X.1.2.1; have hown := X.1.2.2.2.1; have hts := X.1.2.2.2.2; have hI := hJ.1
  have hvn := hI.vn (show f < 4 by omega)
  have eVs : C 22 1 f = nI (gVn C f) := (hDr f (by omega)).2.trans hvn.2.1
  refine lv_aload_n hx hb dL_law_704 rfl (lv_at hl 11 rfl) ?_
  refine lv_iload hx hb dL_law_705 (lv_at hl 0 rfl) ?_
  refine lv_bipush (v := 16) hx hb dL_law_707 (by decide) ?_
  refine lv_irem hx hb dL_law_709 (by decide) ?_
  rw [show ((nI v) - (nI v) / 16 * 16 : Int32) = nI (v % 16) from pk_rem hv (by decide) (by decide)]
  refine lv_iload hx hb dL_law_710 (lv_at hl 2 rfl) ?_
  rcases f_begin (fd := fd) (show 11 * i ≤ 700 by omega) hJ (show v % 16 < 16 by omega) (show f < 4 by omega) with ⟨e1, hor⟩ | ⟨hv1, D, e1, hJ1, hX1, hR1, hv2, ha⟩
  · refine t_begin hstk X hI hw (rv3 e1) (rd3 e1) ml_RL_150 ⟨(Nat.le_of_ble_eq_true rfl), (Nat.le_of_ble_eq_true rfl)⟩ hl.1 (Nat.le_of_ble_eq_true rfl) dL_law_712 (by show _ ≤ 600590; omega) (by show _ ≤ 7299698; omega) (fun H locs cells slots ec es hw => ?_)
    refine lv_istore (lv' := [(15, .int (-103)), (14, .int (nI v)), (13, .int (nI run)), (12, .int (nI f)), (11, .int (nI kd)), (8, .int (nI i)), (7, .int 1), (6, .int fd), (5, .int (nI (gRc C))), (4, .ref (bb 2)), (3, .ref (bb 1)), (2, .ref (bb 0)), (1, .ref a0), (0, .ref b)]) hx hb dL_law_715 hl (by decide) rfl (fun ls hl => ?_)
    refine lv_iload hx hb dL_law_717 (lv_at hl 0 rfl) ?_
    refine lv_bipush (v := (-103)) hx hb dL_law_719 (by decide) ?_
    refine lv_icmp_ne (tgt := 744) hx hb dL_law_721 (by decide) (fun z => False.elim (z rfl)) (fun _ => ?_)
    refine lv_aload_n hx hb dL_law_724 rfl (lv_at hl 10 rfl) ?_
    refine lv_iload hx hb dL_law_725 (lv_at hl 3 rfl) ?_
    refine t_ald X hw (k := 1) (i := f) (by decide) (show f < gLw 1 by show f < 4; omega) dL_law_727 ?_
    refine lv_if_eq (tgt := 736) hx hb dL_law_728 (by decide) (fun h0 => ?_) (fun h0 => ?_)
    · refine lv_iconst (v := 1) hx hb dL_law_736 (by decide) ?_
      refine lv_goto (tgt := 787) hx hb dL_law_737 (by decide) ?_
      refine lv_istore (lv' := [(7, .int 1), (15, .int (-103)), (14, .int (nI v)), (13, .int (nI run)), (12, .int (nI f)), (11, .int (nI kd)), (8, .int (nI i)), (6, .int fd), (5, .int (nI (gRc C))), (4, .ref (bb 2)), (3, .ref (bb 1)), (2, .ref (bb 0)), (1, .ref a0), (0, .ref b)]) hx hb dL_law_787 hl (by decide) rfl (fun ls hl => ?_)
      refine lv_iload hx hb dL_law_789 (lv_at hl 0 rfl) ?_
      refine lv_if_eq (tgt := 802) hx hb dL_law_791 (by decide) (fun z => False.elim (absurd z (by decide))) (fun _ => ?_)
      refine lv_iload hx hb dL_law_794 (lv_at hl 1 rfl) ?_
      refine lv_if_lt (tgt := 802) hx hb dL_law_796 (by decide) (fun _ => ?_) (fun z => False.elim (absurd (show (-103 : Int32) < 0 by decide) z))
      refine lv_goto (tgt := 1269) hx hb dL_law_802 (by decide) ?_
      have hX : kX C (C) := kX.rf
      have hl2 := lv_sub hl [3, 6, 0, 7, 8, 9, 10, 11, 12, 13] rfl
      refine kk (C) (fd) _ _ _ _ _ (by omega) (by omega) (kJ.up (hJ) (by omega)) (hDr.x hX) (hEn.x hX) hw ?_
      exact hl2
    · have hrc0 : 0 < gRc C := hor.resolve_left (fun q => h0 (by rw [eVs, q]; rfl))
      refine lv_iload hx hb dL_law_731 (lv_at hl 8 rfl) ?_
      refine lv_if_le (tgt := 740) hx hb dL_law_733 (by decide) (fun z => False.elim (absurd z (nI_nle hrc0 (by have := hI.1; omega)))) (fun _ => ?_)
      refine lv_iconst (v := 1) hx hb dL_law_736 (by decide) ?_
      refine lv_goto (tgt := 787) hx hb dL_law_737 (by decide) ?_
      refine lv_istore (lv' := [(7, .int 1), (15, .int (-103)), (14, .int (nI v)), (13, .int (nI run)), (12, .int (nI f)), (11, .int (nI kd)), (8, .int (nI i)), (6, .int fd), (5, .int (nI (gRc C))), (4, .ref (bb 2)), (3, .ref (bb 1)), (2, .ref (bb 0)), (1, .ref a0), (0, .ref b)]) hx hb dL_law_787 hl (by decide) rfl (fun ls hl => ?_)
      refine lv_iload hx hb dL_law_789 (lv_at hl 0 rfl) ?_
      refine lv_if_eq (tgt := 802) hx hb dL_law_791 (by decide) (fun z => False.elim (absurd z (by decide))) (fun _ => ?_)
      refine lv_iload hx hb dL_law_794 (lv_at hl 1 rfl) ?_
      refine lv_if_lt (tgt := 802) hx hb dL_law_796 (by decide) (fun _ => ?_) (fun z => False.elim (absurd (show (-103 : Int32) < 0 by decide) z))
      refine lv_goto (tgt := 1269) hx hb dL_law_802 (by decide) ?_
      have hX : kX C (C) := kX.rf
      have hl2 := lv_sub hl [3, 6, 0, 7, 8, 9, 10, 11, 12, 13] rfl
      refine kk (C) (fd) _ _ _ _ _ (by omega) (by omega) (kJ.up (hJ) (by omega)) (hDr.x hX) (hEn.x hX) hw ?_
      exact hl2
  · have hrc24 : gRc C < 25 := by have := hI.1; omega
    refine t_begin hstk X hI hw (rv0 e1) (rd0 e1) ml_RL_150 ⟨(Nat.le_of_ble_eq_true rfl), (Nat.le_of_ble_eq_true rfl)⟩ hl.1 (Nat.le_of_ble_eq_true rfl) dL_law_712 (by show _ ≤ 600590; omega) (by show _ ≤ 7299698; omega) (fun H locs cells slots ec es hw => ?_)
    have hI := hJ1.1
    have hrD : gRc C < gRc D := by omega
    have eVs2 : D 22 1 f = nI (gVn C f) := by rw [hX1.1]; exact eVs
    refine lv_istore (lv' := [(15, .int (nI (gRc C))), (14, .int (nI v)), (13, .int (nI run)), (12, .int (nI f)), (11, .int (nI kd)), (8, .int (nI i)), (7, .int 1), (6, .int fd), (5, .int (nI (gRc C))), (4, .ref (bb 2)), (3, .ref (bb 1)), (2, .ref (bb 0)), (1, .ref a0), (0, .ref b)]) hx hb dL_law_715 hl (by decide) rfl (fun ls hl => ?_)
    refine lv_iload hx hb dL_law_717 (lv_at hl 0 rfl) ?_
    refine lv_bipush (v := (-103)) hx hb dL_law_719 (by decide) ?_
    refine lv_icmp_ne (tgt := 744) hx hb dL_law_721 (by decide) (fun _ => ?_) (fun z => False.elim (n103 hrc24 z))
    refine lv_iload hx hb dL_law_744 (lv_at hl 0 rfl) ?_
    refine lv_iload hx hb dL_law_746 (lv_at hl 8 rfl) ?_
    refine lv_icmp_ne (tgt := 786) hx hb dL_law_748 (by decide) (fun z => False.elim (z rfl)) (fun _ => ?_)
    refine lv_aload_n hx hb dL_law_751 rfl (lv_at hl 10 rfl) ?_
    refine lv_iload hx hb dL_law_752 (lv_at hl 3 rfl) ?_
    refine t_ald X hw (k := 1) (i := f) (by decide) (show f < gLw 1 by show f < 4; omega) dL_law_754 ?_
    rw [eVs2]
    refine lv_if_le (tgt := 786) hx hb dL_law_755 (by decide) (fun z => False.elim (absurd z (nI_nle (by omega) (by omega)))) (fun _ => ?_)
    refine lv_aload_n hx hb dL_law_758 rfl (lv_at hl 12 rfl) ?_
    refine lv_iload hx hb dL_law_759 (lv_at hl 0 rfl) ?_
    refine t_version hstk X hI hw (rv0 ((rd_version hI hrD).trans (by rw [hv2]))) (rd0 (rd_version hI hrD)) ml_RL_112 ⟨(Nat.le_of_ble_eq_true rfl), (Nat.le_of_ble_eq_true rfl)⟩ hl.1 (Nat.le_of_ble_eq_true rfl) dL_law_761 (by show _ ≤ 600590; omega) (by show _ ≤ 7299698; omega) (fun H locs cells slots ec es hw => ?_)
    refine lv_aload_n hx hb dL_law_764 rfl (lv_at hl 10 rfl) ?_
    refine lv_iload hx hb dL_law_765 (lv_at hl 3 rfl) ?_
    refine t_ald X hw (k := 1) (i := f) (by decide) (show f < gLw 1 by show f < 4; omega) dL_law_767 ?_
    rw [eVs2]
    refine lv_iconst (v := 1) hx hb dL_law_768 (by decide) ?_
    refine lv_isub hx hb dL_law_769 ?_
    refine lv_icmp_ne (tgt := 786) hx hb dL_law_770 (by decide) (fun z => False.elim (z (nat_sub rfl (show (1 : Int32) = nI 1 from rfl) (by omega)).symm)) (fun _ => ?_)
    have eA : m_answers D (nI (gRc C)) = (0, 0, D) := (rd_answers hI hrD).trans (by rw [show gCnt D (gRc C) = 0 by unfold gCnt; rw [ha]; rfl]; rfl)
    refine lv_aload_n hx hb dL_law_773 rfl (lv_at hl 12 rfl) ?_
    refine lv_iload hx hb dL_law_774 (lv_at hl 0 rfl) ?_
    refine t_answers hstk X hI hw (rv0 eA) (rd0 eA) ml_RL_119 ⟨(Nat.le_of_ble_eq_true rfl), (Nat.le_of_ble_eq_true rfl)⟩ hl.1 (Nat.le_of_ble_eq_true rfl) dL_law_776 (by show _ ≤ 600590; omega) (by show _ ≤ 7299698; omega) (fun H locs cells slots ec es hw => ?_)
    refine lv_if_ne (tgt := 786) hx hb dL_law_779 (by decide) (fun z => False.elim (z rfl)) (fun _ => ?_)
    refine lv_iconst (v := 1) hx hb dL_law_782 (by decide) ?_
    refine lv_goto (tgt := 787) hx hb dL_law_783 (by decide) ?_
    refine lv_istore (lv' := [(7, .int 1), (15, .int (nI (gRc C))), (14, .int (nI v)), (13, .int (nI run)), (12, .int (nI f)), (11, .int (nI kd)), (8, .int (nI i)), (6, .int fd), (5, .int (nI (gRc C))), (4, .ref (bb 2)), (3, .ref (bb 1)), (2, .ref (bb 0)), (1, .ref a0), (0, .ref b)]) hx hb dL_law_787 hl (by decide) rfl (fun ls hl => ?_)
    refine lv_iload hx hb dL_law_789 (lv_at hl 0 rfl) ?_
    refine lv_if_eq (tgt := 802) hx hb dL_law_791 (by decide) (fun z => False.elim (absurd z (by decide))) (fun _ => ?_)
    refine lv_iload hx hb dL_law_794 (lv_at hl 1 rfl) ?_
    refine lv_if_lt (tgt := 802) hx hb dL_law_796 (by decide) (fun z => False.elim (absurd z (nI_pos (by omega)))) (fun _ => ?_)
    refine lv_iinc (v := nI (gRc C + 1)) (lv' := [(5, .int (nI (gRc C + 1))), (7, .int 1), (15, .int (nI (gRc C))), (14, .int (nI v)), (13, .int (nI run)), (12, .int (nI f)), (11, .int (nI kd)), (8, .int (nI i)), (6, .int fd), (4, .ref (bb 2)), (3, .ref (bb 1)), (2, .ref (bb 0)), (1, .ref a0), (0, .ref b)]) hx hb dL_law_799 hl (k := 8) rfl (nI_1 _) (by decide) rfl (fun ls hl => ?_)
    refine lv_goto (tgt := 1269) hx hb dL_law_802 (by decide) ?_
    have hX : kX C (D) := hX1
    have hl2 := lv_sub hl [4, 7, 1, 8, 0, 9, 10, 11, 12, 13] rfl
    refine kk (D) (fd) _ _ _ _ _ (by omega) (by omega) (kJ.up (hJ1) (by omega)) (hDr.x hX) (hEn.x hX) hw ?_
    rw [hR1]; exact hl2
set_option maxHeartbeats 4000000 in
set_option maxRecDepth 100000 in
theorem law_k8 (hstk : l.stackTraces = false) {C : gCT} {H : Heap} {locs : List Loc} {cells slots v f kd : Nat} {fd : Int32} {ls : Array Slot} (X : gX p s m #[.ref b] c cL_law RL 22 G A) (hw : tW G A s.heap H locs C a0 bb) (hJ : kJ (11 * i) fd C) (hi : i < 60) (hDr : kDr C) (hEn : kEn1 C) (hf : f < 3) (hv : v < 2 ^ 31) (hc : cells ≤ 600000) (hs : slots ≤ 7290000) (hr : run < gRc C) (hl : lv_has ls 22 [(14, .int (nI v)), (13, .int (nI run)), (12, .int (nI f)), (11, .int (nI kd)), (8, .int (nI i)), (7, .int 1), (6, .int fd), (5, .int (nI (gRc C))), (4, .ref (bb 2)), (3, .ref (bb 1)), (2, .ref (bb 0)), (1, .ref a0), (0, .ref b)]) (kk : lawJ p l e s m below meth c Q G A b a0 bb i run cells slots) : W p l e room_1 s m #[.ref b] below meth c H locs cells slots Q (F0 m 817 ls []) := by
  have hx := X.1.1; have hb := X.1.2.1; have hown := X.1.2.2.2.1; have hts := X.1.2.2.2.2; have hI := hJ.1
  have hkV := (hJ.2.2.2.1 run hr).2.1.v
  refine lv_aload_n hx hb dL_law_817 rfl (lv_at hl 11 rfl) ?_
  refine lv_iload hx hb dL_law_818 (lv_at hl 1 rfl) ?_
  refine t_answers hstk X hI hw (rv0 (rd_answers hI hr)) (rd0 (rd_answers hI hr)) ml_RL_119 ⟨(Nat.le_of_ble_eq_true rfl), (Nat.le_of_ble_eq_true rfl)⟩ hl.1 (Nat.le_of_ble_eq_true rfl) dL_law_820 (by show _ ≤ 600590; omega) (by show _ ≤ 7299698; omega) (fun H locs cells slots ec es hw => ?_)
  refine lv_istore (lv' := [(15, .int (nI (gCnt C run))), (14, .int (nI v)), (13, .int (nI run)), (12, .int (nI f)), (11, .int (nI kd)), (8, .int (nI i)), (7, .int 1), (6, .int fd), (5, .int (nI (gRc C))), (4, .ref (bb 2)), (3, .ref (bb 1)), (2, .ref (bb 0)), (1, .ref a0), (0, .ref b)]) hx hb dL_law_823 hl (by decide) rfl (fun ls hl => ?_)
  refine lv_aload_n hx hb dL_law_825 rfl (lv_at hl 12 rfl) ?_
  refine lv_iload hx hb dL_law_826 (lv_at hl 2 rfl) ?_
  refine t_question hstk X hI hw (rv0 (rd_question hI hr)) (rd0 (rd_question hI hr)) ml_RL_103 ⟨(Nat.le_of_ble_eq_true rfl), (Nat.le_of_ble_eq_true rfl)⟩ hl.1 (Nat.le_of_ble_eq_true rfl) dL_law_828 (by show _ ≤ 600590; omega) (by show _ ≤ 7299698; omega) (fun H locs cells slots ec es hw => ?_)
  refine lv_istore (lv' := [(16, .int (if C 11 run 4 = 0 ∨ C 11 run 4 = 1 ∨ C 11 run 4 = 6 then C 7 run 5 else -1)), (15, .int (nI (gCnt C run))), (14, .int (nI v)), (13, .int (nI run)), (12, .int (nI f)), (11, .int (nI kd)), (8, .int (nI i)), (7, .int 1), (6, .int fd), (5, .int (nI (gRc C))), (4, .ref (bb 2)), (3, .ref (bb 1)), (2, .ref (bb 0)), (1, .ref a0), (0, .ref b)]) hx hb dL_law_831 hl (by decide) rfl (fun ls hl => ?_)
  refine lv_aload_n hx hb dL_law_833 rfl (lv_at hl 13 rfl) ?_
  refine lv_iload hx hb dL_law_834 (lv_at hl 3 rfl) ?_
  refine t_state hstk X hI hw (rv0 (rd_state hI hr)) (rd0 (rd_state hI hr)) ml_RL_98 ⟨(Nat.le_of_ble_eq_true rfl), (Nat.le_of_ble_eq_true rfl)⟩ hl.1 (Nat.le_of_ble_eq_true rfl) dL_law_836 (by show _ ≤ 600590; omega) (by show _ ≤ 7299698; omega) (fun H locs cells slots ec es hw => ?_)
  refine lv_istore (lv' := [(17, .int (C 11 run 4)), (16, .int (if C 11 run 4 = 0 ∨ C 11 run 4 = 1 ∨ C 11 run 4 = 6 then C 7 run 5 else -1)), (15, .int (nI (gCnt C run))), (14, .int (nI v)), (13, .int (nI run)), (12, .int (nI f)), (11, .int (nI kd)), (8, .int (nI i)), (7, .int 1), (6, .int fd), (5, .int (nI (gRc C))), (4, .ref (bb 2)), (3, .ref (bb 1)), (2, .ref (bb 0)), (1, .ref a0), (0, .ref b)]) hx hb dL_law_839 hl (by decide) rfl (fun ls hl => ?_)
  refine lv_aload_n hx hb dL_law_841 rfl (lv_at hl 14 rfl) ?_
  refine lv_iload hx hb dL_law_842 (lv_at hl 4 rfl) ?_
  refine lv_iload hx hb dL_law_844 (lv_at hl 3 rfl) ?_
  refine lv_bipush (v := 10) hx hb dL_law_846 (by decide) ?_
  refine lv_irem hx hb dL_law_848 (by decide) ?_
  rw [show ((nI v) - (nI v) / 10 * 10 : Int32) = nI (v % 10) from pk_rem hv (by decide) (by decide)]
  by_cases h0 : C 11 run 4 = 0
  · rcases f_answer (fd := fd) (show 11 * i < 700 by omega) hJ hr (show v % 10 ≤ 9 by omega) h0 with e1 | ⟨q, wo, D, e1, hJ1, hX1, hR1, hc1, hc0, hc511, hq, hq5, hwo, hT⟩
    · refine t_answer hstk X hI hw (rv3 e1) (rd3 e1) ml_RL_152 ⟨(Nat.le_of_ble_eq_true rfl), (Nat.le_of_ble_eq_true rfl)⟩ hl.1 (Nat.le_of_ble_eq_true rfl) dL_law_849 (by show _ ≤ 600590; omega) (by show _ ≤ 7299698; omega) (fun H locs cells slots ec es hw => ?_)
      refine lv_istore (lv' := [(18, .int (-103)), (17, .int (C 11 run 4)), (16, .int (if C 11 run 4 = 0 ∨ C 11 run 4 = 1 ∨ C 11 run 4 = 6 then C 7 run 5 else -1)), (15, .int (nI (gCnt C run))), (14, .int (nI v)), (13, .int (nI run)), (12, .int (nI f)), (11, .int (nI kd)), (8, .int (nI i)), (7, .int 1), (6, .int fd), (5, .int (nI (gRc C))), (4, .ref (bb 2)), (3, .ref (bb 1)), (2, .ref (bb 0)), (1, .ref a0), (0, .ref b)]) hx hb dL_law_852 hl (by decide) rfl (fun ls hl => ?_)
      refine lv_iload hx hb dL_law_854 (lv_at hl 0 rfl) ?_
      refine lv_bipush (v := (-103)) hx hb dL_law_856 (by decide) ?_
      refine lv_icmp_ne (tgt := 891) hx hb dL_law_858 (by decide) (fun z => False.elim (z rfl)) (fun _ => ?_)
      refine lv_aload_n hx hb dL_law_861 rfl (lv_at hl 15 rfl) ?_
      refine lv_iload hx hb dL_law_862 (lv_at hl 5 rfl) ?_
      refine t_answers hstk X hI hw (rv0 (rd_answers hI hr)) (rd0 (rd_answers hI hr)) ml_RL_119 ⟨(Nat.le_of_ble_eq_true rfl), (Nat.le_of_ble_eq_true rfl)⟩ hl.1 (Nat.le_of_ble_eq_true rfl) dL_law_864 (by show _ ≤ 600590; omega) (by show _ ≤ 7299698; omega) (fun H locs cells slots ec es hw => ?_)
      refine lv_iload hx hb dL_law_867 (lv_at hl 3 rfl) ?_
      refine lv_icmp_ne (tgt := 887) hx hb dL_law_869 (by decide) (fun z => False.elim (z rfl)) (fun _ => ?_)
      refine lv_aload_n hx hb dL_law_872 rfl (lv_at hl 15 rfl) ?_
      refine lv_iload hx hb dL_law_873 (lv_at hl 5 rfl) ?_
      refine t_state hstk X hI hw (rv0 (rd_state hI hr)) (rd0 (rd_state hI hr)) ml_RL_98 ⟨(Nat.le_of_ble_eq_true rfl), (Nat.le_of_ble_eq_true rfl)⟩ hl.1 (Nat.le_of_ble_eq_true rfl) dL_law_875 (by show _ ≤ 600590; omega) (by show _ ≤ 7299698; omega) (fun H locs cells slots ec es hw => ?_)
      refine lv_iload hx hb dL_law_878 (lv_at hl 1 rfl) ?_
      refine lv_icmp_ne (tgt := 887) hx hb dL_law_880 (by decide) (fun z => False.elim (z rfl)) (fun _ => ?_)
      refine lv_iconst (v := 1) hx hb dL_law_883 (by decide) ?_
      refine lv_goto (tgt := 964) hx hb dL_law_884 (by decide) ?_
      refine lv_istore (lv' := [(7, .int 1), (18, .int (-103)), (17, .int (C 11 run 4)), (16, .int (if C 11 run 4 = 0 ∨ C 11 run 4 = 1 ∨ C 11 run 4 = 6 then C 7 run 5 else -1)), (15, .int (nI (gCnt C run))), (14, .int (nI v)), (13, .int (nI run)), (12, .int (nI f)), (11, .int (nI kd)), (8, .int (nI i)), (6, .int fd), (5, .int (nI (gRc C))), (4, .ref (bb 2)), (3, .ref (bb 1)), (2, .ref (bb 0)), (1, .ref a0), (0, .ref b)]) hx hb dL_law_964 hl (by decide) rfl (fun ls hl => ?_)
      refine lv_goto (tgt := 1269) hx hb dL_law_966 (by decide) ?_
      have hX : kX C (C) := kX.rf
      have hl2 := lv_sub hl [6, 9, 0, 10, 11, 12, 13, 14, 15, 16] rfl
      refine kk (C) (fd) _ _ _ _ _ (by omega) (by omega) (kJ.up (hJ) (by omega)) (hDr.x hX) (hEn.x hX) hw ?_
      exact hl2
    · refine t_answer hstk X hI hw (rv0 e1) (rd0 e1) ml_RL_152 ⟨(Nat.le_of_ble_eq_true rfl), (Nat.le_of_ble_eq_true rfl)⟩ hl.1 (Nat.le_of_ble_eq_true rfl) dL_law_849 (by show _ ≤ 600590; omega) (by show _ ≤ 7299698; omega) (fun H locs cells slots ec es hw => ?_)
      have hI := hJ1.1
      have hrD : run < gRc D := by omega
      have hcD : gCnt D run = gCnt C run + 1 := by unfold gCnt at hc0 hc511 ⊢; rw [hc1, hc0, nI_1, nI_clamp (by omega), nI_clamp (by omega)]
      have hkD := (hJ1.2.2.2.1 run hrD).2.1.v
      refine lv_istore (lv' := [(18, .int (D 11 run 4)), (17, .int (C 11 run 4)), (16, .int (if C 11 run 4 = 0 ∨ C 11 run 4 = 1 ∨ C 11 run 4 = 6 then C 7 run 5 else -1)), (15, .int (nI (gCnt C run))), (14, .int (nI v)), (13, .int (nI run)), (12, .int (nI f)), (11, .int (nI kd)), (8, .int (nI i)), (7, .int 1), (6, .int fd), (5, .int (nI (gRc C))), (4, .ref (bb 2)), (3, .ref (bb 1)), (2, .ref (bb 0)), (1, .ref a0), (0, .ref b)]) hx hb dL_law_852 hl (by decide) rfl (fun ls hl => ?_)
      refine lv_iload hx hb dL_law_854 (lv_at hl 0 rfl) ?_
      refine lv_bipush (v := (-103)) hx hb dL_law_856 (by decide) ?_
      refine lv_icmp_ne (tgt := 891) hx hb dL_law_858 (by decide) (fun _ => ?_) (fun z => False.elim (hkD.n103 z))
      refine lv_iload hx hb dL_law_891 (lv_at hl 1 rfl) ?_
      refine lv_if_ne (tgt := 963) hx hb dL_law_893 (by decide) (fun z => False.elim (z h0)) (fun _ => ?_)
      refine lv_iload hx hb dL_law_896 (lv_at hl 0 rfl) ?_
      refine lv_aload_n hx hb dL_law_898 rfl (lv_at hl 15 rfl) ?_
      refine lv_iload hx hb dL_law_899 (lv_at hl 5 rfl) ?_
      refine t_state hstk X hI hw (rv0 (rd_state hI hrD)) (rd0 (rd_state hI hrD)) ml_RL_98 ⟨(Nat.le_of_ble_eq_true rfl), (Nat.le_of_ble_eq_true rfl)⟩ hl.1 (Nat.le_of_ble_eq_true rfl) dL_law_901 (by show _ ≤ 600590; omega) (by show _ ≤ 7299698; omega) (fun H locs cells slots ec es hw => ?_)
      refine lv_icmp_ne (tgt := 963) hx hb dL_law_904 (by decide) (fun z => False.elim (z rfl)) (fun _ => ?_)
      refine lv_aload_n hx hb dL_law_907 rfl (lv_at hl 15 rfl) ?_
      refine lv_iload hx hb dL_law_908 (lv_at hl 5 rfl) ?_
      refine t_answers hstk X hI hw (rv0 ((rd_answers hI hrD).trans (by rw [hcD]))) (rd0 (rd_answers hI hrD)) ml_RL_119 ⟨(Nat.le_of_ble_eq_true rfl), (Nat.le_of_ble_eq_true rfl)⟩ hl.1 (Nat.le_of_ble_eq_true rfl) dL_law_910 (by show _ ≤ 600590; omega) (by show _ ≤ 7299698; omega) (fun H locs cells slots ec es hw => ?_)
      refine lv_iload hx hb dL_law_913 (lv_at hl 3 rfl) ?_
      refine lv_iconst (v := 1) hx hb dL_law_915 (by decide) ?_
      refine lv_iadd hx hb dL_law_916 ?_
      refine lv_icmp_ne (tgt := 963) hx hb dL_law_917 (by decide) (fun z => False.elim (z (nI_1 _).symm)) (fun _ => ?_)
      have eT := rd_at hI hrD (show gCnt C run < gCnt D run by omega) (show 11 * i ≤ 2000 by omega) hq hwo (show v % 10 < 10 by omega) hT
      refine lv_aload_n hx hb dL_law_920 rfl (lv_at hl 15 rfl) ?_
      refine lv_iload hx hb dL_law_921 (lv_at hl 5 rfl) ?_
      refine lv_iload hx hb dL_law_923 (lv_at hl 3 rfl) ?_
      refine t_answerAt hstk X hI hw (rv0 eT) (rd0 eT) ml_RL_121 ⟨(Nat.le_of_ble_eq_true rfl), (Nat.le_of_ble_eq_true rfl)⟩ hl.1 (Nat.le_of_ble_eq_true rfl) dL_law_925 (by show _ ≤ 600590; omega) (by show _ ≤ 7299698; omega) (fun H locs cells slots ec es hw => ?_)
      refine lv_sipush (v := 1000) hx hb dL_law_928 (by decide) ?_
      refine lv_irem hx hb dL_law_931 (by decide) ?_
      rw [show ((nI (1000 * wo + 10 * q + v % 10)) - (nI (1000 * wo + 10 * q + v % 10)) / 1000 * 1000 : Int32) = nI ((1000 * wo + 10 * q + v % 10) % 1000) from pk_rem (by omega) (by decide) (by decide)]
      refine lv_bipush (v := 10) hx hb dL_law_932 (by decide) ?_
      refine lv_iload hx hb dL_law_934 (lv_at hl 2 rfl) ?_
      refine lv_imul hx hb dL_law_936 ?_
      rw [show ((10 * (if C 11 run 4 = 0 ∨ C 11 run 4 = 1 ∨ C 11 run 4 = 6 then C 7 run 5 else -1)) : Int32) = nI (10 * q) from by rw [if_pos (Or.inl h0), hq5]; exact (Int32.ofNat_mul 10 q).symm]
      refine lv_iload hx hb dL_law_937 (lv_at hl 4 rfl) ?_
      refine lv_bipush (v := 10) hx hb dL_law_939 (by decide) ?_
      refine lv_irem hx hb dL_law_941 (by decide) ?_
      rw [show ((nI v) - (nI v) / 10 * 10 : Int32) = nI (v % 10) from pk_rem hv (by decide) (by decide)]
      refine lv_iadd hx hb dL_law_942 ?_
      rw [show (((nI (10 * q)) + (nI (v % 10))) : Int32) = nI (10 * q + v % 10) from nI_add _ _]
      refine lv_icmp_ne (tgt := 963) hx hb dL_law_943 (by decide) (fun z => False.elim (z (congrArg nI (by omega)))) (fun _ => ?_)
      have e2 := f_ans2 hI hrD (y := 10) (by decide) (by decide)
      refine lv_aload_n hx hb dL_law_946 rfl (lv_at hl 15 rfl) ?_
      refine lv_iload hx hb dL_law_947 (lv_at hl 5 rfl) ?_
      refine lv_bipush (v := 10) hx hb dL_law_949 (by decide) ?_
      refine t_answer hstk X hI hw (rv2 e2) (rd2 e2) ml_RL_152 ⟨(Nat.le_of_ble_eq_true rfl), (Nat.le_of_ble_eq_true rfl)⟩ hl.1 (Nat.le_of_ble_eq_true rfl) dL_law_951 (by show _ ≤ 600590; omega) (by show _ ≤ 7299698; omega) (fun H locs cells slots ec es hw => ?_)
      refine lv_bipush (v := (-102)) hx hb dL_law_954 (by decide) ?_
      refine lv_icmp_ne (tgt := 963) hx hb dL_law_956 (by decide) (fun z => False.elim (z rfl)) (fun _ => ?_)
      refine lv_iconst (v := 1) hx hb dL_law_959 (by decide) ?_
      refine lv_goto (tgt := 964) hx hb dL_law_960 (by decide) ?_
      refine lv_istore (lv' := [(7, .int 1), (18, .int (D 11 run 4)), (17, .int (C 11 run 4)), (16, .int (if C 11 run 4 = 0 ∨ C 11 run 4 = 1 ∨ C 11 run 4 = 6 then C 7 run 5 else -1)), (15, .int (nI (gCnt C run))), (14, .int (nI v)), (13, .int (nI run)), (12, .int (nI f)), (11, .int (nI kd)), (8, .int (nI i)), (6, .int fd), (5, .int (nI (gRc C))), (4, .ref (bb 2)), (3, .ref (bb 1)), (2, .ref (bb 0)), (1, .ref a0), (0, .ref b)]) hx hb dL_law_964 hl (by decide) rfl (fun ls hl => ?_)
      refine lv_goto (tgt := 1269) hx hb dL_law_966 (by decide) ?_
      have hX : kX C (D) := hX1
      have hl2 := lv_sub hl [6, 9, 0, 10, 11, 12, 13, 14, 15, 16] rfl
      refine kk (D) (fd) _ _ _ _ _ (by omega) (by omega) (kJ.up (hJ1) (by omega)) (hDr.x hX) (hEn.x hX) hw ?_
      rw [hR1]; exact hl2
  · have e1 := f_ans3 hI hr (show v % 10 ≤ 9 by omega) h0
    refine t_answer hstk X hI hw (rv3 e1) (rd3 e1) ml_RL_152 ⟨(Nat.le_of_ble_eq_true rfl), (Nat.le_of_ble_eq_true rfl)⟩ hl.1 (Nat.le_of_ble_eq_true rfl) dL_law_849 (by show _ ≤ 600590; omega) (by show _ ≤ 7299698; omega) (fun H locs cells slots ec es hw => ?_)
    refine lv_istore (lv' := [(18, .int (-103)), (17, .int (C 11 run 4)), (16, .int (if C 11 run 4 = 0 ∨ C 11 run 4 = 1 ∨ C 11 run 4 = 6 then C 7 run 5 else -1)), (15, .int (nI (gCnt C run))), (14, .int (nI v)), (13, .int (nI run)), (12, .int (nI f)), (11, .int (nI kd)), (8, .int (nI i)), (7, .int 1), (6, .int fd), (5, .int (nI (gRc C))), (4, .ref (bb 2)), (3, .ref (bb 1)), (2, .ref (bb 0)), (1, .ref a0), (0, .ref b)]) hx hb dL_law_852 hl (by decide) rfl (fun ls hl => ?_)
    refine lv_iload hx hb dL_law_854 (lv_at hl 0 rfl) ?_
    refine lv_bipush (v := (-103)) hx hb dL_law_856 (by decide) ?_
    refine lv_icmp_ne (tgt := 891) hx hb dL_law_858 (by decide) (fun z => False.elim (z rfl)) (fun _ => ?_)
    refine lv_aload_n hx hb dL_law_861 rfl (lv_at hl 15 rfl) ?_
    refine lv_iload hx hb dL_law_862 (lv_at hl 5 rfl) ?_
    refine t_answers hstk X hI hw (rv0 (rd_answers hI hr)) (rd0 (rd_answers hI hr)) ml_RL_119 ⟨(Nat.le_of_ble_eq_true rfl), (Nat.le_of_ble_eq_true rfl)⟩ hl.1 (Nat.le_of_ble_eq_true rfl) dL_law_864 (by show _ ≤ 600590; omega) (by show _ ≤ 7299698; omega) (fun H locs cells slots ec es hw => ?_)
    refine lv_iload hx hb dL_law_867 (lv_at hl 3 rfl) ?_
    refine lv_icmp_ne (tgt := 887) hx hb dL_law_869 (by decide) (fun z => False.elim (z rfl)) (fun _ => ?_)
    refine lv_aload_n hx hb dL_law_872 rfl (lv_at hl 15 rfl) ?_
    refine lv_iload hx hb dL_law_873 (lv_at hl 5 rfl) ?_
    refine t_state hstk X hI hw (rv0 (rd_state hI hr)) (rd0 (rd_state hI hr)) ml_RL_98 ⟨(Nat.le_of_ble_eq_true rfl), (Nat.le_of_ble_eq_true rfl)⟩ hl.1 (Nat.le_of_ble_eq_true rfl) dL_law_875 (by show _ ≤ 600590; omega) (by show _ ≤ 7299698; omega) (fun H locs cells slots ec es hw => ?_)
    refine lv_iload hx hb dL_law_878 (lv_at hl 1 rfl) ?_
    refine lv_icmp_ne (tgt := 887) hx hb dL_law_880 (by decide) (fun z => False.elim (z rfl)) (fun _ => ?_)
    refine lv_iconst (v := 1) hx hb dL_law_883 (by decide) ?_
    refine lv_goto (tgt := 964) hx hb dL_law_884 (by decide) ?_
    refine lv_istore (lv' := [(7, .int 1), (18, .int (-103)), (17, .int (C 11 run 4)), (16, .int (if C 11 run 4 = 0 ∨ C 11 run 4 = 1 ∨ C 11 run 4 = 6 then C 7 run 5 else -1)), (15, .int (nI (gCnt C run))), (14, .int (nI v)), (13, .int (nI run)), (12, .int (nI f)), (11, .int (nI kd)), (8, .int (nI i)), (6, .int fd), (5, .int (nI (gRc C))), (4, .ref (bb 2)), (3, .ref (bb 1)), (2, .ref (bb 0)), (1, .ref a0), (0, .ref b)]) hx hb dL_law_964 hl (by decide) rfl (fun ls hl => ?_)
    refine lv_goto (tgt := 1269) hx hb dL_law_966 (by decide) ?_
    have hX : kX C (C) := kX.rf
    have hl2 := lv_sub hl [6, 9, 0, 10, 11, 12, 13, 14, 15, 16] rfl
    refine kk (C) (fd) _ _ _ _ _ (by omega) (by omega) (kJ.up (hJ) (by omega)) (hDr.x hX) (hEn.x hX) hw ?_
    exact hl2
set_option maxHeartbeats 4000000 in
set_option maxRecDepth 100000 in
theorem law_k12 (hstk : l.stackTraces = false) {C : gCT} {H : Heap} {locs : List Loc} {cells slots v f kd : Nat} {fd : Int32} {ls : Array Slot} (X : gX p s m #[.ref b] c cL_law RL 22 G A) (hw : tW G A s.heap H locs C a0 bb) (hJ : kJ (11 * i) fd C) (hi : i < 60) (hDr : kDr C) (hEn : kEn1 C) (hf : f < 3) (hv : v < 2 ^ 31) (hc : cells ≤ 600000) (hs : slots ≤ 7290000) (hr : run < gRc C) (hl : lv_has ls 22 [(14, .int (nI v)), (13, .int (nI run)), (12, .int (nI f)), (11, .int (nI kd)), (8, .int (nI i)), (7, .int 1), (6, .int fd), (5, .int (nI (gRc C))), (4, .ref (bb 2)), (3, .ref (bb 1)), (2, .ref (bb 0)), (1, .ref a0), (0, .ref b)]) (kk : lawJ p l e s m below meth c Q G A b a0 bb i run cells slots) : W p l e room_1 s m #[.ref b] below meth c H locs cells slots Q (F0 m 981 ls []) := by
  have hx := X.1.1; have hb := X.1.2.1; have hown := X.1.2.2.2.1; have hts := X.1.2.2.2.2; have hI := hJ.1
  refine lv_aload_n hx hb dL_law_981 rfl (lv_at hl 11 rfl) ?_
  refine lv_iload hx hb dL_law_982 (lv_at hl 1 rfl) ?_
  refine t_state hstk X hI hw (rv0 (rd_state hI hr)) (rd0 (rd_state hI hr)) ml_RL_98 ⟨(Nat.le_of_ble_eq_true rfl), (Nat.le_of_ble_eq_true rfl)⟩ hl.1 (Nat.le_of_ble_eq_true rfl) dL_law_984 (by show _ ≤ 600590; omega) (by show _ ≤ 7299698; omega) (fun H locs cells slots ec es hw => ?_)
  refine lv_istore (lv' := [(15, .int (C 11 run 4)), (14, .int (nI v)), (13, .int (nI run)), (12, .int (nI f)), (11, .int (nI kd)), (8, .int (nI i)), (7, .int 1), (6, .int fd), (5, .int (nI (gRc C))), (4, .ref (bb 2)), (3, .ref (bb 1)), (2, .ref (bb 0)), (1, .ref a0), (0, .ref b)]) hx hb dL_law_987 hl (by decide) rfl (fun ls hl => ?_)
  refine lv_aload_n hx hb dL_law_989 rfl (lv_at hl 12 rfl) ?_
  refine lv_iload hx hb dL_law_990 (lv_at hl 2 rfl) ?_
  by_cases h0 : C 11 run 4 = 0
  · have e1 := f_save0 hI hr h0
    refine t_save hstk X hI hw (rvv0 e1) (rd0 e1) ml_RL_154 ⟨(Nat.le_of_ble_eq_true rfl), (Nat.le_of_ble_eq_true rfl)⟩ hl.1 (Nat.le_of_ble_eq_true rfl) dL_law_992 (by show _ ≤ 600590; omega) (by show _ ≤ 7299698; omega) (fun H locs cells slots ec es hw => ?_)
    obtain ⟨hJ1, hX1⟩ := j_state hr (Or.inl h0) (Or.inr (Or.inl rfl)) hJ (w := 1)
    have hI0 := hI
    have hI := hJ1.1
    have eR : gRc (cs C 11 run 4 1) = gRc C := by unfold gRc; rw [cs_k _ _ _ _ (by decide)]
    have hrD : run < gRc (cs C 11 run 4 1) := by rw [eR]; exact hr
    have h1 : cs C 11 run 4 1 11 run 4 = 1 := cs_s _ _ _ _ _
    refine lv_iload hx hb dL_law_995 (lv_at hl 0 rfl) ?_
    refine lv_if_ne (tgt := 1004) hx hb dL_law_997 (by decide) (fun z => False.elim (z h0)) (fun _ => ?_)
    refine lv_iconst (v := 0) hx hb dL_law_1000 (by decide) ?_
    refine lv_goto (tgt := 1006) hx hb dL_law_1001 (by decide) ?_
    refine lv_icmp_ne (tgt := 1041) hx hb dL_law_1006 (by decide) (fun z => False.elim (z rfl)) (fun _ => ?_)
    refine lv_iload hx hb dL_law_1009 (lv_at hl 0 rfl) ?_
    refine lv_if_ne (tgt := 1037) hx hb dL_law_1011 (by decide) (fun z => False.elim (z h0)) (fun _ => ?_)
    have e2 := f_ans3 hI hrD (show 0 ≤ 9 by decide) (by rw [h1]; decide)
    refine lv_aload_n hx hb dL_law_1014 rfl (lv_at hl 12 rfl) ?_
    refine lv_iload hx hb dL_law_1015 (lv_at hl 2 rfl) ?_
    refine lv_iconst (v := 0) hx hb dL_law_1017 (by decide) ?_
    refine t_answer hstk X hI hw (rv3 e2) (rd3 e2) ml_RL_152 ⟨(Nat.le_of_ble_eq_true rfl), (Nat.le_of_ble_eq_true rfl)⟩ hl.1 (Nat.le_of_ble_eq_true rfl) dL_law_1018 (by show _ ≤ 600590; omega) (by show _ ≤ 7299698; omega) (fun H locs cells slots ec es hw => ?_)
    refine lv_bipush (v := (-103)) hx hb dL_law_1021 (by decide) ?_
    refine lv_icmp_ne (tgt := 1041) hx hb dL_law_1023 (by decide) (fun z => False.elim (z rfl)) (fun _ => ?_)
    have e3 := f_save1 hI hrD (by rw [h1]; decide)
    refine lv_aload_n hx hb dL_law_1026 rfl (lv_at hl 12 rfl) ?_
    refine lv_iload hx hb dL_law_1027 (lv_at hl 2 rfl) ?_
    refine t_save hstk X hI hw (rvv3 e3) (rd3 e3) ml_RL_154 ⟨(Nat.le_of_ble_eq_true rfl), (Nat.le_of_ble_eq_true rfl)⟩ hl.1 (Nat.le_of_ble_eq_true rfl) dL_law_1029 (by show _ ≤ 600590; omega) (by show _ ≤ 7299698; omega) (fun H locs cells slots ec es hw => ?_)
    refine lv_bipush (v := (-103)) hx hb dL_law_1032 (by decide) ?_
    refine lv_icmp_ne (tgt := 1041) hx hb dL_law_1034 (by decide) (fun z => False.elim (z rfl)) (fun _ => ?_)
    refine lv_iconst (v := 1) hx hb dL_law_1037 (by decide) ?_
    refine lv_goto (tgt := 1042) hx hb dL_law_1038 (by decide) ?_
    refine lv_istore (lv' := [(7, .int 1), (15, .int (C 11 run 4)), (14, .int (nI v)), (13, .int (nI run)), (12, .int (nI f)), (11, .int (nI kd)), (8, .int (nI i)), (6, .int fd), (5, .int (nI (gRc C))), (4, .ref (bb 2)), (3, .ref (bb 1)), (2, .ref (bb 0)), (1, .ref a0), (0, .ref b)]) hx hb dL_law_1042 hl (by decide) rfl (fun ls hl => ?_)
    refine lv_goto (tgt := 1269) hx hb dL_law_1044 (by decide) ?_
    have hX : kX C (cs C 11 run 4 1) := hX1
    have hl2 := lv_sub hl [3, 6, 0, 7, 8, 9, 10, 11, 12, 13] rfl
    refine kk (cs C 11 run 4 1) (fd) _ _ _ _ _ (by omega) (by omega) (kJ.up (hJ1) (by omega)) (hDr.x hX) (hEn.x hX) hw ?_
    rw [eR]; exact hl2
  · have e1 := f_save1 hI hr h0
    refine t_save hstk X hI hw (rvv3 e1) (rd3 e1) ml_RL_154 ⟨(Nat.le_of_ble_eq_true rfl), (Nat.le_of_ble_eq_true rfl)⟩ hl.1 (Nat.le_of_ble_eq_true rfl) dL_law_992 (by show _ ≤ 600590; omega) (by show _ ≤ 7299698; omega) (fun H locs cells slots ec es hw => ?_)
    refine lv_iload hx hb dL_law_995 (lv_at hl 0 rfl) ?_
    refine lv_if_ne (tgt := 1004) hx hb dL_law_997 (by decide) (fun _ => ?_) (fun z => False.elim (h0 z))
    refine lv_bipush (v := (-103)) hx hb dL_law_1004 (by decide) ?_
    refine lv_icmp_ne (tgt := 1041) hx hb dL_law_1006 (by decide) (fun z => False.elim (z rfl)) (fun _ => ?_)
    refine lv_iload hx hb dL_law_1009 (lv_at hl 0 rfl) ?_
    refine lv_if_ne (tgt := 1037) hx hb dL_law_1011 (by decide) (fun _ => ?_) (fun z => False.elim (h0 z))
    refine lv_iconst (v := 1) hx hb dL_law_1037 (by decide) ?_
    refine lv_goto (tgt := 1042) hx hb dL_law_1038 (by decide) ?_
    refine lv_istore (lv' := [(7, .int 1), (15, .int (C 11 run 4)), (14, .int (nI v)), (13, .int (nI run)), (12, .int (nI f)), (11, .int (nI kd)), (8, .int (nI i)), (6, .int fd), (5, .int (nI (gRc C))), (4, .ref (bb 2)), (3, .ref (bb 1)), (2, .ref (bb 0)), (1, .ref a0), (0, .ref b)]) hx hb dL_law_1042 hl (by decide) rfl (fun ls hl => ?_)
    refine lv_goto (tgt := 1269) hx hb dL_law_1044 (by decide) ?_
    have hX : kX C (C) := kX.rf
    have hl2 := lv_sub hl [3, 6, 0, 7, 8, 9, 10, 11, 12, 13] rfl
    refine kk (C) (fd) _ _ _ _ _ (by omega) (by omega) (kJ.up (hJ) (by omega)) (hDr.x hX) (hEn.x hX) hw ?_
    exact hl2
set_option maxHeartbeats 4000000 in
set_option maxRecDepth 100000 in
theorem law_k13 (hstk : l.stackTraces = false) {C : gCT} {H : Heap} {locs : List Loc} {cells slots v f kd : Nat} {fd : Int32} {ls : Array Slot} (X : gX p s m #[.ref b] c cL_law RL 22 G A) (hw : tW G A s.heap H locs C a0 bb) (hJ : kJ (11 * i) fd C) (hi : i < 60) (hDr : kDr C) (hEn : kEn1 C) (hf : f < 3) (hv : v < 2 ^ 31) (hc : cells ≤ 600000) (hs : slots ≤ 7290000) (hr : run < gRc C) (hl : lv_has ls 22 [(14, .int (nI v)), (13, .int (nI run)), (12, .int (nI f)), (11, .int (nI kd)), (8, .int (nI i)), (7, .int 1), (6, .int fd), (5, .int (nI (gRc C))), (4, .ref (bb 2)), (3, .ref (bb 1)), (2, .ref (bb 0)), (1, .ref a0), (0, .ref b)]) (kk : lawJ p l e s m below meth c Q G A b a0 bb i run cells slots) : W p l e room_1 s m #[.ref b] below meth c H locs cells slots Q (F0 m 1059 ls []) := by
  have hx := X.1.1; have hb := X.1.2.1; have hown := X.1.2.2.2.1; have hts := X.1.2.2.2.2; have hI := hJ.1
  refine lv_aload_n hx hb dL_law_1059 rfl (lv_at hl 11 rfl) ?_
  refine lv_iload hx hb dL_law_1060 (lv_at hl 1 rfl) ?_
  refine t_state hstk X hI hw (rv0 (rd_state hI hr)) (rd0 (rd_state hI hr)) ml_RL_98 ⟨(Nat.le_of_ble_eq_true rfl), (Nat.le_of_ble_eq_true rfl)⟩ hl.1 (Nat.le_of_ble_eq_true rfl) dL_law_1062 (by show _ ≤ 600590; omega) (by show _ ≤ 7299698; omega) (fun H locs cells slots ec es hw => ?_)
  refine lv_istore (lv' := [(15, .int (C 11 run 4)), (14, .int (nI v)), (13, .int (nI run)), (12, .int (nI f)), (11, .int (nI kd)), (8, .int (nI i)), (7, .int 1), (6, .int fd), (5, .int (nI (gRc C))), (4, .ref (bb 2)), (3, .ref (bb 1)), (2, .ref (bb 0)), (1, .ref a0), (0, .ref b)]) hx hb dL_law_1065 hl (by decide) rfl (fun ls hl => ?_)
  refine lv_aload_n hx hb dL_law_1067 rfl (lv_at hl 12 rfl) ?_
  refine lv_iload hx hb dL_law_1068 (lv_at hl 2 rfl) ?_
  refine t_fuel hstk X hI hw (rv0 (rd_fuel hI hr)) (rd0 (rd_fuel hI hr)) ml_RL_105 ⟨(Nat.le_of_ble_eq_true rfl), (Nat.le_of_ble_eq_true rfl)⟩ hl.1 (Nat.le_of_ble_eq_true rfl) dL_law_1070 (by show _ ≤ 600590; omega) (by show _ ≤ 7299698; omega) (fun H locs cells slots ec es hw => ?_)
  refine lv_istore (lv' := [(16, .int (C 7 run 2)), (15, .int (C 11 run 4)), (14, .int (nI v)), (13, .int (nI run)), (12, .int (nI f)), (11, .int (nI kd)), (8, .int (nI i)), (7, .int 1), (6, .int fd), (5, .int (nI (gRc C))), (4, .ref (bb 2)), (3, .ref (bb 1)), (2, .ref (bb 0)), (1, .ref a0), (0, .ref b)]) hx hb dL_law_1073 hl (by decide) rfl (fun ls hl => ?_)
  refine lv_aload_n hx hb dL_law_1075 rfl (lv_at hl 13 rfl) ?_
  refine lv_iload hx hb dL_law_1076 (lv_at hl 3 rfl) ?_
  refine t_version hstk X hI hw (rv0 (rd_version hI hr)) (rd0 (rd_version hI hr)) ml_RL_112 ⟨(Nat.le_of_ble_eq_true rfl), (Nat.le_of_ble_eq_true rfl)⟩ hl.1 (Nat.le_of_ble_eq_true rfl) dL_law_1078 (by show _ ≤ 600590; omega) (by show _ ≤ 7299698; omega) (fun H locs cells slots ec es hw => ?_)
  refine lv_istore (lv' := [(17, .int (C 11 run 2)), (16, .int (C 7 run 2)), (15, .int (C 11 run 4)), (14, .int (nI v)), (13, .int (nI run)), (12, .int (nI f)), (11, .int (nI kd)), (8, .int (nI i)), (7, .int 1), (6, .int fd), (5, .int (nI (gRc C))), (4, .ref (bb 2)), (3, .ref (bb 1)), (2, .ref (bb 0)), (1, .ref a0), (0, .ref b)]) hx hb dL_law_1081 hl (by decide) rfl (fun ls hl => ?_)
  refine lv_aload_n hx hb dL_law_1083 rfl (lv_at hl 14 rfl) ?_
  refine lv_iload hx hb dL_law_1084 (lv_at hl 4 rfl) ?_
  refine t_answers hstk X hI hw (rv0 (rd_answers hI hr)) (rd0 (rd_answers hI hr)) ml_RL_119 ⟨(Nat.le_of_ble_eq_true rfl), (Nat.le_of_ble_eq_true rfl)⟩ hl.1 (Nat.le_of_ble_eq_true rfl) dL_law_1086 (by show _ ≤ 600590; omega) (by show _ ≤ 7299698; omega) (fun H locs cells slots ec es hw => ?_)
  refine lv_istore (lv' := [(18, .int (nI (gCnt C run))), (17, .int (C 11 run 2)), (16, .int (C 7 run 2)), (15, .int (C 11 run 4)), (14, .int (nI v)), (13, .int (nI run)), (12, .int (nI f)), (11, .int (nI kd)), (8, .int (nI i)), (7, .int 1), (6, .int fd), (5, .int (nI (gRc C))), (4, .ref (bb 2)), (3, .ref (bb 1)), (2, .ref (bb 0)), (1, .ref a0), (0, .ref b)]) hx hb dL_law_1089 hl (by decide) rfl (fun ls hl => ?_)
  refine lv_aload_n hx hb dL_law_1091 rfl (lv_at hl 15 rfl) ?_
  refine lv_iload hx hb dL_law_1092 (lv_at hl 5 rfl) ?_
  by_cases h1 : C 11 run 4 = 1
  · obtain ⟨wv1, D, e1, hJ1, hX1, h2, hor⟩ := f_wake (fd := fd) (show 11 * i ≤ 700 by omega) hJ hr h1
    have eR : gRc D = gRc C := by unfold gRc; rw [h2]
    have hrD : run < gRc D := by rw [eR]; exact hr
    have hcD : gCnt D run = gCnt C run := by unfold gCnt; rw [h2]
    rcases hor with ⟨ev, hs0, h7, h11⟩ | ev
    · subst ev
      refine t_wake hstk X hI hw ((rw0 e1).trans (if_pos rfl)) (rd0 e1) ml_RL_156 ⟨(Nat.le_of_ble_eq_true rfl), (Nat.le_of_ble_eq_true rfl)⟩ hl.1 (Nat.le_of_ble_eq_true rfl) dL_law_1094 (by show _ ≤ 600590; omega) (by show _ ≤ 7299698; omega) (fun H locs cells slots ec es hw => ?_)
      have hI := hJ1.1
      refine lv_istore (lv' := [(19, .int 0), (18, .int (nI (gCnt C run))), (17, .int (C 11 run 2)), (16, .int (C 7 run 2)), (15, .int (C 11 run 4)), (14, .int (nI v)), (13, .int (nI run)), (12, .int (nI f)), (11, .int (nI kd)), (8, .int (nI i)), (7, .int 1), (6, .int fd), (5, .int (nI (gRc C))), (4, .ref (bb 2)), (3, .ref (bb 1)), (2, .ref (bb 0)), (1, .ref a0), (0, .ref b)]) hx hb dL_law_1097 hl (by decide) rfl (fun ls hl => ?_)
      refine lv_iload hx hb dL_law_1099 (lv_at hl 4 rfl) ?_
      refine lv_iconst (v := 1) hx hb dL_law_1101 (by decide) ?_
      refine lv_icmp_eq (tgt := 1120) hx hb dL_law_1102 (by decide) (fun _ => ?_) (fun z => False.elim (z h1))
      refine lv_aload_n hx hb dL_law_1120 rfl (lv_at hl 16 rfl) ?_
      refine lv_iload hx hb dL_law_1121 (lv_at hl 6 rfl) ?_
      refine t_answers hstk X hI hw (rv0 ((rd_answers hI hrD).trans (by rw [hcD]))) (rd0 (rd_answers hI hrD)) ml_RL_119 ⟨(Nat.le_of_ble_eq_true rfl), (Nat.le_of_ble_eq_true rfl)⟩ hl.1 (Nat.le_of_ble_eq_true rfl) dL_law_1123 (by show _ ≤ 600590; omega) (by show _ ≤ 7299698; omega) (fun H locs cells slots ec es hw => ?_)
      refine lv_iload hx hb dL_law_1126 (lv_at hl 1 rfl) ?_
      refine lv_icmp_ne (tgt := 1180) hx hb dL_law_1128 (by decide) (fun z => False.elim (z rfl)) (fun _ => ?_)
      refine lv_iload hx hb dL_law_1131 (lv_at hl 0 rfl) ?_
      refine lv_if_ne (tgt := 1170) hx hb dL_law_1133 (by decide) (fun z => False.elim (z rfl)) (fun _ => ?_)
      refine lv_aload_n hx hb dL_law_1136 rfl (lv_at hl 16 rfl) ?_
      refine lv_iload hx hb dL_law_1137 (lv_at hl 6 rfl) ?_
      refine t_state hstk X hI hw (rv0 (rd_state hI hrD)) (rd0 (rd_state hI hrD)) ml_RL_98 ⟨(Nat.le_of_ble_eq_true rfl), (Nat.le_of_ble_eq_true rfl)⟩ hl.1 (Nat.le_of_ble_eq_true rfl) dL_law_1139 (by show _ ≤ 600590; omega) (by show _ ≤ 7299698; omega) (fun H locs cells slots ec es hw => ?_)
      refine lv_if_ne (tgt := 1180) hx hb dL_law_1142 (by decide) (fun z => False.elim (z hs0)) (fun _ => ?_)
      refine lv_aload_n hx hb dL_law_1145 rfl (lv_at hl 16 rfl) ?_
      refine lv_iload hx hb dL_law_1146 (lv_at hl 6 rfl) ?_
      refine t_fuel hstk X hI hw (rv0 (rd_fuel hI hrD)) (rd0 (rd_fuel hI hrD)) ml_RL_105 ⟨(Nat.le_of_ble_eq_true rfl), (Nat.le_of_ble_eq_true rfl)⟩ hl.1 (Nat.le_of_ble_eq_true rfl) dL_law_1148 (by show _ ≤ 600590; omega) (by show _ ≤ 7299698; omega) (fun H locs cells slots ec es hw => ?_)
      refine lv_iload hx hb dL_law_1151 (lv_at hl 3 rfl) ?_
      refine lv_icmp_ne (tgt := 1180) hx hb dL_law_1153 (by decide) (fun z => False.elim (z (by rw [h7]))) (fun _ => ?_)
      refine lv_aload_n hx hb dL_law_1156 rfl (lv_at hl 16 rfl) ?_
      refine lv_iload hx hb dL_law_1157 (lv_at hl 6 rfl) ?_
      refine t_version hstk X hI hw (rv0 (rd_version hI hrD)) (rd0 (rd_version hI hrD)) ml_RL_112 ⟨(Nat.le_of_ble_eq_true rfl), (Nat.le_of_ble_eq_true rfl)⟩ hl.1 (Nat.le_of_ble_eq_true rfl) dL_law_1159 (by show _ ≤ 600590; omega) (by show _ ≤ 7299698; omega) (fun H locs cells slots ec es hw => ?_)
      refine lv_iload hx hb dL_law_1162 (lv_at hl 2 rfl) ?_
      refine lv_icmp_ne (tgt := 1180) hx hb dL_law_1164 (by decide) (fun z => False.elim (z h11)) (fun _ => ?_)
      refine lv_goto (tgt := 1176) hx hb dL_law_1167 (by decide) ?_
      refine lv_iconst (v := 1) hx hb dL_law_1176 (by decide) ?_
      refine lv_goto (tgt := 1181) hx hb dL_law_1177 (by decide) ?_
      refine lv_istore (lv' := [(7, .int 1), (19, .int 0), (18, .int (nI (gCnt C run))), (17, .int (C 11 run 2)), (16, .int (C 7 run 2)), (15, .int (C 11 run 4)), (14, .int (nI v)), (13, .int (nI run)), (12, .int (nI f)), (11, .int (nI kd)), (8, .int (nI i)), (6, .int fd), (5, .int (nI (gRc C))), (4, .ref (bb 2)), (3, .ref (bb 1)), (2, .ref (bb 0)), (1, .ref a0), (0, .ref b)]) hx hb dL_law_1181 hl (by decide) rfl (fun ls hl => ?_)
      refine lv_goto (tgt := 1269) hx hb dL_law_1183 (by decide) ?_
      have hX : kX C (D) := hX1
      have hl2 := lv_sub hl [7, 10, 0, 11, 12, 13, 14, 15, 16, 17] rfl
      refine kk (D) (fd) _ _ _ _ _ (by omega) (by omega) (kJ.up (hJ1) (by omega)) (hDr.x hX) (hEn.x hX) hw ?_
      rw [eR]; exact hl2
    · subst ev
      refine t_wake hstk X hI hw ((rw0 e1).trans (if_neg one_ne)) (rd0 e1) ml_RL_156 ⟨(Nat.le_of_ble_eq_true rfl), (Nat.le_of_ble_eq_true rfl)⟩ hl.1 (Nat.le_of_ble_eq_true rfl) dL_law_1094 (by show _ ≤ 600590; omega) (by show _ ≤ 7299698; omega) (fun H locs cells slots ec es hw => ?_)
      have hI := hJ1.1
      refine lv_istore (lv' := [(19, .int 1), (18, .int (nI (gCnt C run))), (17, .int (C 11 run 2)), (16, .int (C 7 run 2)), (15, .int (C 11 run 4)), (14, .int (nI v)), (13, .int (nI run)), (12, .int (nI f)), (11, .int (nI kd)), (8, .int (nI i)), (7, .int 1), (6, .int fd), (5, .int (nI (gRc C))), (4, .ref (bb 2)), (3, .ref (bb 1)), (2, .ref (bb 0)), (1, .ref a0), (0, .ref b)]) hx hb dL_law_1097 hl (by decide) rfl (fun ls hl => ?_)
      refine lv_iload hx hb dL_law_1099 (lv_at hl 4 rfl) ?_
      refine lv_iconst (v := 1) hx hb dL_law_1101 (by decide) ?_
      refine lv_icmp_eq (tgt := 1120) hx hb dL_law_1102 (by decide) (fun _ => ?_) (fun z => False.elim (z h1))
      refine lv_aload_n hx hb dL_law_1120 rfl (lv_at hl 16 rfl) ?_
      refine lv_iload hx hb dL_law_1121 (lv_at hl 6 rfl) ?_
      refine t_answers hstk X hI hw (rv0 ((rd_answers hI hrD).trans (by rw [hcD]))) (rd0 (rd_answers hI hrD)) ml_RL_119 ⟨(Nat.le_of_ble_eq_true rfl), (Nat.le_of_ble_eq_true rfl)⟩ hl.1 (Nat.le_of_ble_eq_true rfl) dL_law_1123 (by show _ ≤ 600590; omega) (by show _ ≤ 7299698; omega) (fun H locs cells slots ec es hw => ?_)
      refine lv_iload hx hb dL_law_1126 (lv_at hl 1 rfl) ?_
      refine lv_icmp_ne (tgt := 1180) hx hb dL_law_1128 (by decide) (fun z => False.elim (z rfl)) (fun _ => ?_)
      refine lv_iload hx hb dL_law_1131 (lv_at hl 0 rfl) ?_
      refine lv_if_ne (tgt := 1170) hx hb dL_law_1133 (by decide) (fun _ => ?_) (fun z => False.elim (absurd z (by decide)))
      refine lv_iload hx hb dL_law_1170 (lv_at hl 0 rfl) ?_
      refine lv_iconst (v := 1) hx hb dL_law_1172 (by decide) ?_
      refine lv_icmp_ne (tgt := 1180) hx hb dL_law_1173 (by decide) (fun z => False.elim (z rfl)) (fun _ => ?_)
      refine lv_iconst (v := 1) hx hb dL_law_1176 (by decide) ?_
      refine lv_goto (tgt := 1181) hx hb dL_law_1177 (by decide) ?_
      refine lv_istore (lv' := [(7, .int 1), (19, .int 1), (18, .int (nI (gCnt C run))), (17, .int (C 11 run 2)), (16, .int (C 7 run 2)), (15, .int (C 11 run 4)), (14, .int (nI v)), (13, .int (nI run)), (12, .int (nI f)), (11, .int (nI kd)), (8, .int (nI i)), (6, .int fd), (5, .int (nI (gRc C))), (4, .ref (bb 2)), (3, .ref (bb 1)), (2, .ref (bb 0)), (1, .ref a0), (0, .ref b)]) hx hb dL_law_1181 hl (by decide) rfl (fun ls hl => ?_)
      refine lv_goto (tgt := 1269) hx hb dL_law_1183 (by decide) ?_
      have hX : kX C (D) := hX1
      have hl2 := lv_sub hl [7, 10, 0, 11, 12, 13, 14, 15, 16, 17] rfl
      refine kk (D) (fd) _ _ _ _ _ (by omega) (by omega) (kJ.up (hJ1) (by omega)) (hDr.x hX) (hEn.x hX) hw ?_
      rw [eR]; exact hl2
  · have e1 := f_wake1 hI hr h1
    refine t_wake hstk X hI hw (rw3 e1) (rd3 e1) ml_RL_156 ⟨(Nat.le_of_ble_eq_true rfl), (Nat.le_of_ble_eq_true rfl)⟩ hl.1 (Nat.le_of_ble_eq_true rfl) dL_law_1094 (by show _ ≤ 600590; omega) (by show _ ≤ 7299698; omega) (fun H locs cells slots ec es hw => ?_)
    refine lv_istore (lv' := [(19, .int (-103)), (18, .int (nI (gCnt C run))), (17, .int (C 11 run 2)), (16, .int (C 7 run 2)), (15, .int (C 11 run 4)), (14, .int (nI v)), (13, .int (nI run)), (12, .int (nI f)), (11, .int (nI kd)), (8, .int (nI i)), (7, .int 1), (6, .int fd), (5, .int (nI (gRc C))), (4, .ref (bb 2)), (3, .ref (bb 1)), (2, .ref (bb 0)), (1, .ref a0), (0, .ref b)]) hx hb dL_law_1097 hl (by decide) rfl (fun ls hl => ?_)
    refine lv_iload hx hb dL_law_1099 (lv_at hl 4 rfl) ?_
    refine lv_iconst (v := 1) hx hb dL_law_1101 (by decide) ?_
    refine lv_icmp_eq (tgt := 1120) hx hb dL_law_1102 (by decide) (fun z => False.elim (h1 z)) (fun _ => ?_)
    refine lv_iload hx hb dL_law_1105 (lv_at hl 0 rfl) ?_
    refine lv_bipush (v := (-103)) hx hb dL_law_1107 (by decide) ?_
    refine lv_icmp_ne (tgt := 1116) hx hb dL_law_1109 (by decide) (fun z => False.elim (z rfl)) (fun _ => ?_)
    refine lv_iconst (v := 1) hx hb dL_law_1112 (by decide) ?_
    refine lv_goto (tgt := 1181) hx hb dL_law_1113 (by decide) ?_
    refine lv_istore (lv' := [(7, .int 1), (19, .int (-103)), (18, .int (nI (gCnt C run))), (17, .int (C 11 run 2)), (16, .int (C 7 run 2)), (15, .int (C 11 run 4)), (14, .int (nI v)), (13, .int (nI run)), (12, .int (nI f)), (11, .int (nI kd)), (8, .int (nI i)), (6, .int fd), (5, .int (nI (gRc C))), (4, .ref (bb 2)), (3, .ref (bb 1)), (2, .ref (bb 0)), (1, .ref a0), (0, .ref b)]) hx hb dL_law_1181 hl (by decide) rfl (fun ls hl => ?_)
    refine lv_goto (tgt := 1269) hx hb dL_law_1183 (by decide) ?_
    have hX : kX C (C) := kX.rf
    have hl2 := lv_sub hl [7, 10, 0, 11, 12, 13, 14, 15, 16, 17] rfl
    refine kk (C) (fd) _ _ _ _ _ (by omega) (by omega) (kJ.up (hJ) (by omega)) (hDr.x hX) (hEn.x hX) hw ?_
    exact hl2
set_option maxHeartbeats 4000000 in
set_option maxRecDepth 100000 in
theorem law_k15 (hstk : l.stackTraces = false) {C : gCT} {H : Heap} {locs : List Loc} {cells slots v f kd : Nat} {fd : Int32} {ls : Array Slot} (X : gX p s m #[.ref b] c cL_law RL 22 G A) (hw : tW G A s.heap H locs C a0 bb) (hJ : kJ (11 * i) fd C) (hi : i < 60) (hDr : kDr C) (hEn : kEn1 C) (hf : f < 3) (hv : v < 2 ^ 31) (hc : cells ≤ 600000) (hs : slots ≤ 7290000) (hr : run < gRc C) (hl : lv_has ls 22 [(14, .int (nI v)), (13, .int (nI run)), (12, .int (nI f)), (11, .int (nI kd)), (8, .int (nI i)), (7, .int 1), (6, .int fd), (5, .int (nI (gRc C))), (4, .ref (bb 2)), (3, .ref (bb 1)), (2, .ref (bb 0)), (1, .ref a0), (0, .ref b)]) (kk : lawJ p l e s m below meth c Q G A b a0 bb i run cells slots) : W p l e room_1 s m #[.ref b] below meth c H locs cells slots Q (F0 m 1198 ls []) := by
  have hx := X.1.1; have hb := X.1.2.1; have hown := X.1.2.2.2.1; have hts := X.1.2.2.2.2; have hI := hJ.1
  have hkV := (hJ.2.2.2.1 run hr).2.1.v
  obtain ⟨pd, hpd, epd⟩ := (hJ.2.2.2.1 run hr).1.2.2.2.2
  refine lv_aload_n hx hb dL_law_1198 rfl (lv_at hl 11 rfl) ?_
  refine lv_iload hx hb dL_law_1199 (lv_at hl 1 rfl) ?_
  refine t_state hstk X hI hw (rv0 (rd_state hI hr)) (rd0 (rd_state hI hr)) ml_RL_98 ⟨(Nat.le_of_ble_eq_true rfl), (Nat.le_of_ble_eq_true rfl)⟩ hl.1 (Nat.le_of_ble_eq_true rfl) dL_law_1201 (by show _ ≤ 600590; omega) (by show _ ≤ 7299698; omega) (fun H locs cells slots ec es hw => ?_)
  refine lv_istore (lv' := [(15, .int (C 11 run 4)), (14, .int (nI v)), (13, .int (nI run)), (12, .int (nI f)), (11, .int (nI kd)), (8, .int (nI i)), (7, .int 1), (6, .int fd), (5, .int (nI (gRc C))), (4, .ref (bb 2)), (3, .ref (bb 1)), (2, .ref (bb 0)), (1, .ref a0), (0, .ref b)]) hx hb dL_law_1204 hl (by decide) rfl (fun ls hl => ?_)
  refine lv_aload_n hx hb dL_law_1206 rfl (lv_at hl 12 rfl) ?_
  refine lv_iload hx hb dL_law_1207 (lv_at hl 2 rfl) ?_
  by_cases h01 : C 11 run 4 = 0 ∨ C 11 run 4 = 1
  · have e1 := f_leave0 hI hr h01
    rw [epd] at e1
    refine t_leave hstk X hI hw (rv0 e1) (rd0 e1) ml_RL_158 ⟨(Nat.le_of_ble_eq_true rfl), (Nat.le_of_ble_eq_true rfl)⟩ hl.1 (Nat.le_of_ble_eq_true rfl) dL_law_1209 (by show _ ≤ 600590; omega) (by show _ ≤ 7299698; omega) (fun H locs cells slots ec es hw => ?_)
    obtain ⟨hJ1, hX1⟩ := j_state hr h01 (Or.inr (Or.inr rfl)) hJ (w := 6)
    have hI0 := hI
    have hI := hJ1.1
    have eR : gRc (cs C 11 run 4 6) = gRc C := by unfold gRc; rw [cs_k _ _ _ _ (by decide)]
    have hrD : run < gRc (cs C 11 run 4 6) := by rw [eR]; exact hr
    have h6 : cs C 11 run 4 6 11 run 4 = 6 := cs_s _ _ _ _ _
    refine lv_istore (lv' := [(16, .int (nI pd)), (15, .int (C 11 run 4)), (14, .int (nI v)), (13, .int (nI run)), (12, .int (nI f)), (11, .int (nI kd)), (8, .int (nI i)), (7, .int 1), (6, .int fd), (5, .int (nI (gRc C))), (4, .ref (bb 2)), (3, .ref (bb 1)), (2, .ref (bb 0)), (1, .ref a0), (0, .ref b)]) hx hb dL_law_1212 hl (by decide) rfl (fun ls hl => ?_)
    refine lv_iload hx hb dL_law_1214 (lv_at hl 1 rfl) ?_
    refine lv_iconst (v := 2) hx hb dL_law_1216 (by decide) ?_
    refine lv_icmp_ge (tgt := 1244) hx hb dL_law_1217 (by decide) (fun z => False.elim (by rcases h01 with h | h <;> rw [h] at z <;> exact absurd z (by decide))) (fun _ => ?_)
    refine lv_iload hx hb dL_law_1220 (lv_at hl 0 rfl) ?_
    refine lv_if_lt (tgt := 1240) hx hb dL_law_1222 (by decide) (fun z => False.elim (absurd z (nI_pos (by omega)))) (fun _ => ?_)
    refine lv_aload_n hx hb dL_law_1225 rfl (lv_at hl 13 rfl) ?_
    refine lv_iload hx hb dL_law_1226 (lv_at hl 3 rfl) ?_
    refine t_state hstk X hI hw (rv0 ((rd_state hI hrD).trans (by rw [h6]))) (rd0 (rd_state hI hrD)) ml_RL_98 ⟨(Nat.le_of_ble_eq_true rfl), (Nat.le_of_ble_eq_true rfl)⟩ hl.1 (Nat.le_of_ble_eq_true rfl) dL_law_1228 (by show _ ≤ 600590; omega) (by show _ ≤ 7299698; omega) (fun H locs cells slots ec es hw => ?_)
    refine lv_bipush (v := 6) hx hb dL_law_1231 (by decide) ?_
    refine lv_icmp_ne (tgt := 1240) hx hb dL_law_1233 (by decide) (fun z => False.elim (z rfl)) (fun _ => ?_)
    refine lv_iconst (v := 1) hx hb dL_law_1236 (by decide) ?_
    refine lv_goto (tgt := 1267) hx hb dL_law_1237 (by decide) ?_
    refine lv_istore (lv' := [(7, .int 1), (16, .int (nI pd)), (15, .int (C 11 run 4)), (14, .int (nI v)), (13, .int (nI run)), (12, .int (nI f)), (11, .int (nI kd)), (8, .int (nI i)), (6, .int fd), (5, .int (nI (gRc C))), (4, .ref (bb 2)), (3, .ref (bb 1)), (2, .ref (bb 0)), (1, .ref a0), (0, .ref b)]) hx hb dL_law_1267 hl (by decide) rfl (fun ls hl => ?_)
    have hX : kX C (cs C 11 run 4 6) := hX1
    have hl2 := lv_sub hl [4, 7, 0, 8, 9, 10, 11, 12, 13, 14] rfl
    refine kk (cs C 11 run 4 6) (fd) _ _ _ _ _ (by omega) (by omega) (kJ.up (hJ1) (by omega)) (hDr.x hX) (hEn.x hX) hw ?_
    rw [eR]; exact hl2
  · have e1 := f_leave1 hI hr (fun q => h01 (Or.inl q)) (fun q => h01 (Or.inr q))
    refine t_leave hstk X hI hw (rv3 e1) (rd3 e1) ml_RL_158 ⟨(Nat.le_of_ble_eq_true rfl), (Nat.le_of_ble_eq_true rfl)⟩ hl.1 (Nat.le_of_ble_eq_true rfl) dL_law_1209 (by show _ ≤ 600590; omega) (by show _ ≤ 7299698; omega) (fun H locs cells slots ec es hw => ?_)
    refine lv_istore (lv' := [(16, .int (-103)), (15, .int (C 11 run 4)), (14, .int (nI v)), (13, .int (nI run)), (12, .int (nI f)), (11, .int (nI kd)), (8, .int (nI i)), (7, .int 1), (6, .int fd), (5, .int (nI (gRc C))), (4, .ref (bb 2)), (3, .ref (bb 1)), (2, .ref (bb 0)), (1, .ref a0), (0, .ref b)]) hx hb dL_law_1212 hl (by decide) rfl (fun ls hl => ?_)
    refine lv_iload hx hb dL_law_1214 (lv_at hl 1 rfl) ?_
    refine lv_iconst (v := 2) hx hb dL_law_1216 (by decide) ?_
    refine lv_icmp_ge (tgt := 1244) hx hb dL_law_1217 (by decide) (fun _ => ?_) (fun z => False.elim (z (by rcases hkV with h | h | h | h | h | h | h <;> first | exact absurd (Or.inl h) h01 | exact absurd (Or.inr h) h01 | (rw [h]; decide))))
    refine lv_iload hx hb dL_law_1244 (lv_at hl 0 rfl) ?_
    refine lv_bipush (v := (-103)) hx hb dL_law_1246 (by decide) ?_
    refine lv_icmp_ne (tgt := 1266) hx hb dL_law_1248 (by decide) (fun z => False.elim (z rfl)) (fun _ => ?_)
    refine lv_aload_n hx hb dL_law_1251 rfl (lv_at hl 13 rfl) ?_
    refine lv_iload hx hb dL_law_1252 (lv_at hl 3 rfl) ?_
    refine t_state hstk X hI hw (rv0 (rd_state hI hr)) (rd0 (rd_state hI hr)) ml_RL_98 ⟨(Nat.le_of_ble_eq_true rfl), (Nat.le_of_ble_eq_true rfl)⟩ hl.1 (Nat.le_of_ble_eq_true rfl) dL_law_1254 (by show _ ≤ 600590; omega) (by show _ ≤ 7299698; omega) (fun H locs cells slots ec es hw => ?_)
    refine lv_iload hx hb dL_law_1257 (lv_at hl 1 rfl) ?_
    refine lv_icmp_ne (tgt := 1266) hx hb dL_law_1259 (by decide) (fun z => False.elim (z rfl)) (fun _ => ?_)
    refine lv_iconst (v := 1) hx hb dL_law_1262 (by decide) ?_
    refine lv_goto (tgt := 1267) hx hb dL_law_1263 (by decide) ?_
    refine lv_istore (lv' := [(7, .int 1), (16, .int (-103)), (15, .int (C 11 run 4)), (14, .int (nI v)), (13, .int (nI run)), (12, .int (nI f)), (11, .int (nI kd)), (8, .int (nI i)), (6, .int fd), (5, .int (nI (gRc C))), (4, .ref (bb 2)), (3, .ref (bb 1)), (2, .ref (bb 0)), (1, .ref a0), (0, .ref b)]) hx hb dL_law_1267 hl (by decide) rfl (fun ls hl => ?_)
    have hX : kX C (C) := kX.rf
    have hl2 := lv_sub hl [4, 7, 0, 8, 9, 10, 11, 12, 13, 14] rfl
    refine kk (C) (fd) _ _ _ _ _ (by omega) (by omega) (kJ.up (hJ) (by omega)) (hDr.x hX) (hEn.x hX) hw ?_
    exact hl2
end LC

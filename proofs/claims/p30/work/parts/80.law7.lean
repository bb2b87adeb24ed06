/-! ===== the law's loop ===== -/
section LC
variable {p : Program} {l : Launch} {e : Env} {s : State} {m : MethodId} {below : List Frame} {meth : Method} {c : Code} {Q : State → Prop} {G : gG} {A : Nat → Prop} {b a0 : Nat} {bb : Nat → Nat} {i run : Nat}
set_option maxHeartbeats 4000000 in
set_option maxRecDepth 100000 in
theorem law_d4 (hstk : l.stackTraces = false) {C : gCT} {H : Heap} {locs : List Loc} {cells slots v f kd : Nat} {fd : Int32} {ls : Array Slot} (X : gX p s m #[.ref b] c cL_law RL 22 G A) (hw : tW G A s.heap H locs C a0 bb) (hJ : kJ (11 * i) fd C) (hi : i < 60) (hDr : kDr C) (hEn : kEn1 C) (hf : f < 3) (hv : v < 2 ^ 31) (hc : cells ≤ 600000) (hs : slots ≤ 7290000) (hrr : run < gRc C ∨ gRc C = 0) (hkd : kd < 16) (hl : lv_has ls 22 [(14, .int (nI v)), (13, .int (nI run)), (12, .int (nI f)), (11, .int (nI kd)), (8, .int (nI i)), (7, .int 1), (6, .int fd), (5, .int (nI (gRc C))), (4, .ref (bb 2)), (3, .ref (bb 1)), (2, .ref (bb 0)), (1, .ref a0), (0, .ref b)]) (kk : lawJ p l e s m below meth c Q G A b a0 bb i run cells slots) : W p l e room_1 s m #[.ref b] below meth c H locs cells slots Q (F0 m 1186 ls []) := by
  have hx := X.1.1; have hb := X.1.2.1; have hown := X.1.2.2.2.1; have hts := X.1.2.2.2.2; have hI := hJ.1
  refine lv_iload hx hb dL_law_1186 (lv_at hl 7 rfl) ?_
  refine lv_if_le (tgt := 1269) hx hb dL_law_1188 (by decide) (fun h0 => ?_) (fun h0 => ?_)
  · exact kk C fd _ _ _ _ _ (by omega) (by omega) (hJ.up (by omega)) (hDr.x kX.rf) (hEn.x kX.rf) hw (lv_sub hl [1, 4, 5, 6, 7, 8, 9, 10, 11, 12] rfl)
  · have hr : run < gRc C := hrr.resolve_right (fun q => h0 (by rw [q]; decide))
    refine lv_iload hx hb dL_law_1191 (lv_at hl 0 rfl) ?_
    refine lv_iconst (v := 4) hx hb dL_law_1193 (by decide) ?_
    refine lv_irem hx hb dL_law_1194 (by decide) ?_
    rw [show ((nI v) - (nI v) / 4 * 4 : Int32) = nI (v % 4) from pk_rem hv (by decide) (by decide)]
    refine lv_if_ne (tgt := 1269) hx hb dL_law_1195 (by decide) (fun h4 => ?_) (fun h4 => ?_)
    · exact kk C fd _ _ _ _ _ (by omega) (by omega) (hJ.up (by omega)) (hDr.x kX.rf) (hEn.x kX.rf) hw (lv_sub hl [1, 4, 5, 6, 7, 8, 9, 10, 11, 12] rfl)
    · exact law_k15 hstk X hw hJ hi hDr hEn hf hv hc hs hr hl kk
set_option maxHeartbeats 4000000 in
set_option maxRecDepth 100000 in
theorem law_d3 (hstk : l.stackTraces = false) {C : gCT} {H : Heap} {locs : List Loc} {cells slots v f kd : Nat} {fd : Int32} {ls : Array Slot} (X : gX p s m #[.ref b] c cL_law RL 22 G A) (hw : tW G A s.heap H locs C a0 bb) (hJ : kJ (11 * i) fd C) (hi : i < 60) (hDr : kDr C) (hEn : kEn1 C) (hf : f < 3) (hv : v < 2 ^ 31) (hc : cells ≤ 600000) (hs : slots ≤ 7290000) (hrr : run < gRc C ∨ gRc C = 0) (hkd : kd < 16) (hl : lv_has ls 22 [(14, .int (nI v)), (13, .int (nI run)), (12, .int (nI f)), (11, .int (nI kd)), (8, .int (nI i)), (7, .int 1), (6, .int fd), (5, .int (nI (gRc C))), (4, .ref (bb 2)), (3, .ref (bb 1)), (2, .ref (bb 0)), (1, .ref a0), (0, .ref b)]) (kk : lawJ p l e s m below meth c Q G A b a0 bb i run cells slots) : W p l e room_1 s m #[.ref b] below meth c H locs cells slots Q (F0 m 1047 ls []) := by
  have hx := X.1.1; have hb := X.1.2.1; have hown := X.1.2.2.2.1; have hts := X.1.2.2.2.2; have hI := hJ.1
  refine lv_iload hx hb dL_law_1047 (lv_at hl 3 rfl) ?_
  refine lv_bipush (v := 15) hx hb dL_law_1049 (by decide) ?_
  refine lv_icmp_ge (tgt := 1186) hx hb dL_law_1051 (by decide) (fun h => ?_) (fun h => ?_)
  · exact law_d4 hstk X hw hJ hi hDr hEn hf hv hc hs hrr hkd hl kk
  · refine lv_iload hx hb dL_law_1054 (lv_at hl 7 rfl) ?_
    refine lv_if_le (tgt := 1186) hx hb dL_law_1056 (by decide) (fun h0 => ?_) (fun h0 => ?_)
    · exact law_d4 hstk X hw hJ hi hDr hEn hf hv hc hs hrr hkd hl kk
    · have hr : run < gRc C := hrr.resolve_right (fun q => h0 (by rw [q]; decide))
      exact law_k13 hstk X hw hJ hi hDr hEn hf hv hc hs hr hl kk
set_option maxHeartbeats 4000000 in
set_option maxRecDepth 100000 in
theorem law_d2 (hstk : l.stackTraces = false) {C : gCT} {H : Heap} {locs : List Loc} {cells slots v f kd : Nat} {fd : Int32} {ls : Array Slot} (X : gX p s m #[.ref b] c cL_law RL 22 G A) (hw : tW G A s.heap H locs C a0 bb) (hJ : kJ (11 * i) fd C) (hi : i < 60) (hDr : kDr C) (hEn : kEn1 C) (hf : f < 3) (hv : v < 2 ^ 31) (hc : cells ≤ 600000) (hs : slots ≤ 7290000) (hrr : run < gRc C ∨ gRc C = 0) (hkd : kd < 16) (hl : lv_has ls 22 [(14, .int (nI v)), (13, .int (nI run)), (12, .int (nI f)), (11, .int (nI kd)), (8, .int (nI i)), (7, .int 1), (6, .int fd), (5, .int (nI (gRc C))), (4, .ref (bb 2)), (3, .ref (bb 1)), (2, .ref (bb 0)), (1, .ref a0), (0, .ref b)]) (kk : lawJ p l e s m below meth c Q G A b a0 bb i run cells slots) : W p l e room_1 s m #[.ref b] below meth c H locs cells slots Q (F0 m 969 ls []) := by
  have hx := X.1.1; have hb := X.1.2.1; have hown := X.1.2.2.2.1; have hts := X.1.2.2.2.2; have hI := hJ.1
  refine lv_iload hx hb dL_law_969 (lv_at hl 3 rfl) ?_
  refine lv_bipush (v := 12) hx hb dL_law_971 (by decide) ?_
  refine lv_icmp_ne (tgt := 1047) hx hb dL_law_973 (by decide) (fun h => ?_) (fun h => ?_)
  · exact law_d3 hstk X hw hJ hi hDr hEn hf hv hc hs hrr hkd hl kk
  · refine lv_iload hx hb dL_law_976 (lv_at hl 7 rfl) ?_
    refine lv_if_le (tgt := 1047) hx hb dL_law_978 (by decide) (fun h0 => ?_) (fun h0 => ?_)
    · exact law_d3 hstk X hw hJ hi hDr hEn hf hv hc hs hrr hkd hl kk
    · have hr : run < gRc C := hrr.resolve_right (fun q => h0 (by rw [q]; decide))
      exact law_k12 hstk X hw hJ hi hDr hEn hf hv hc hs hr hl kk
set_option maxHeartbeats 4000000 in
set_option maxRecDepth 100000 in
theorem law_d1 (hstk : l.stackTraces = false) {C : gCT} {H : Heap} {locs : List Loc} {cells slots v f kd : Nat} {fd : Int32} {ls : Array Slot} (X : gX p s m #[.ref b] c cL_law RL 22 G A) (hw : tW G A s.heap H locs C a0 bb) (hJ : kJ (11 * i) fd C) (hi : i < 60) (hDr : kDr C) (hEn : kEn1 C) (hf : f < 3) (hv : v < 2 ^ 31) (hc : cells ≤ 600000) (hs : slots ≤ 7290000) (hrr : run < gRc C ∨ gRc C = 0) (hkd : kd < 16) (hl : lv_has ls 22 [(14, .int (nI v)), (13, .int (nI run)), (12, .int (nI f)), (11, .int (nI kd)), (8, .int (nI i)), (7, .int 1), (6, .int fd), (5, .int (nI (gRc C))), (4, .ref (bb 2)), (3, .ref (bb 1)), (2, .ref (bb 0)), (1, .ref a0), (0, .ref b)]) (kk : lawJ p l e s m below meth c Q G A b a0 bb i run cells slots) : W p l e room_1 s m #[.ref b] below meth c H locs cells slots Q (F0 m 805 ls []) := by
  have hx := X.1.1; have hb := X.1.2.1; have hown := X.1.2.2.2.1; have hts := X.1.2.2.2.2; have hI := hJ.1
  refine lv_iload hx hb dL_law_805 (lv_at hl 3 rfl) ?_
  refine lv_bipush (v := 12) hx hb dL_law_807 (by decide) ?_
  refine lv_icmp_ge (tgt := 969) hx hb dL_law_809 (by decide) (fun h => ?_) (fun h => ?_)
  · exact law_d2 hstk X hw hJ hi hDr hEn hf hv hc hs hrr hkd hl kk
  · refine lv_iload hx hb dL_law_812 (lv_at hl 7 rfl) ?_
    refine lv_if_le (tgt := 969) hx hb dL_law_814 (by decide) (fun h0 => ?_) (fun h0 => ?_)
    · exact law_d2 hstk X hw hJ hi hDr hEn hf hv hc hs hrr hkd hl kk
    · have hr : run < gRc C := hrr.resolve_right (fun q => h0 (by rw [q]; decide))
      exact law_k8 hstk X hw hJ hi hDr hEn hf hv hc hs hr hl kk
set_option maxHeartbeats 4000000 in
set_option maxRecDepth 100000 in
theorem law_d0 (hstk : l.stackTraces = false) {C : gCT} {H : Heap} {locs : List Loc} {cells slots v f kd : Nat} {fd : Int32} {ls : Array Slot} (X : gX p s m #[.ref b] c cL_law RL 22 G A) (hw : tW G A s.heap H locs C a0 bb) (hJ : kJ (11 * i) fd C) (hi : i < 60) (hDr : kDr C) (hEn : kEn1 C) (hf : f < 3) (hv : v < 2 ^ 31) (hc : cells ≤ 600000) (hs : slots ≤ 7290000) (hrr : run < gRc C ∨ gRc C = 0) (hkd : kd < 16) {L : Nat} {xs : Nat → Int32} (hL : L < 2 ^ 31) (hX : va_X b L xs s s.heap) (hbl : b < s.heap.size) (hbA : ¬ A b) (hl : lv_has ls 22 [(14, .int (nI v)), (13, .int (nI run)), (12, .int (nI f)), (11, .int (nI kd)), (8, .int (nI i)), (7, .int 1), (6, .int fd), (5, .int (nI (gRc C))), (4, .ref (bb 2)), (3, .ref (bb 1)), (2, .ref (bb 0)), (1, .ref a0), (0, .ref b)]) (kk : lawJ p l e s m below meth c Q G A b a0 bb i run cells slots) : W p l e room_1 s m #[.ref b] below meth c H locs cells slots Q (F0 m 110 ls []) := by
  have hx := X.1.1; have hb := X.1.2.1; have hown := X.1.2.2.2.1; have hts := X.1.2.2.2.2; have hI := hJ.1
  refine lv_iload hx hb dL_law_110 (lv_at hl 3 rfl) ?_
  refine lv_iconst (v := 2) hx hb dL_law_112 (by decide) ?_
  refine lv_icmp_ge (tgt := 480) hx hb dL_law_113 (by decide) (fun h => ?_) (fun h => ?_)
  · refine lv_iload hx hb dL_law_480 (lv_at hl 3 rfl) ?_
    refine lv_iconst (v := 2) hx hb dL_law_482 (by decide) ?_
    refine lv_icmp_ne (tgt := 546) hx hb dL_law_483 (by decide) (fun h => ?_) (fun h => ?_)
    · refine lv_iload hx hb dL_law_546 (lv_at hl 3 rfl) ?_
      refine lv_iconst (v := 3) hx hb dL_law_548 (by decide) ?_
      refine lv_icmp_ne (tgt := 592) hx hb dL_law_549 (by decide) (fun h => ?_) (fun h => ?_)
      · refine lv_iload hx hb dL_law_592 (lv_at hl 3 rfl) ?_
        refine lv_iconst (v := 4) hx hb dL_law_594 (by decide) ?_
        refine lv_icmp_ne (tgt := 649) hx hb dL_law_595 (by decide) (fun h => ?_) (fun h => ?_)
        · refine lv_iload hx hb dL_law_649 (lv_at hl 3 rfl) ?_
          refine lv_iconst (v := 5) hx hb dL_law_651 (by decide) ?_
          refine lv_icmp_ne (tgt := 697) hx hb dL_law_652 (by decide) (fun h => ?_) (fun h => ?_)
          · refine lv_iload hx hb dL_law_697 (lv_at hl 3 rfl) ?_
            refine lv_bipush (v := 8) hx hb dL_law_699 (by decide) ?_
            refine lv_icmp_ge (tgt := 805) hx hb dL_law_701 (by decide) (fun h => ?_) (fun h => ?_)
            · exact law_d1 hstk X hw hJ hi hDr hEn hf hv hc hs hrr hkd hl kk
            · exact law_k6 hstk X hw hJ hi hDr hEn hf hv hc hs hl kk
          · exact law_k5 hstk X hw hJ hi hDr hEn hf hv hc hs hl kk
        · exact law_k4 hstk X hw hJ hi hDr hEn hf hv hc hs hl kk
      · exact law_k3 hstk X hw hJ hi hDr hEn hf hv hc hs hl kk
    · exact law_k2 hstk X hw hJ hi hDr hEn hf hv hc hs hl kk
  · exact law_k0 hstk X hw hJ hi hDr hEn hf hv hc hs hL hX hbl hbA hl kk
def cB (i : Nat) : Nat := 300 + 1500 * i + 26400 * ((i + 5) / 6)
def sB (i : Nat) : Nat := 2000 + 13000 * i + 158400 * ((i + 5) / 6)
def fB (i run k : Nat) : Nat := if i % 6 = 0 then k else if run < k then 1 else 0
theorem fB_0 (i run : Nat) : fB i run 0 = 0 := by
  unfold fB
  split
  · rfl
  · rw [if_neg (Nat.not_lt_zero _)]
theorem fB_m (i run k : Nat) : fB i run k ≤ fB i run (k + 1) := by
  unfold fB
  by_cases h : i % 6 = 0
  · rw [if_pos h, if_pos h]; omega
  · rw [if_neg h, if_neg h]
    by_cases h2 : run < k
    · rw [if_pos h2, if_pos (by omega)]; exact Nat.le_refl _
    · rw [if_neg h2]; exact Nat.zero_le _
theorem fB_1 (i run k : Nat) (hk : k = run ∨ i % 6 = 0) : fB i run k + 1 ≤ fB i run (k + 1) := by
  unfold fB
  by_cases h : i % 6 = 0
  · rw [if_pos h, if_pos h]; exact Nat.le_refl _
  · rw [if_neg h, if_neg h, hk.resolve_right h, if_neg (Nat.lt_irrefl _), if_pos (Nat.lt_succ_self _)]; exact Nat.le_refl _
theorem fB_le (i run k : Nat) (h : k ≤ 24) : fB i run k ≤ 24 := by
  unfold fB
  split
  · exact h
  · split <;> omega
theorem fB_s (i run k : Nat) (h : k ≤ 24) : 1100 * fB i run k + 26400 * ((i + 5) / 6) ≤ 1100 + 26400 * ((i + 6) / 6) ∧ 6600 * fB i run k + 158400 * ((i + 5) / 6) ≤ 6600 + 158400 * ((i + 6) / 6) := by
  unfold fB
  by_cases h6 : i % 6 = 0
  · rw [if_pos h6]; omega
  · rw [if_neg h6]
    by_cases h2 : run < k
    · rw [if_pos h2]; omega
    · rw [if_neg h2]; omega
set_option maxHeartbeats 4000000 in
set_option maxRecDepth 100000 in
theorem law_t2 (hstk : l.stackTraces = false) {C : gCT} {H : Heap} {locs : List Loc} {cells slots zz f kd : Nat} {fd : Int32} {ls : Array Slot} (X : gX p s m #[.ref b] c cL_law RL 22 G A) (hw : tW G A s.heap H locs C a0 bb) (hJ : kJ (11 * i) fd C) (hi : i < 60) (hDr : kDr C) (hEn : kEn1 C) (hf : f < 3) (hz : zz < 2 ^ 31) (hrl : run < 2 ^ 31) (hc : cells ≤ cB i) (hs : slots ≤ sB i) (hrr : run < gRc C ∨ gRc C = 0) (hkd : kd < 16) {L : Nat} {xs : Nat → Int32} (hL : L < 2 ^ 31) (hX : va_X b L xs s s.heap) (hbl : b < s.heap.size) (hbA : ¬ A b) (hd : ∀ fd : Int32, hdK p l e s m below meth c Q G A b a0 bb (i + 1) (11 * (i + 1)) (cB (i + 1)) (sB (i + 1)) fd) (hl : lv_has ls 22 [(12, .int (nI f)), (11, .int (nI kd)), (10, .int (nI zz)), (8, .int (nI i)), (7, .int 1), (6, .int fd), (5, .int (nI (gRc C))), (4, .ref (bb 2)), (3, .ref (bb 1)), (2, .ref (bb 0)), (1, .ref a0), (0, .ref b)]) : W p l e room_1 s m #[.ref b] below meth c H locs cells slots Q (F0 m 101 ls [.int (nI run)]) := by
  have hx := X.1.1; have hb := X.1.2.1; have hI := hJ.1; have h24 := hI.1
  have hcB : cB i ≤ 360000 := by unfold cB; omega
  have hsB : sB i ≤ 2500000 := by unfold sB; omega
  refine lv_istore (lv' := [(13, .int (nI run)), (12, .int (nI f)), (11, .int (nI kd)), (10, .int (nI zz)), (8, .int (nI i)), (7, .int 1), (6, .int fd), (5, .int (nI (gRc C))), (4, .ref (bb 2)), (3, .ref (bb 1)), (2, .ref (bb 0)), (1, .ref a0), (0, .ref b)]) hx hb dL_law_101 hl (by decide) rfl (fun ls hl => ?_)
  refine lv_iload hx hb dL_law_103 (lv_at hl 3 rfl) ?_
  refine lv_bipush (v := 15) hx hb dL_law_105 (by decide) ?_
  refine lv_idiv hx hb dL_law_107 (by decide) ?_
  rw [show ((nI zz) / 15 : Int32) = nI (zz / 15) from pk_div hz (by decide) (by decide)]
  refine lv_istore (lv' := [(14, .int (nI (zz / 15))), (13, .int (nI run)), (12, .int (nI f)), (11, .int (nI kd)), (10, .int (nI zz)), (8, .int (nI i)), (7, .int 1), (6, .int fd), (5, .int (nI (gRc C))), (4, .ref (bb 2)), (3, .ref (bb 1)), (2, .ref (bb 0)), (1, .ref a0), (0, .ref b)]) hx hb dL_law_108 hl (by decide) rfl (fun ls hl => ?_)
  refine law_d0 hstk X hw hJ hi hDr hEn hf (show zz / 15 < 2 ^ 31 by omega) (by omega) (by omega) hrr hkd hL hX hbl hbA (lv_sub hl [0, 1, 2, 3, 5, 6, 7, 8, 9, 10, 11, 12, 13] rfl) ?_
  intro D fd1 H1 locs1 cells1 slots1 ls1 hc1 hs1 hJ1 hDr1 hEn1 hw1 hl1
  have h24D := hJ1.1.1
  obtain ⟨g1, g2⟩ := fB_s i run (gRc D) h24D
  have gM := fB_le i run (gRc D) h24D
  refine law_tail (F := fB i run) (rc := gRc D) hstk X hw1 hJ1 (by omega) hi hDr1 hEn1 rfl (fun k _ => fB_m i run k) (fun k _ hk => fB_1 i run k hk) (fun k hk => fB_le i run k (by omega)) (fB_0 i run) hrl (by omega) (by omega) ?_ hl1
  intro C2 H2 locs2 cells2 slots2 ls2 hc2 hs2 hJ2 hDr2 hEn2 hw2 hl2
  refine hd fd1 C2 H2 locs2 cells2 slots2 ls2 ?_ ?_ hJ2 hDr2 hEn2 hw2 hl2
  · unfold cB at hc ⊢; omega
  · unfold sB at hs ⊢; omega
set_option maxHeartbeats 4000000 in
set_option maxRecDepth 100000 in
theorem law_t1 (hstk : l.stackTraces = false) (X : gX p s m #[.ref b] c cL_law RL 22 G A) (hi : i < 60) {L : Nat} {xs : Nat → Int32} (hL : L < 2 ^ 31) (hX : va_X b L xs s s.heap) (hbl : b < s.heap.size) (hbA : ¬ A b) (hd : ∀ fd : Int32, hdK p l e s m below meth c Q G A b a0 bb (i + 1) (11 * (i + 1)) (cB (i + 1)) (sB (i + 1)) fd) (fd : Int32) : hdK p l e s m below meth c Q G A b a0 bb i (11 * i) (cB i) (sB i) fd := by
  intro C H locs cells slots ls hc hs hJ hDr hEn hw hl
  have hx := X.1.1; have hb := X.1.2.1; have hI := hJ.1; have h24 := hI.1
  have hcB : cB i ≤ 360000 := by unfold cB; omega
  have hsB : sB i ≤ 2500000 := by unfold sB; omega
  have hl : lv_has ls 22 [(8, .int (nI i)), (7, .int 1), (6, .int fd), (5, .int (nI (gRc C))), (4, .ref (bb 2)), (3, .ref (bb 1)), (2, .ref (bb 0)), (1, .ref a0), (0, .ref b)] := hl
  refine lv_iload hx hb dL_law_45 (lv_at hl 0 rfl) ?_
  refine lv_bipush (v := 60) hx hb dL_law_47 (by decide) ?_
  refine lv_icmp_ge (tgt := 1554) hx hb dL_law_49 (by decide) (fun z => False.elim (absurd ((nat_le (show (60 : Int32) = nI 60 from rfl) rfl (by decide) (by omega)).mp z) (by omega))) (fun _ => ?_)
  refine lv_iload hx hb dL_law_52 (lv_at hl 1 rfl) ?_
  refine lv_if_eq (tgt := 1554) hx hb dL_law_54 (by decide) (fun z => False.elim (absurd z (by decide))) (fun _ => ?_)
  refine lv_aload_n hx hb dL_law_57 rfl (lv_at hl 8 rfl) ?_
  refine lv_iload hx hb dL_law_58 (lv_at hl 0 rfl) ?_
  refine t_cell X hX hbl hbA hL (show i < 2 ^ 31 by omega) hw ml_RL_128 ⟨(Nat.le_of_ble_eq_true rfl), (Nat.le_of_ble_eq_true rfl)⟩ hl.1 (Nat.le_of_ble_eq_true rfl) dL_law_60 (by show _ ≤ 600590; omega) (by show _ ≤ 7299698; omega) (fun Y hY => ?_)
  refine lv_istore (lv' := [(9, .int (nI Y)), (8, .int (nI i)), (7, .int 1), (6, .int fd), (5, .int (nI (gRc C))), (4, .ref (bb 2)), (3, .ref (bb 1)), (2, .ref (bb 0)), (1, .ref a0), (0, .ref b)]) hx hb dL_law_63 hl (by decide) rfl (fun ls hl => ?_)
  refine lv_iload hx hb dL_law_65 (lv_at hl 0 rfl) ?_
  refine lv_bipush (v := 16) hx hb dL_law_67 (by decide) ?_
  refine lv_idiv hx hb dL_law_69 (by decide) ?_
  rw [show ((nI Y) / 16 : Int32) = nI (Y / 16) from pk_div hY (by decide) (by decide)]
  refine lv_istore (lv' := [(10, .int (nI (Y / 16))), (9, .int (nI Y)), (8, .int (nI i)), (7, .int 1), (6, .int fd), (5, .int (nI (gRc C))), (4, .ref (bb 2)), (3, .ref (bb 1)), (2, .ref (bb 0)), (1, .ref a0), (0, .ref b)]) hx hb dL_law_70 hl (by decide) rfl (fun ls hl => ?_)
  refine lv_iload hx hb dL_law_72 (lv_at hl 1 rfl) ?_
  refine lv_bipush (v := 16) hx hb dL_law_74 (by decide) ?_
  refine lv_irem hx hb dL_law_76 (by decide) ?_
  rw [show ((nI Y) - (nI Y) / 16 * 16 : Int32) = nI (Y % 16) from pk_rem hY (by decide) (by decide)]
  refine lv_istore (lv' := [(11, .int (nI (Y % 16))), (10, .int (nI (Y / 16))), (9, .int (nI Y)), (8, .int (nI i)), (7, .int 1), (6, .int fd), (5, .int (nI (gRc C))), (4, .ref (bb 2)), (3, .ref (bb 1)), (2, .ref (bb 0)), (1, .ref a0), (0, .ref b)]) hx hb dL_law_77 hl (by decide) rfl (fun ls hl => ?_)
  refine lv_iload hx hb dL_law_79 (lv_at hl 1 rfl) ?_
  refine lv_iconst (v := 5) hx hb dL_law_81 (by decide) ?_
  refine lv_idiv hx hb dL_law_82 (by decide) ?_
  rw [show ((nI (Y / 16)) / 5 : Int32) = nI (Y / 16 / 5) from pk_div (by omega) (by decide) (by decide)]
  refine lv_iconst (v := 3) hx hb dL_law_83 (by decide) ?_
  refine lv_irem hx hb dL_law_84 (by decide) ?_
  rw [show ((nI (Y / 16 / 5)) - (nI (Y / 16 / 5)) / 3 * 3 : Int32) = nI (Y / 16 / 5 % 3) from pk_rem (by omega) (by decide) (by decide)]
  refine lv_istore (lv' := [(12, .int (nI (Y / 16 / 5 % 3))), (11, .int (nI (Y % 16))), (10, .int (nI (Y / 16))), (9, .int (nI Y)), (8, .int (nI i)), (7, .int 1), (6, .int fd), (5, .int (nI (gRc C))), (4, .ref (bb 2)), (3, .ref (bb 1)), (2, .ref (bb 0)), (1, .ref a0), (0, .ref b)]) hx hb dL_law_85 hl (by decide) rfl (fun ls hl => ?_)
  refine lv_iload hx hb dL_law_87 (lv_at hl 7 rfl) ?_
  refine lv_if_ne (tgt := 96) hx hb dL_law_89 (by decide) (fun h0 => ?_) (fun h0 => ?_)
  · have hrc0 : 0 < gRc C := Nat.pos_of_ne_zero (fun q => h0 (by rw [q]; rfl))
    refine lv_iload hx hb dL_law_96 (lv_at hl 2 rfl) ?_
    refine lv_iload hx hb dL_law_98 (lv_at hl 7 rfl) ?_
    refine lv_irem hx hb dL_law_100 h0 ?_
    rw [show ((nI (Y / 16)) - (nI (Y / 16)) / (nI (gRc C)) * (nI (gRc C)) : Int32) = nI (Y / 16 % gRc C) from pk_rem (by omega) hrc0 (by omega)]
    have hrm : Y / 16 % gRc C < gRc C := Nat.mod_lt _ hrc0
    exact law_t2 hstk X hw hJ hi hDr hEn (show Y / 16 / 5 % 3 < 3 by omega) (show Y / 16 < 2 ^ 31 by omega) (by omega) hc hs (Or.inl hrm) (show Y % 16 < 16 by omega) hL hX hbl hbA hd (lv_sub hl [0, 1, 2, 4, 5, 6, 7, 8, 9, 10, 11, 12] rfl)
  · refine lv_iconst (v := 0) hx hb dL_law_92 (by decide) ?_
    refine lv_goto (tgt := 101) hx hb dL_law_93 (by decide) ?_
    have hrc0 : gRc C = 0 := (nI_eq (b := 0) (by omega) (by decide)).mp h0
    exact law_t2 hstk X hw hJ hi hDr hEn (show Y / 16 / 5 % 3 < 3 by omega) (show Y / 16 < 2 ^ 31 by omega) (show 0 < 2 ^ 31 by decide) hc hs (Or.inr hrc0) (show Y % 16 < 16 by omega) hL hX hbl hbA hd (lv_sub hl [0, 1, 2, 4, 5, 6, 7, 8, 9, 10, 11, 12] rfl)
set_option maxHeartbeats 4000000 in
set_option maxRecDepth 100000 in
theorem law_loop (hstk : l.stackTraces = false) (X : gX p s m #[.ref b] c cL_law RL 22 G A) {L : Nat} {xs : Nat → Int32} (hL : L < 2 ^ 31) (hX : va_X b L xs s s.heap) (hbl : b < s.heap.size) (hbA : ¬ A b) (hexit : ∀ (H : Heap) (locs : List Loc) (cells slots : Nat) (ls : Array Slot), va_S A s.heap H locs → cells ≤ 600590 → slots ≤ 7299698 → W p l e room_1 s m #[.ref b] below meth c H locs cells slots Q (F0 m 1556 ls [.int 1])) : ∀ (j i : Nat), i + j = 60 → ∀ fd : Int32, hdK p l e s m below meth c Q G A b a0 bb i (11 * i) (cB i) (sB i) fd := by
  have hx := X.1.1; have hb := X.1.2.1
  intro j
  induction j with
  | zero =>
    intro i hi fd C H locs cells slots ls hc hs hJ hDr hEn hw hl
    obtain rfl : i = 60 := by omega
    have hcB : cB 60 ≤ 360000 := by unfold cB; omega
    have hsB : sB 60 ≤ 2500000 := by unfold sB; omega
    have hl : lv_has ls 22 [(8, .int (nI 60)), (7, .int 1), (6, .int fd), (5, .int (nI (gRc C))), (4, .ref (bb 2)), (3, .ref (bb 1)), (2, .ref (bb 0)), (1, .ref a0), (0, .ref b)] := hl
    refine lv_iload hx hb dL_law_45 (lv_at hl 0 rfl) ?_
    refine lv_bipush (v := 60) hx hb dL_law_47 (by decide) ?_
    refine lv_icmp_ge (tgt := 1554) hx hb dL_law_49 (by decide) (fun _ => ?_) (fun z => False.elim (z (by decide)))
    refine lv_iload hx hb dL_law_1554 (lv_at hl 1 rfl) ?_
    obtain ⟨ad, -, -, hw⟩ := hw
    exact hexit _ _ _ _ _ hw.2 (by omega) (by omega)
  | succ j ih =>
    intro i hi fd
    exact law_t1 hstk X (by omega) hL hX hbl hbA (fun fd => ih (i + 1) (by omega) fd) fd
end LC

/-! ===== the law's checks: their loops ===== -/
section LC
variable {p : Program} {l : Launch} {e : Env} {s : State} {m : MethodId} {below : List Frame} {meth : Method} {c : Code} {Q : State → Prop} {G : gG} {A : Nat → Prop} {b a0 : Nat} {bb : Nat → Nat} {i run N cells0 slots0 rc : Nat} {fd : Int32} {F : Nat → Nat}
set_option maxHeartbeats 4000000 in
set_option maxRecDepth 100000 in
theorem law_end {C : gCT} {H : Heap} {locs : List Loc} {cells slots : Nat} {ls : Array Slot} {T S : Int32} (X : gX p s m #[.ref b] c cL_law RL 22 G A) (hw : tW G A s.heap H locs C a0 bb) (hJ : kJ N fd C) (hi : i < 60) (hDr : kDr C) (hR : gRc C = rc) (hc : cells ≤ 600000) (hs : slots ≤ 7290000) (hS : S = 0) (hT : T + sm (kE C) rc = dnC C) (hE : kEn C rc) {cm sm : Nat} (hcm : cells ≤ cm) (hsm : slots ≤ sm) (hd : hdK p l e s m below meth c Q G A b a0 bb (i + 1) N cm sm fd) (hl : lv_has ls 22 [(17, .int (nI rc)), (16, .int T), (15, .int S), (13, .int (nI run)), (8, .int (nI i)), (7, .int 1), (6, .int fd), (5, .int (nI rc)), (4, .ref (bb 2)), (3, .ref (bb 1)), (2, .ref (bb 0)), (1, .ref a0), (0, .ref b)]) : W p l e room_1 s m #[.ref b] below meth c H locs cells slots Q (F0 m 1397 ls []) := by
  have hx := X.1.1; have hb := X.1.2.1; have hI := hJ.1; have h24 := hI.1
  have hT0 : T = 0 := by
    have h6 := hJ.2.2.2.2.2
    unfold kD at h6
    unfold dnC at hT
    rw [h6, hR] at hT
    exact can_0 hT
  refine lv_iload hx hb dL_law_1397 (lv_at hl 0 rfl) ?_
  refine lv_iload hx hb dL_law_1399 (lv_at hl 7 rfl) ?_
  refine lv_icmp_ge (tgt := 1517) hx hb dL_law_1401 (by decide) (fun _ => ?_) (fun z => False.elim (z ((nat_le rfl rfl (by omega) (by omega)).mpr (Nat.le_refl _))))
  refine lv_iload hx hb dL_law_1517 (lv_at hl 5 rfl) ?_
  refine lv_if_eq (tgt := 1545) hx hb dL_law_1519 (by decide) (fun z => False.elim (absurd z (by decide))) (fun _ => ?_)
  refine lv_iload hx hb dL_law_1522 (lv_at hl 2 rfl) ?_
  refine lv_if_ne (tgt := 1545) hx hb dL_law_1524 (by decide) (fun z => False.elim (z hS)) (fun _ => ?_)
  refine lv_iload hx hb dL_law_1527 (lv_at hl 1 rfl) ?_
  refine lv_if_ne (tgt := 1545) hx hb dL_law_1529 (by decide) (fun z => False.elim (z hT0)) (fun _ => ?_)
  refine lv_aload_n hx hb dL_law_1532 rfl (lv_at hl 11 rfl) ?_
  refine t_runs X hI hw ml_RL_124 ⟨(Nat.le_of_ble_eq_true rfl), (Nat.le_of_ble_eq_true rfl)⟩ hl.1 (Nat.le_of_ble_eq_true rfl) dL_law_1533 (by show _ ≤ 600590; omega) (by show _ ≤ 7299698; omega) (fun H locs hw => ?_)
  refine lv_iload hx hb dL_law_1536 (lv_at hl 7 rfl) ?_
  refine lv_icmp_ne (tgt := 1545) hx hb dL_law_1538 (by decide) (fun z => False.elim (z (by rw [hR]))) (fun _ => ?_)
  refine lv_iconst (v := 1) hx hb dL_law_1541 (by decide) ?_
  refine lv_goto (tgt := 1546) hx hb dL_law_1542 (by decide) ?_
  refine lv_istore (lv' := [(7, .int 1), (17, .int (nI rc)), (16, .int T), (15, .int S), (13, .int (nI run)), (8, .int (nI i)), (6, .int fd), (5, .int (nI rc)), (4, .ref (bb 2)), (3, .ref (bb 1)), (2, .ref (bb 0)), (1, .ref a0), (0, .ref b)]) hx hb dL_law_1546 hl (by decide) rfl (fun ls hl => ?_)
  refine lv_iinc (v := nI (i + 1)) (lv' := [(8, .int (nI (i + 1))), (7, .int 1), (17, .int (nI rc)), (16, .int T), (15, .int S), (13, .int (nI run)), (6, .int fd), (5, .int (nI rc)), (4, .ref (bb 2)), (3, .ref (bb 1)), (2, .ref (bb 0)), (1, .ref a0), (0, .ref b)]) hx hb dL_law_1548 hl (k := 5) rfl (nI_1 i) (by decide) rfl (fun ls hl => ?_)
  refine lv_goto (tgt := 45) hx hb dL_law_1551 (by decide) ?_
  refine hd C _ _ _ _ _ hcm hsm hJ hDr (fun k hk => ?_) hw ?_
  · obtain ⟨g1, g2, g3⟩ := hE k hk
    exact ⟨fun q => g1 (by omega), g3⟩
  · rw [hR]; exact lv_sub hl [0, 1, 6, 7, 8, 9, 10, 11, 12] rfl
set_option maxHeartbeats 4000000 in
set_option maxRecDepth 100000 in
theorem law_runs (hstk : l.stackTraces = false) (X : gX p s m #[.ref b] c cL_law RL 22 G A) (hN : N ≤ 700) (hi : i < 60) (hrc : rc ≤ 24) (hF0 : ∀ k, k < rc → F k ≤ F (k + 1)) (hF1 : ∀ k, k < rc → (k = run ∨ i % 6 = 0) → F k + 1 ≤ F (k + 1)) (hFm : ∀ k, k ≤ rc → F k ≤ 24) (hrun : run < 2 ^ 31) (hc0 : cells0 ≤ 560000) (hs0 : slots0 ≤ 7000000) (hd : hdK p l e s m below meth c Q G A b a0 bb (i + 1) N (cells0 + 2 * rc + 1100 * F rc) (slots0 + 12 * rc + 6600 * F rc) fd) : ∀ (j k : Nat), k + j = rc → rnK p l e s m below meth c Q G A b a0 bb i run N cells0 slots0 rc fd F k := by
  intro j
  induction j with
  | zero =>
    intro k hk C H locs cells slots ls S T hc hs hJ hDr hE hR hS hT hw hl
    have hFk := hFm k (by omega)
    obtain rfl : k = rc := by omega
    exact law_end X hw hJ hi hDr hR (by omega) (by omega) hS hT hE hc hs hd hl
  | succ j ih =>
    intro k hk C H locs cells slots ls S T hc hs hJ hDr hE hR hS hT hw hl
    exact law_r1 hstk X hw hJ hN hi hDr hR (by omega) (hF0 k (by omega)) (hF1 k (by omega)) (hFm (k + 1) (by omega)) hc0 hs0 hc hs hrun hS hT hE (ih (k + 1) (by omega)) hl
set_option maxHeartbeats 4000000 in
set_option maxRecDepth 100000 in
theorem law_bud (hstk : l.stackTraces = false) (X : gX p s m #[.ref b] c cL_law RL 22 G A) {C : gCT} (hJ : kJ N fd C) (hN : N ≤ 700) (hc0 : cells0 ≤ 560000) (hs0 : slots0 ≤ 7000000) {S0 T : Int32} (hD : ∀ (H : Heap) (locs : List Loc) (cells slots : Nat) (ls : Array Slot) (S : Int32), cells ≤ cells0 + 16 → slots ≤ slots0 + 96 → S = S0 + sm (fun f => C 4 f 2) 4 → tW G A s.heap H locs C a0 bb → lv_has ls 22 [(17, .int 0), (16, .int T), (15, .int S), (13, .int (nI run)), (8, .int (nI i)), (7, .int 1), (6, .int fd), (5, .int (nI rc)), (4, .ref (bb 2)), (3, .ref (bb 1)), (2, .ref (bb 0)), (1, .ref a0), (0, .ref b)] → W p l e room_1 s m #[.ref b] below meth c H locs cells slots Q (F0 m 1397 ls [])) :
    ∀ (j k : Nat) (H : Heap) (locs : List Loc) (cells slots : Nat) (ls : Array Slot) (S : Int32), k + j = 4 → cells ≤ cells0 + 4 * k → slots ≤ slots0 + 24 * k → S = S0 + sm (fun f => C 4 f 2) k → tW G A s.heap H locs C a0 bb → lv_has ls 22 [(17, .int (nI k)), (16, .int T), (15, .int S), (13, .int (nI run)), (8, .int (nI i)), (7, .int 1), (6, .int fd), (5, .int (nI rc)), (4, .ref (bb 2)), (3, .ref (bb 1)), (2, .ref (bb 0)), (1, .ref a0), (0, .ref b)] → W p l e room_1 s m #[.ref b] below meth c H locs cells slots Q (F0 m 1350 ls []) := by
  have hx := X.1.1; have hb := X.1.2.1; have hI := hJ.1
  intro j
  induction j with
  | zero =>
    intro k H locs cells slots ls S hk hc hs hS hw hl
    obtain rfl : k = 4 := by omega
    refine lv_iload hx hb dL_law_1350 (lv_at hl 0 rfl) ?_
    refine lv_iconst (v := 4) hx hb dL_law_1352 (by decide) ?_
    refine lv_icmp_ge (tgt := 1394) hx hb dL_law_1353 (by decide) (fun _ => ?_) (fun z => False.elim (z (by decide)))
    refine lv_iconst (v := 0) hx hb dL_law_1394 (by decide) ?_
    refine lv_istore (lv' := [(17, .int 0), (16, .int T), (15, .int S), (13, .int (nI run)), (8, .int (nI i)), (7, .int 1), (6, .int fd), (5, .int (nI rc)), (4, .ref (bb 2)), (3, .ref (bb 1)), (2, .ref (bb 0)), (1, .ref a0), (0, .ref b)]) hx hb dL_law_1395 hl (by decide) rfl (fun ls hl => ?_)
    exact hD _ _ _ _ _ S (by omega) (by omega) hS hw (lv_sub hl [0, 1, 2, 3, 4, 5, 6, 7, 8, 9, 10, 11, 12] rfl)
  | succ j ih =>
    intro k H locs cells slots ls S hk hc hs hS hw hl
    obtain ⟨bu, hbu, ebu⟩ := hJ.2.2.2.2.1.2.1 k (by omega)
    have e1 : m_budget C (nI k) = (0, nI bu, C) := (rd_budget C (show k < 4 by omega)).trans (by rw [ebu])
    refine lv_iload hx hb dL_law_1350 (lv_at hl 0 rfl) ?_
    refine lv_iconst (v := 4) hx hb dL_law_1352 (by decide) ?_
    refine lv_icmp_ge (tgt := 1394) hx hb dL_law_1353 (by decide) (fun z => False.elim (absurd ((nat_le (show (4 : Int32) = nI 4 from rfl) rfl (by decide) (by omega)).mp z) (by omega))) (fun _ => ?_)
    refine lv_iload hx hb dL_law_1356 (lv_at hl 5 rfl) ?_
    refine lv_if_eq (tgt := 1394) hx hb dL_law_1358 (by decide) (fun z => False.elim (absurd z (by decide))) (fun _ => ?_)
    refine lv_aload_n hx hb dL_law_1361 rfl (lv_at hl 11 rfl) ?_
    refine lv_iload hx hb dL_law_1362 (lv_at hl 0 rfl) ?_
    refine t_budget hstk X hI hw (rv0 e1) (rd0 e1) ml_RL_167 ⟨(Nat.le_of_ble_eq_true rfl), (Nat.le_of_ble_eq_true rfl)⟩ hl.1 (Nat.le_of_ble_eq_true rfl) dL_law_1364 (by show _ ≤ 600590; omega) (by show _ ≤ 7299698; omega) (fun H locs cells slots ec es hw => ?_)
    refine lv_if_lt (tgt := 1374) hx hb dL_law_1367 (by decide) (fun z => False.elim (absurd z (nI_pos (by omega)))) (fun _ => ?_)
    refine lv_iconst (v := 1) hx hb dL_law_1370 (by decide) ?_
    refine lv_goto (tgt := 1375) hx hb dL_law_1371 (by decide) ?_
    refine lv_istore (lv' := [(7, .int 1), (17, .int (nI k)), (16, .int T), (15, .int S), (13, .int (nI run)), (8, .int (nI i)), (6, .int fd), (5, .int (nI rc)), (4, .ref (bb 2)), (3, .ref (bb 1)), (2, .ref (bb 0)), (1, .ref a0), (0, .ref b)]) hx hb dL_law_1375 hl (by decide) rfl (fun ls hl => ?_)
    refine lv_iload hx hb dL_law_1377 (lv_at hl 3 rfl) ?_
    refine lv_aload_n hx hb dL_law_1379 rfl (lv_at hl 11 rfl) ?_
    refine lv_iload hx hb dL_law_1380 (lv_at hl 1 rfl) ?_
    refine t_budget hstk X hI hw (rv0 e1) (rd0 e1) ml_RL_167 ⟨(Nat.le_of_ble_eq_true rfl), (Nat.le_of_ble_eq_true rfl)⟩ hl.1 (Nat.le_of_ble_eq_true rfl) dL_law_1382 (by show _ ≤ 600590; omega) (by show _ ≤ 7299698; omega) (fun H locs cells slots ec es hw => ?_)
    refine lv_iadd hx hb dL_law_1385 ?_
    refine lv_istore (lv' := [(15, .int (S + (nI bu))), (7, .int 1), (17, .int (nI k)), (16, .int T), (13, .int (nI run)), (8, .int (nI i)), (6, .int fd), (5, .int (nI rc)), (4, .ref (bb 2)), (3, .ref (bb 1)), (2, .ref (bb 0)), (1, .ref a0), (0, .ref b)]) hx hb dL_law_1386 hl (by decide) rfl (fun ls hl => ?_)
    refine lv_iinc (v := nI (k + 1)) (lv' := [(17, .int (nI (k + 1))), (15, .int (S + (nI bu))), (7, .int 1), (16, .int T), (13, .int (nI run)), (8, .int (nI i)), (6, .int fd), (5, .int (nI rc)), (4, .ref (bb 2)), (3, .ref (bb 1)), (2, .ref (bb 0)), (1, .ref a0), (0, .ref b)]) hx hb dL_law_1388 hl (k := 2) rfl (nI_1 k) (by decide) rfl (fun ls hl => ?_)
    refine lv_goto (tgt := 1350) hx hb dL_law_1391 (by decide) ?_
    exact ih (k + 1) _ _ _ _ _ (S + nI bu) (by omega) (by omega) (by omega) (by rw [hS, Int32.add_assoc, ← ebu]; rfl) hw (lv_sub hl [0, 3, 1, 4, 5, 2, 6, 7, 8, 9, 10, 11, 12] rfl)
set_option maxHeartbeats 4000000 in
set_option maxRecDepth 100000 in
theorem law_rew (hstk : l.stackTraces = false) (X : gX p s m #[.ref b] c cL_law RL 22 G A) {C : gCT} (hJ : kJ N fd C) (hN : N ≤ 700) (hc0 : cells0 ≤ 560000) (hs0 : slots0 ≤ 7000000) {S0 : Int32} (hD : ∀ (H : Heap) (locs : List Loc) (cells slots : Nat) (ls : Array Slot) (S T : Int32), cells ≤ cells0 + 64 → slots ≤ slots0 + 384 → S = S0 + sm (C 19 0) 16 → T = dnC C → tW G A s.heap H locs C a0 bb → lv_has ls 22 [(17, .int 0), (16, .int T), (15, .int S), (13, .int (nI run)), (8, .int (nI i)), (7, .int 1), (6, .int fd), (5, .int (nI rc)), (4, .ref (bb 2)), (3, .ref (bb 1)), (2, .ref (bb 0)), (1, .ref a0), (0, .ref b)] → W p l e room_1 s m #[.ref b] below meth c H locs cells slots Q (F0 m 1350 ls [])) :
    ∀ (j k : Nat) (H : Heap) (locs : List Loc) (cells slots : Nat) (ls : Array Slot) (S T : Int32), k + j = 16 → cells ≤ cells0 + 4 * k → slots ≤ slots0 + 24 * k → S = S0 + sm (C 19 0) k → T = sm (fun k => C 6 (k / 4) (k % 4)) k → tW G A s.heap H locs C a0 bb → lv_has ls 22 [(17, .int (nI k)), (16, .int T), (15, .int S), (13, .int (nI run)), (8, .int (nI i)), (7, .int 1), (6, .int fd), (5, .int (nI rc)), (4, .ref (bb 2)), (3, .ref (bb 1)), (2, .ref (bb 0)), (1, .ref a0), (0, .ref b)] → W p l e room_1 s m #[.ref b] below meth c H locs cells slots Q (F0 m 1285 ls []) := by
  have hx := X.1.1; have hb := X.1.2.1; have hI := hJ.1
  intro j
  induction j with
  | zero =>
    intro k H locs cells slots ls S T hk hc hs hS hT hw hl
    obtain rfl : k = 16 := by omega
    refine lv_iload hx hb dL_law_1285 (lv_at hl 0 rfl) ?_
    refine lv_bipush (v := 16) hx hb dL_law_1287 (by decide) ?_
    refine lv_icmp_ge (tgt := 1347) hx hb dL_law_1289 (by decide) (fun _ => ?_) (fun z => False.elim (z (by decide)))
    refine lv_iconst (v := 0) hx hb dL_law_1347 (by decide) ?_
    refine lv_istore (lv' := [(17, .int 0), (16, .int T), (15, .int S), (13, .int (nI run)), (8, .int (nI i)), (7, .int 1), (6, .int fd), (5, .int (nI rc)), (4, .ref (bb 2)), (3, .ref (bb 1)), (2, .ref (bb 0)), (1, .ref a0), (0, .ref b)]) hx hb dL_law_1348 hl (by decide) rfl (fun ls hl => ?_)
    exact hD _ _ _ _ _ S T (by omega) (by omega) hS hT hw (lv_sub hl [0, 1, 2, 3, 4, 5, 6, 7, 8, 9, 10, 11, 12] rfl)
  | succ j ih =>
    intro k H locs cells slots ls S T hk hc hs hS hT hw hl
    obtain ⟨bu, hbu, ebu⟩ := hJ.2.2.2.2.1.1 k (by omega)
    have e1 : m_reward C (nI k) = (0, nI bu, C) := (rd_reward C (show k < 16 by omega)).trans (by rw [ebu])
    refine lv_iload hx hb dL_law_1285 (lv_at hl 0 rfl) ?_
    refine lv_bipush (v := 16) hx hb dL_law_1287 (by decide) ?_
    refine lv_icmp_ge (tgt := 1347) hx hb dL_law_1289 (by decide) (fun z => False.elim (absurd ((nat_le (show (16 : Int32) = nI 16 from rfl) rfl (by decide) (by omega)).mp z) (by omega))) (fun _ => ?_)
    refine lv_iload hx hb dL_law_1292 (lv_at hl 5 rfl) ?_
    refine lv_if_eq (tgt := 1347) hx hb dL_law_1294 (by decide) (fun z => False.elim (absurd z (by decide))) (fun _ => ?_)
    refine lv_aload_n hx hb dL_law_1297 rfl (lv_at hl 11 rfl) ?_
    refine lv_iload hx hb dL_law_1298 (lv_at hl 0 rfl) ?_
    refine t_reward hstk X hI hw (rv0 e1) (rd0 e1) ml_RL_163 ⟨(Nat.le_of_ble_eq_true rfl), (Nat.le_of_ble_eq_true rfl)⟩ hl.1 (Nat.le_of_ble_eq_true rfl) dL_law_1300 (by show _ ≤ 600590; omega) (by show _ ≤ 7299698; omega) (fun H locs cells slots ec es hw => ?_)
    refine lv_if_lt (tgt := 1310) hx hb dL_law_1303 (by decide) (fun z => False.elim (absurd z (nI_pos (by omega)))) (fun _ => ?_)
    refine lv_iconst (v := 1) hx hb dL_law_1306 (by decide) ?_
    refine lv_goto (tgt := 1311) hx hb dL_law_1307 (by decide) ?_
    refine lv_istore (lv' := [(7, .int 1), (17, .int (nI k)), (16, .int T), (15, .int S), (13, .int (nI run)), (8, .int (nI i)), (6, .int fd), (5, .int (nI rc)), (4, .ref (bb 2)), (3, .ref (bb 1)), (2, .ref (bb 0)), (1, .ref a0), (0, .ref b)]) hx hb dL_law_1311 hl (by decide) rfl (fun ls hl => ?_)
    refine lv_iload hx hb dL_law_1313 (lv_at hl 3 rfl) ?_
    refine lv_aload_n hx hb dL_law_1315 rfl (lv_at hl 11 rfl) ?_
    refine lv_iload hx hb dL_law_1316 (lv_at hl 1 rfl) ?_
    refine t_reward hstk X hI hw (rv0 e1) (rd0 e1) ml_RL_163 ⟨(Nat.le_of_ble_eq_true rfl), (Nat.le_of_ble_eq_true rfl)⟩ hl.1 (Nat.le_of_ble_eq_true rfl) dL_law_1318 (by show _ ≤ 600590; omega) (by show _ ≤ 7299698; omega) (fun H locs cells slots ec es hw => ?_)
    refine lv_iadd hx hb dL_law_1321 ?_
    refine lv_istore (lv' := [(15, .int (S + (nI bu))), (7, .int 1), (17, .int (nI k)), (16, .int T), (13, .int (nI run)), (8, .int (nI i)), (6, .int fd), (5, .int (nI rc)), (4, .ref (bb 2)), (3, .ref (bb 1)), (2, .ref (bb 0)), (1, .ref a0), (0, .ref b)]) hx hb dL_law_1322 hl (by decide) rfl (fun ls hl => ?_)
    refine lv_iload hx hb dL_law_1324 (lv_at hl 3 rfl) ?_
    refine lv_aload_n hx hb dL_law_1326 rfl (lv_at hl 11 rfl) ?_
    refine lv_iload hx hb dL_law_1327 (lv_at hl 2 rfl) ?_
    refine lv_iconst (v := 4) hx hb dL_law_1329 (by decide) ?_
    refine lv_idiv hx hb dL_law_1330 (by decide) ?_
    rw [show ((nI k) / 4 : Int32) = nI (k / 4) from pk_div (by omega) (by decide) (by decide)]
    refine lv_iload hx hb dL_law_1331 (lv_at hl 2 rfl) ?_
    refine lv_iconst (v := 4) hx hb dL_law_1333 (by decide) ?_
    refine lv_irem hx hb dL_law_1334 (by decide) ?_
    rw [show ((nI k) - (nI k) / 4 * 4 : Int32) = nI (k % 4) from pk_rem (by omega) (by decide) (by decide)]
    refine t_done hstk X hI hw (rv0 (rd_done C (show k / 4 < 4 by omega) (show k % 4 < 4 by omega))) (rd0 (rd_done C (show k / 4 < 4 by omega) (show k % 4 < 4 by omega))) ml_RL_165 ⟨(Nat.le_of_ble_eq_true rfl), (Nat.le_of_ble_eq_true rfl)⟩ hl.1 (Nat.le_of_ble_eq_true rfl) dL_law_1335 (by show _ ≤ 600590; omega) (by show _ ≤ 7299698; omega) (fun H locs cells slots ec es hw => ?_)
    refine lv_iadd hx hb dL_law_1338 ?_
    refine lv_istore (lv' := [(16, .int (T + (C 6 (k / 4) (k % 4)))), (15, .int (S + (nI bu))), (7, .int 1), (17, .int (nI k)), (13, .int (nI run)), (8, .int (nI i)), (6, .int fd), (5, .int (nI rc)), (4, .ref (bb 2)), (3, .ref (bb 1)), (2, .ref (bb 0)), (1, .ref a0), (0, .ref b)]) hx hb dL_law_1339 hl (by decide) rfl (fun ls hl => ?_)
    refine lv_iinc (v := nI (k + 1)) (lv' := [(17, .int (nI (k + 1))), (16, .int (T + (C 6 (k / 4) (k % 4)))), (15, .int (S + (nI bu))), (7, .int 1), (13, .int (nI run)), (8, .int (nI i)), (6, .int fd), (5, .int (nI rc)), (4, .ref (bb 2)), (3, .ref (bb 1)), (2, .ref (bb 0)), (1, .ref a0), (0, .ref b)]) hx hb dL_law_1341 hl (k := 3) rfl (nI_1 k) (by decide) rfl (fun ls hl => ?_)
    refine lv_goto (tgt := 1285) hx hb dL_law_1344 (by decide) ?_
    exact ih (k + 1) _ _ _ _ _ (S + nI bu) (T + C 6 (k / 4) (k % 4)) (by omega) (by omega) (by omega) (by rw [hS, Int32.add_assoc, ← ebu]; rfl) (by rw [hT]; rfl) hw (lv_sub hl [0, 1, 2, 4, 5, 3, 6, 7, 8, 9, 10, 11, 12] rfl)
set_option maxHeartbeats 4000000 in
set_option maxRecDepth 100000 in
theorem law_tail (hstk : l.stackTraces = false) (X : gX p s m #[.ref b] c cL_law RL 22 G A) {C : gCT} {H : Heap} {locs : List Loc} {ls : Array Slot} (hw : tW G A s.heap H locs C a0 bb) (hJ : kJ N fd C) (hN : N ≤ 700) (hi : i < 60) (hDr : kDr C) (hEn : kEn0 C) (hR : gRc C = rc) (hF0 : ∀ k, k < rc → F k ≤ F (k + 1)) (hF1 : ∀ k, k < rc → (k = run ∨ i % 6 = 0) → F k + 1 ≤ F (k + 1)) (hFm : ∀ k, k ≤ rc → F k ≤ 24) (hF00 : F 0 = 0) (hrun : run < 2 ^ 31) (hc0 : cells0 ≤ 550000) (hs0 : slots0 ≤ 6900000) (hd : hdK p l e s m below meth c Q G A b a0 bb (i + 1) N (cells0 + 80 + 2 * rc + 1100 * F rc) (slots0 + 480 + 12 * rc + 6600 * F rc) fd) (hl : lv_has ls 22 [(13, .int (nI run)), (8, .int (nI i)), (7, .int 1), (6, .int fd), (5, .int (nI rc)), (4, .ref (bb 2)), (3, .ref (bb 1)), (2, .ref (bb 0)), (1, .ref a0), (0, .ref b)]) : W p l e room_1 s m #[.ref b] below meth c H locs cells0 slots0 Q (F0 m 1269 ls []) := by
  have hx := X.1.1; have hb := X.1.2.1; have hI := hJ.1; have h24 := hI.1
  refine lv_iload hx hb dL_law_1269 (lv_at hl 3 rfl) ?_
  refine lv_ineg hx hb dL_law_1271 ?_
  refine lv_aload_n hx hb dL_law_1272 rfl (lv_at hl 8 rfl) ?_
  refine t_repaid X hI hw ml_RL_160 ⟨(Nat.le_of_ble_eq_true rfl), (Nat.le_of_ble_eq_true rfl)⟩ hl.1 (Nat.le_of_ble_eq_true rfl) dL_law_1273 (by show _ ≤ 600590; omega) (by show _ ≤ 7299698; omega) (fun H locs hw => ?_)
  refine lv_isub hx hb dL_law_1276 ?_
  refine lv_istore (lv' := [(15, .int ((-fd) - (C 0 0 0))), (13, .int (nI run)), (8, .int (nI i)), (7, .int 1), (6, .int fd), (5, .int (nI rc)), (4, .ref (bb 2)), (3, .ref (bb 1)), (2, .ref (bb 0)), (1, .ref a0), (0, .ref b)]) hx hb dL_law_1277 hl (by decide) rfl (fun ls hl => ?_)
  refine lv_iconst (v := 0) hx hb dL_law_1279 (by decide) ?_
  refine lv_istore (lv' := [(16, .int 0), (15, .int ((-fd) - (C 0 0 0))), (13, .int (nI run)), (8, .int (nI i)), (7, .int 1), (6, .int fd), (5, .int (nI rc)), (4, .ref (bb 2)), (3, .ref (bb 1)), (2, .ref (bb 0)), (1, .ref a0), (0, .ref b)]) hx hb dL_law_1280 hl (by decide) rfl (fun ls hl => ?_)
  refine lv_iconst (v := 0) hx hb dL_law_1282 (by decide) ?_
  refine lv_istore (lv' := [(17, .int 0), (16, .int 0), (15, .int ((-fd) - (C 0 0 0))), (13, .int (nI run)), (8, .int (nI i)), (7, .int 1), (6, .int fd), (5, .int (nI rc)), (4, .ref (bb 2)), (3, .ref (bb 1)), (2, .ref (bb 0)), (1, .ref a0), (0, .ref b)]) hx hb dL_law_1283 hl (by decide) rfl (fun ls hl => ?_)
  refine law_rew (i := i) (run := run) (rc := rc) (S0 := -fd - C 0 0 0) hstk X hJ hN (show cells0 ≤ 560000 by omega) (show slots0 ≤ 7000000 by omega) ?_ 16 0 H locs cells0 slots0 ls _ _ rfl (by omega) (by omega) (Int32.add_zero _).symm rfl hw (lv_sub hl [0, 1, 2, 3, 4, 5, 6, 7, 8, 9, 10, 11, 12] rfl)
  intro H locs cells slots ls S T hc hs hS hT hw hl
  refine law_bud (i := i) (run := run) (rc := rc) (S0 := S) (T := T) hstk X hJ hN (show cells ≤ 560000 by omega) (show slots ≤ 7000000 by omega) ?_ 4 0 H locs cells slots ls _ rfl (by omega) (by omega) (Int32.add_zero _).symm hw hl
  intro H locs cells1 slots1 ls S2 hc1 hs1 hS2 hw hl
  refine law_runs (cells0 := cells0 + 80) (slots0 := slots0 + 480) (F := F) hstk X hN hi (by omega) hF0 hF1 hFm hrun (by omega) (by omega) hd rc 0 (Nat.zero_add _) C H locs cells1 slots1 ls S2 T (by rw [hF00]; omega) (by rw [hF00]; omega) hJ hDr ?_ hR ?_ (by rw [hT]; exact Int32.add_zero _) hw hl
  · intro k hk
    obtain ⟨g1, g2⟩ := hEn k hk
    exact ⟨fun q => absurd q (Nat.not_lt_zero _), fun _ => g1, g2⟩
  · rw [hS2, hS]; exact sum_0 hJ.2.2.2.2.1.2.2
end LC

/-! ===== the law's drafts ===== -/
theorem kJ22 {n : Nat} {fd : Int32} {C D : gCT} (e : ∀ κ, κ ≠ 22 → D κ = C κ) (h : kJ n fd C) : kJ n fd D := by
  obtain ⟨h1, h2, h3, h4, h5, h6⟩ := h
  have hx : gSx C D := ⟨e 2 (by decide), e 3 (by decide), fun g => by rw [e 4 (by decide)], fun s => by rw [e 11 (by decide)]; exact ⟨rfl, rfl⟩, e 14 (by decide)⟩
  exact ⟨hx.inv h1, kF_same (fun f => by rw [e 4 (by decide)]; exact ⟨rfl, rfl⟩) (e 5 (by decide)) (e 14 (by decide)) (e 15 (by decide)) (e 16 (by decide)) h2, kQ_same (e 17 (by decide)) (e 18 (by decide)) h3, kU_form h1 (fun κ hk => e κ (by omega)) (fun κ r hk _ => by rw [e κ (by omega)]) (fun f => by rw [e 4 (by decide)]) h4, kM_same (by rw [e 19 (by decide)]) (fun g => by rw [e 4 (by decide)]) (by rw [e 0 (by decide)]) h5, kD_same (by rw [e 2 (by decide)]) (e 6 (by decide)) (fun s _ => by rw [e 11 (by decide)]) h6⟩
theorem kEn1.s {C D : gCT} (h2 : D 2 24 1 = C 2 24 1) (h11 : D 11 = C 11) (h22 : D 22 2 = C 22 2) (h : kEn1 C) : kEn1 D := by
  have eR : gRc D = gRc C := by unfold gRc; rw [h2]
  unfold kEn1 at h ⊢
  rw [eR, h11, h22]; exact h
theorem kEn1.z {C : gCT} (h : kEn1 C) : kEn0 C := h.x kX.rf
/-- an instruction and an argument as the law draws them -/
def gOk (w : Nat) (a : Int32) : Prop := m_isWithin a (m_at gLeast 13 (nI w)) (m_at gMost 13 (nI w)) = 1 ∧ gFit (nI w) a
theorem gOk_0 {j : Nat} (h : j < 16) : gOk 0 (nI j) := ⟨isW_lo (b := 15) (by omega) (by decide), ⟨0, by decide, rfl⟩, fun _ => ⟨j, h, rfl⟩, fun e => absurd e (by decide), fun e => absurd e (by decide), fun e => absurd e (by decide), fun e => absurd e (by decide)⟩
theorem gOk_1 {j : Nat} (h : j < 199) : gOk 1 (nI j - 99) := by
  have : ∀ j : Nat, j < 199 → m_isWithin (nI j - 99) (m_at gLeast 13 (nI 1)) (m_at gMost 13 (nI 1)) = 1 ∧ -99 ≤ nI j - 99 ∧ nI j - 99 ≤ 99 := by decide +kernel
  obtain ⟨h1, h2⟩ := this j h
  exact ⟨h1, ⟨1, by decide, rfl⟩, fun e => absurd e (by decide), fun e => absurd e (by decide), fun e => absurd e (by decide), fun _ => h2, fun e => absurd e (by decide)⟩
theorem gOk_23 {w j : Nat} (hw : w = 2 ∨ w = 3) (h : j < 8) : gOk w (nI j) := by
  rcases hw with rfl | rfl
  · exact ⟨isW_lo (b := 7) (by omega) (by decide), ⟨2, by decide, rfl⟩, fun e => absurd e (by decide), fun _ => ⟨j, h, rfl⟩, fun e => absurd e (by decide), fun e => absurd e (by decide), fun e => absurd e (by decide)⟩
  · exact ⟨isW_lo (b := 7) (by omega) (by decide), ⟨3, by decide, rfl⟩, fun e => absurd e (by decide), fun _ => ⟨j, h, rfl⟩, fun e => absurd e (by decide), fun e => absurd e (by decide), fun e => absurd e (by decide)⟩
theorem gOk_89 {w j : Nat} (hw : w = 8 ∨ w = 9) (h : j < 25) : gOk w (nI j) := by
  rcases hw with rfl | rfl
  · exact ⟨isW_lo (b := 24) (by omega) (by decide), ⟨8, by decide, rfl⟩, fun e => absurd e (by decide), fun e => absurd e (by decide), fun _ => ⟨j, h, rfl⟩, fun e => absurd e (by decide), fun e => absurd e (by decide)⟩
  · exact ⟨isW_lo (b := 24) (by omega) (by decide), ⟨9, by decide, rfl⟩, fun e => absurd e (by decide), fun e => absurd e (by decide), fun _ => ⟨j, h, rfl⟩, fun e => absurd e (by decide), fun e => absurd e (by decide)⟩
theorem gOk_10 {j : Nat} (h : j < 501) : gOk 10 (nI j) := ⟨isW_lo (b := 500) (by omega) (by decide), ⟨10, by decide, rfl⟩, fun e => absurd e (by decide), fun e => absurd e (by decide), fun e => absurd e (by decide), fun e => absurd e (by decide), fun _ => ⟨j, h, rfl⟩⟩
theorem gOk_z {w : Nat} (hw : w = 4 ∨ w = 5 ∨ w = 6 ∨ w = 7 ∨ w = 11 ∨ w = 12) : gOk w 0 := by
  rcases hw with rfl | rfl | rfl | rfl | rfl | rfl
  · exact ⟨by decide, ⟨4, by decide, rfl⟩, fun e => absurd e (by decide), fun e => absurd e (by decide), fun e => absurd e (by decide), fun e => absurd e (by decide), fun e => absurd e (by decide)⟩
  · exact ⟨by decide, ⟨5, by decide, rfl⟩, fun e => absurd e (by decide), fun e => absurd e (by decide), fun e => absurd e (by decide), fun e => absurd e (by decide), fun e => absurd e (by decide)⟩
  · exact ⟨by decide, ⟨6, by decide, rfl⟩, fun e => absurd e (by decide), fun e => absurd e (by decide), fun e => absurd e (by decide), fun e => absurd e (by decide), fun e => absurd e (by decide)⟩
  · exact ⟨by decide, ⟨7, by decide, rfl⟩, fun e => absurd e (by decide), fun e => absurd e (by decide), fun e => absurd e (by decide), fun e => absurd e (by decide), fun e => absurd e (by decide)⟩
  · exact ⟨by decide, ⟨11, by decide, rfl⟩, fun e => absurd e (by decide), fun e => absurd e (by decide), fun e => absurd e (by decide), fun e => absurd e (by decide), fun e => absurd e (by decide)⟩
  · exact ⟨by decide, ⟨12, by decide, rfl⟩, fun e => absurd e (by decide), fun e => absurd e (by decide), fun e => absurd e (by decide), fun e => absurd e (by decide), fun e => absurd e (by decide)⟩
section LC
variable {p : Program} {l : Launch} {e : Env} {s : State} {m : MethodId} {below : List Frame} {meth : Method} {c : Code} {Q : State → Prop} {G : gG} {A : Nat → Prop} {b a0 : Nat} {bb : Nat → Nat} {i run : Nat}
/-- at the head of the loop of writes, k written -/
def wrK (p : Program) (l : Launch) (e : Env) (s : State) (m : MethodId) (below : List Frame) (meth : Method) (c : Code) (Q : State → Prop) (G : gG) (A : Nat → Prop) (b a0 : Nat) (bb : Nat → Nat) (i run many v f kd k cells0 slots0 : Nat) (fd : Int32) : Prop := ∀ (C : gCT) (H : Heap) (locs : List Loc) (cells slots : Nat) (ls : Array Slot), cells ≤ cells0 + 2 * k → slots ≤ slots0 + 12 * k → kJ (11 * i + k) fd C → kDr C → kEn1 C → tW G A s.heap H locs C a0 bb → lv_has ls 22 [(16, .int (nI k)), (15, .int (nI many)), (14, .int (nI v)), (13, .int (nI run)), (12, .int (nI f)), (11, .int (nI kd)), (8, .int (nI i)), (7, .int 1), (6, .int fd), (5, .int (nI (gRc C))), (4, .ref (bb 2)), (3, .ref (bb 1)), (2, .ref (bb 0)), (1, .ref a0), (0, .ref b)] → W p l e room_1 s m #[.ref b] below meth c H locs cells slots Q (F0 m 128 ls [])
set_option maxHeartbeats 4000000 in
set_option maxRecDepth 100000 in
theorem law_w3 (hstk : l.stackTraces = false) {C : gCT} {H : Heap} {locs : List Loc} {cells slots cells0 slots0 many v f kd k : Nat} {fd : Int32} {ls : Array Slot} (X : gX p s m #[.ref b] c cL_law RL 22 G A) (hw : tW G A s.heap H locs C a0 bb) (hJ : kJ (11 * i + k) fd C) (hi : i < 60) (hk : k ≤ 9) (hDr : kDr C) (hEn : kEn1 C) (hf : f < 3) (hv : v < 2 ^ 31) (hc0 : cells0 ≤ 600000) (hs0 : slots0 ≤ 7290000) (hc : cells ≤ cells0 + 2 * k) (hs : slots ≤ slots0 + 12 * k) {wh : Nat} {a : Int32} (hwh : wh < 13) (ho : gOk wh a) (kw : wrK p l e s m below meth c Q G A b a0 bb i run many v f kd (k + 1) cells0 slots0 fd) (hl : lv_has ls 22 [(19, .int (nI wh)), (16, .int (nI k)), (15, .int (nI many)), (14, .int (nI v)), (13, .int (nI run)), (12, .int (nI f)), (11, .int (nI kd)), (8, .int (nI i)), (7, .int 1), (6, .int fd), (5, .int (nI (gRc C))), (4, .ref (bb 2)), (3, .ref (bb 1)), (2, .ref (bb 0)), (1, .ref a0), (0, .ref b)]) : W p l e room_1 s m #[.ref b] below meth c H locs cells slots Q (F0 m 316 ls [.int a]) := by
  have hx := X.1.1; have hb := X.1.2.1; have hown := X.1.2.2.2.1; have hts := X.1.2.2.2.2; have hI := hJ.1
  have hvn := hI.vn (show f < 4 by omega)
  obtain ⟨j, hj24, ej⟩ := hvn.2.2
  have eDf : C 22 0 f = nI j := (hDr f (by omega)).1.trans ej
  have hkD : ∀ κ, κ ≠ 22 → ∀ x, cs C 22 0 f x κ = C κ := fun κ hk x => cs_k _ _ _ _ hk
  refine lv_istore (lv' := [(20, .int a), (19, .int (nI wh)), (16, .int (nI k)), (15, .int (nI many)), (14, .int (nI v)), (13, .int (nI run)), (12, .int (nI f)), (11, .int (nI kd)), (8, .int (nI i)), (7, .int 1), (6, .int fd), (5, .int (nI (gRc C))), (4, .ref (bb 2)), (3, .ref (bb 1)), (2, .ref (bb 0)), (1, .ref a0), (0, .ref b)]) hx hb dL_law_316 hl (by decide) rfl (fun ls hl => ?_)
  refine lv_aload_n hx hb dL_law_318 rfl (lv_at hl 15 rfl) ?_
  refine lv_iload hx hb dL_law_319 (lv_at hl 6 rfl) ?_
  refine lv_iload hx hb dL_law_321 (lv_at hl 1 rfl) ?_
  refine lv_iload hx hb dL_law_323 (lv_at hl 0 rfl) ?_
  by_cases c24 : j = 24
  · have e1 := f_full (C := C) (show f < 4 by omega) hwh ho.1 (by rw [ej, c24])
    refine t_write hstk X hI hw (rv3 e1) (rd3 e1) ml_RL_132 ⟨(Nat.le_of_ble_eq_true rfl), (Nat.le_of_ble_eq_true rfl)⟩ hl.1 (Nat.le_of_ble_eq_true rfl) dL_law_325 (by show _ ≤ 600590; omega) (by show _ ≤ 7299698; omega) (fun H locs cells slots ec es hw => ?_)
    refine lv_istore (lv' := [(21, .int (-103)), (20, .int a), (19, .int (nI wh)), (16, .int (nI k)), (15, .int (nI many)), (14, .int (nI v)), (13, .int (nI run)), (12, .int (nI f)), (11, .int (nI kd)), (8, .int (nI i)), (7, .int 1), (6, .int fd), (5, .int (nI (gRc C))), (4, .ref (bb 2)), (3, .ref (bb 1)), (2, .ref (bb 0)), (1, .ref a0), (0, .ref b)]) hx hb dL_law_328 hl (by decide) rfl (fun ls hl => ?_)
    refine lv_iload hx hb dL_law_330 (lv_at hl 0 rfl) ?_
    refine lv_aload_n hx hb dL_law_332 rfl (lv_at hl 15 rfl) ?_
    refine lv_iload hx hb dL_law_333 (lv_at hl 7 rfl) ?_
    refine t_ald X hw (k := 0) (i := f) (by decide) (show f < gLw 0 by show f < 4; omega) dL_law_335 ?_
    refine lv_bipush (v := 24) hx hb dL_law_336 (by decide) ?_
    refine lv_icmp_ne (tgt := 346) hx hb dL_law_338 (by decide) (fun z => False.elim (z (by rw [eDf, c24]; rfl))) (fun _ => ?_)
    refine lv_bipush (v := (-103)) hx hb dL_law_341 (by decide) ?_
    refine lv_goto (tgt := 352) hx hb dL_law_343 (by decide) ?_
    refine lv_icmp_ne (tgt := 359) hx hb dL_law_352 (by decide) (fun z => False.elim (z rfl)) (fun _ => ?_)
    refine lv_iconst (v := 1) hx hb dL_law_355 (by decide) ?_
    refine lv_goto (tgt := 360) hx hb dL_law_356 (by decide) ?_
    refine lv_istore (lv' := [(7, .int 1), (21, .int (-103)), (20, .int a), (19, .int (nI wh)), (16, .int (nI k)), (15, .int (nI many)), (14, .int (nI v)), (13, .int (nI run)), (12, .int (nI f)), (11, .int (nI kd)), (8, .int (nI i)), (6, .int fd), (5, .int (nI (gRc C))), (4, .ref (bb 2)), (3, .ref (bb 1)), (2, .ref (bb 0)), (1, .ref a0), (0, .ref b)]) hx hb dL_law_360 hl (by decide) rfl (fun ls hl => ?_)
    refine lv_aload_n hx hb dL_law_362 rfl (lv_at hl 15 rfl) ?_
    refine lv_iload hx hb dL_law_363 (lv_at hl 8 rfl) ?_
    refine lv_dup2_11 hx hb dL_law_365 rfl rfl ?_
    refine t_ald X hw (k := 0) (i := f) (by decide) (show f < gLw 0 by show f < 4; omega) dL_law_366 ?_
    refine lv_iload hx hb dL_law_367 (lv_at hl 1 rfl) ?_
    refine lv_if_le (tgt := 376) hx hb dL_law_369 (by decide) (fun _ => ?_) (fun z => False.elim (absurd (show (-103 : Int32) ≤ 0 by decide) z))
    refine lv_iconst (v := 0) hx hb dL_law_376 (by decide) ?_
    refine lv_iadd hx hb dL_law_377 ?_
    refine t_ast X hw (k := 0) (i := f) (by decide) (show f < gLw 0 by show _ < 4; omega) dL_law_378 (fun H locs hw => ?_)
    rw [Int32.add_zero] at hw
    have hl := lv_sub (l' := [(16, .int (nI k)), (15, .int (nI many)), (14, .int (nI v)), (13, .int (nI run)), (12, .int (nI f)), (11, .int (nI kd)), (8, .int (nI i)), (7, .int 1), (6, .int fd), (5, .int (nI (gRc C))), (4, .ref (bb 2)), (3, .ref (bb 1)), (2, .ref (bb 0)), (1, .ref a0), (0, .ref b)]) hl [4, 5, 6, 7, 8, 9, 10, 0, 11, 12, 13, 14, 15, 16, 17] rfl
    refine lv_iinc (v := nI (k + 1)) (lv' := [(16, .int (nI (k + 1))), (15, .int (nI many)), (14, .int (nI v)), (13, .int (nI run)), (12, .int (nI f)), (11, .int (nI kd)), (8, .int (nI i)), (7, .int 1), (6, .int fd), (5, .int (nI (gRc C))), (4, .ref (bb 2)), (3, .ref (bb 1)), (2, .ref (bb 0)), (1, .ref a0), (0, .ref b)]) hx hb dL_law_379 hl (k := 0) rfl (nI_1 k) (by decide) rfl (fun ls hl => ?_)
    refine lv_goto (tgt := 128) hx hb dL_law_382 (by decide) ?_
    have eId : cs C 22 0 f (C 22 0 f) = C := by funext κ n j; rw [cs_rd]; by_cases q : κ = 22 ∧ n = 0 ∧ j = f; (rw [if_pos q, q.1, q.2.1, q.2.2]); (rw [if_neg q])
    rw [eId] at hw
    exact kw C _ _ _ _ _ (by omega) (by omega) (hJ.up (by omega)) hDr hEn hw hl
  · have hj2 : j < 24 := by omega
    have e1 := f_write (show f < 4 by omega) hwh ho.1 ej hj2
    have hJ1 := j_write (show f < 4 by omega) hwh ho.1 ho.2 ej hj2 hJ
    have dk := fun κ => @wrD_k C (8 * f + gVn C f + 1) j wh a κ
    have dn := fun κ n => @wrD_n C (8 * f + gVn C f + 1) j wh a κ n
    obtain ⟨dd, -⟩ := wrD_d C (8 * f + gVn C f + 1) j wh a
    generalize wrD C (8 * f + gVn C f + 1) j wh a = D at *
    refine t_write hstk X hI hw (rv0 e1) (rd0 e1) ml_RL_132 ⟨(Nat.le_of_ble_eq_true rfl), (Nat.le_of_ble_eq_true rfl)⟩ hl.1 (Nat.le_of_ble_eq_true rfl) dL_law_325 (by show _ ≤ 600590; omega) (by show _ ≤ 7299698; omega) (fun H locs cells slots ec es hw => ?_)
    have e22 : D 22 0 f = nI j := by rw [dk 22 (by decide)]; exact eDf
    refine lv_istore (lv' := [(21, .int (nI (j + 1))), (20, .int a), (19, .int (nI wh)), (16, .int (nI k)), (15, .int (nI many)), (14, .int (nI v)), (13, .int (nI run)), (12, .int (nI f)), (11, .int (nI kd)), (8, .int (nI i)), (7, .int 1), (6, .int fd), (5, .int (nI (gRc C))), (4, .ref (bb 2)), (3, .ref (bb 1)), (2, .ref (bb 0)), (1, .ref a0), (0, .ref b)]) hx hb dL_law_328 hl (by decide) rfl (fun ls hl => ?_)
    refine lv_iload hx hb dL_law_330 (lv_at hl 0 rfl) ?_
    refine lv_aload_n hx hb dL_law_332 rfl (lv_at hl 15 rfl) ?_
    refine lv_iload hx hb dL_law_333 (lv_at hl 7 rfl) ?_
    refine t_ald X hw (k := 0) (i := f) (by decide) (show f < gLw 0 by show f < 4; omega) dL_law_335 ?_
    refine lv_bipush (v := 24) hx hb dL_law_336 (by decide) ?_
    refine lv_icmp_ne (tgt := 346) hx hb dL_law_338 (by decide) (fun _ => ?_) (fun z => False.elim (by rw [e22] at z; exact c24 ((nI_eq (by omega) (by decide)).mp (z.trans (show (24 : Int32) = nI 24 from rfl)))))
    refine lv_aload_n hx hb dL_law_346 rfl (lv_at hl 15 rfl) ?_
    refine lv_iload hx hb dL_law_347 (lv_at hl 7 rfl) ?_
    refine t_ald X hw (k := 0) (i := f) (by decide) (show f < gLw 0 by show f < 4; omega) dL_law_349 ?_
    refine lv_iconst (v := 1) hx hb dL_law_350 (by decide) ?_
    refine lv_iadd hx hb dL_law_351 ?_
    refine lv_icmp_ne (tgt := 359) hx hb dL_law_352 (by decide) (fun z => False.elim (z (by rw [e22, nI_1]))) (fun _ => ?_)
    refine lv_iconst (v := 1) hx hb dL_law_355 (by decide) ?_
    refine lv_goto (tgt := 360) hx hb dL_law_356 (by decide) ?_
    refine lv_istore (lv' := [(7, .int 1), (21, .int (nI (j + 1))), (20, .int a), (19, .int (nI wh)), (16, .int (nI k)), (15, .int (nI many)), (14, .int (nI v)), (13, .int (nI run)), (12, .int (nI f)), (11, .int (nI kd)), (8, .int (nI i)), (6, .int fd), (5, .int (nI (gRc C))), (4, .ref (bb 2)), (3, .ref (bb 1)), (2, .ref (bb 0)), (1, .ref a0), (0, .ref b)]) hx hb dL_law_360 hl (by decide) rfl (fun ls hl => ?_)
    refine lv_aload_n hx hb dL_law_362 rfl (lv_at hl 15 rfl) ?_
    refine lv_iload hx hb dL_law_363 (lv_at hl 8 rfl) ?_
    refine lv_dup2_11 hx hb dL_law_365 rfl rfl ?_
    refine t_ald X hw (k := 0) (i := f) (by decide) (show f < gLw 0 by show f < 4; omega) dL_law_366 ?_
    refine lv_iload hx hb dL_law_367 (lv_at hl 1 rfl) ?_
    refine lv_if_le (tgt := 376) hx hb dL_law_369 (by decide) (fun z => False.elim (absurd z (nI_nle (by omega) (by omega)))) (fun _ => ?_)
    refine lv_iconst (v := 1) hx hb dL_law_372 (by decide) ?_
    refine lv_goto (tgt := 377) hx hb dL_law_373 (by decide) ?_
    refine lv_iadd hx hb dL_law_377 ?_
    refine t_ast X hw (k := 0) (i := f) (by decide) (show f < gLw 0 by show _ < 4; omega) dL_law_378 (fun H locs hw => ?_)
    rw [e22, nI_1] at hw
    have hl := lv_sub (l' := [(16, .int (nI k)), (15, .int (nI many)), (14, .int (nI v)), (13, .int (nI run)), (12, .int (nI f)), (11, .int (nI kd)), (8, .int (nI i)), (7, .int 1), (6, .int fd), (5, .int (nI (gRc C))), (4, .ref (bb 2)), (3, .ref (bb 1)), (2, .ref (bb 0)), (1, .ref a0), (0, .ref b)]) hl [4, 5, 6, 7, 8, 9, 10, 0, 11, 12, 13, 14, 15, 16, 17] rfl
    refine lv_iinc (v := nI (k + 1)) (lv' := [(16, .int (nI (k + 1))), (15, .int (nI many)), (14, .int (nI v)), (13, .int (nI run)), (12, .int (nI f)), (11, .int (nI kd)), (8, .int (nI i)), (7, .int 1), (6, .int fd), (5, .int (nI (gRc C))), (4, .ref (bb 2)), (3, .ref (bb 1)), (2, .ref (bb 0)), (1, .ref a0), (0, .ref b)]) hx hb dL_law_379 hl (k := 0) rfl (nI_1 k) (by decide) rfl (fun ls hl => ?_)
    refine lv_goto (tgt := 128) hx hb dL_law_382 (by decide) ?_
    have kk2 : ∀ κ, κ ≠ 22 → cs D 22 0 f (nI (j + 1)) κ = D κ := fun κ hk => cs_k _ _ _ _ hk
    have eR : gRc (cs D 22 0 f (nI (j + 1))) = gRc C := by unfold gRc; rw [kk2 2 (by decide), dk 2 (by decide)]
    refine kw (cs D 22 0 f (nI (j + 1))) _ _ _ _ _ (by omega) (by omega) (kJ22 kk2 hJ1) ?_ (hEn.s (by rw [kk2 2 (by decide), dk 2 (by decide)]) (by rw [kk2 11 (by decide), dk 11 (by decide)]) (by rw [cs_n _ _ _ _ (by decide), dk 22 (by decide)])) hw (by rw [eR]; exact hl)
    have eV : gVn (cs D 22 0 f (nI (j + 1))) = gVn C := by funext g; unfold gVn; rw [kk2 4 (by decide), dk 4 (by decide)]
    intro g hg
    rw [eV, kk2 14 (by decide), kk2 4 (by decide), dk 4 (by decide)]
    refine ⟨?_, by rw [cs_n _ _ _ _ (by decide), dk 22 (by decide)]; exact (hDr g hg).2⟩
    by_cases eg : g = f
    · rw [eg, cs_s, dd]
    · have hvg := (hI.vn hg).1
      have hvf := hvn.1
      rw [cs_o _ _ _ _ eg, dk 22 (by decide), dn 14 _ (show 8 * g + gVn C g + 1 ≠ 8 * f + gVn C f + 1 by omega)]; exact (hDr g hg).1
set_option maxHeartbeats 4000000 in
set_option maxRecDepth 100000 in
theorem law_w2 (hstk : l.stackTraces = false) {C : gCT} {H : Heap} {locs : List Loc} {cells slots cells0 slots0 many v f kd k : Nat} {fd : Int32} {ls : Array Slot} (X : gX p s m #[.ref b] c cL_law RL 22 G A) (hw : tW G A s.heap H locs C a0 bb) (hJ : kJ (11 * i + k) fd C) (hi : i < 60) (hk : k ≤ 9) (hDr : kDr C) (hEn : kEn1 C) (hf : f < 3) (hv : v < 2 ^ 31) (hc0 : cells0 ≤ 600000) (hs0 : slots0 ≤ 7290000) (hc : cells ≤ cells0 + 2 * k) (hs : slots ≤ slots0 + 12 * k) {wh ww : Nat} (hwh : wh < 13) (hww : ww < 2 ^ 31) (kw : wrK p l e s m below meth c Q G A b a0 bb i run many v f kd (k + 1) cells0 slots0 fd) (hl : lv_has ls 22 [(17, .int (nI ww)), (16, .int (nI k)), (15, .int (nI many)), (14, .int (nI v)), (13, .int (nI run)), (12, .int (nI f)), (11, .int (nI kd)), (8, .int (nI i)), (7, .int 1), (6, .int fd), (5, .int (nI (gRc C))), (4, .ref (bb 2)), (3, .ref (bb 1)), (2, .ref (bb 0)), (1, .ref a0), (0, .ref b)]) : W p l e room_1 s m #[.ref b] below meth c H locs cells slots Q (F0 m 209 ls [.int (nI wh)]) := by
  have hx := X.1.1; have hb := X.1.2.1; have hown := X.1.2.2.2.1; have hts := X.1.2.2.2.2; have hI := hJ.1
  refine lv_istore (lv' := [(19, .int (nI wh)), (17, .int (nI ww)), (16, .int (nI k)), (15, .int (nI many)), (14, .int (nI v)), (13, .int (nI run)), (12, .int (nI f)), (11, .int (nI kd)), (8, .int (nI i)), (7, .int 1), (6, .int fd), (5, .int (nI (gRc C))), (4, .ref (bb 2)), (3, .ref (bb 1)), (2, .ref (bb 0)), (1, .ref a0), (0, .ref b)]) hx hb dL_law_209 hl (by decide) rfl (fun ls hl => ?_)
  refine lv_iload hx hb dL_law_211 (lv_at hl 0 rfl) ?_
  have hcase : wh = 0 ∨ wh = 1 ∨ wh = 2 ∨ wh = 3 ∨ wh = 4 ∨ wh = 5 ∨ wh = 6 ∨ wh = 7 ∨ wh = 8 ∨ wh = 9 ∨ wh = 10 ∨ wh = 11 ∨ wh = 12 := by omega
  rcases hcase with rfl | rfl | rfl | rfl | rfl | rfl | rfl | rfl | rfl | rfl | rfl | rfl | rfl
  · refine lv_if_ne (tgt := 227) hx hb dL_law_213 (by decide) (fun z => False.elim (z (by decide))) (fun _ => ?_)
    refine lv_iload hx hb dL_law_216 (lv_at hl 1 rfl) ?_
    refine lv_bipush (v := 20) hx hb dL_law_218 (by decide) ?_
    refine lv_idiv hx hb dL_law_220 (by decide) ?_
    rw [show ((nI ww) / 20 : Int32) = nI (ww / 20) from pk_div hww (by decide) (by decide)]
    refine lv_bipush (v := 16) hx hb dL_law_221 (by decide) ?_
    refine lv_irem hx hb dL_law_223 (by decide) ?_
    rw [show ((nI (ww / 20)) - (nI (ww / 20)) / 16 * 16 : Int32) = nI (ww / 20 % 16) from pk_rem (by omega) (by decide) (by decide)]
    refine lv_goto (tgt := 316) hx hb dL_law_224 (by decide) ?_
    exact law_w3 hstk X hw hJ hi hk hDr hEn hf hv hc0 hs0 hc hs (by decide) (gOk_0 (show ww / 20 % 16 < 16 by omega)) kw (lv_sub hl [0, 2, 3, 4, 5, 6, 7, 8, 9, 10, 11, 12, 13, 14, 15, 16] rfl)
  · refine lv_if_ne (tgt := 227) hx hb dL_law_213 (by decide) (fun _ => ?_) (fun z => False.elim (absurd z (by decide)))
    refine lv_iload hx hb dL_law_227 (lv_at hl 0 rfl) ?_
    refine lv_iconst (v := 1) hx hb dL_law_229 (by decide) ?_
    refine lv_icmp_ne (tgt := 248) hx hb dL_law_230 (by decide) (fun z => False.elim (z (by decide))) (fun _ => ?_)
    refine lv_iload hx hb dL_law_233 (lv_at hl 1 rfl) ?_
    refine lv_bipush (v := 20) hx hb dL_law_235 (by decide) ?_
    refine lv_idiv hx hb dL_law_237 (by decide) ?_
    rw [show ((nI ww) / 20 : Int32) = nI (ww / 20) from pk_div hww (by decide) (by decide)]
    refine lv_sipush (v := 199) hx hb dL_law_238 (by decide) ?_
    refine lv_irem hx hb dL_law_241 (by decide) ?_
    rw [show ((nI (ww / 20)) - (nI (ww / 20)) / 199 * 199 : Int32) = nI (ww / 20 % 199) from pk_rem (by omega) (by decide) (by decide)]
    refine lv_bipush (v := 99) hx hb dL_law_242 (by decide) ?_
    refine lv_isub hx hb dL_law_244 ?_
    refine lv_goto (tgt := 316) hx hb dL_law_245 (by decide) ?_
    exact law_w3 hstk X hw hJ hi hk hDr hEn hf hv hc0 hs0 hc hs (by decide) (gOk_1 (show ww / 20 % 199 < 199 by omega)) kw (lv_sub hl [0, 2, 3, 4, 5, 6, 7, 8, 9, 10, 11, 12, 13, 14, 15, 16] rfl)
  · refine lv_if_ne (tgt := 227) hx hb dL_law_213 (by decide) (fun _ => ?_) (fun z => False.elim (absurd z (by decide)))
    refine lv_iload hx hb dL_law_227 (lv_at hl 0 rfl) ?_
    refine lv_iconst (v := 1) hx hb dL_law_229 (by decide) ?_
    refine lv_icmp_ne (tgt := 248) hx hb dL_law_230 (by decide) (fun _ => ?_) (fun z => False.elim (absurd z (by decide)))
    refine lv_iload hx hb dL_law_248 (lv_at hl 0 rfl) ?_
    refine lv_iconst (v := 2) hx hb dL_law_250 (by decide) ?_
    refine lv_icmp_eq (tgt := 260) hx hb dL_law_251 (by decide) (fun _ => ?_) (fun z => False.elim (z (by decide)))
    refine lv_iload hx hb dL_law_260 (lv_at hl 1 rfl) ?_
    refine lv_bipush (v := 20) hx hb dL_law_262 (by decide) ?_
    refine lv_idiv hx hb dL_law_264 (by decide) ?_
    rw [show ((nI ww) / 20 : Int32) = nI (ww / 20) from pk_div hww (by decide) (by decide)]
    refine lv_bipush (v := 8) hx hb dL_law_265 (by decide) ?_
    refine lv_irem hx hb dL_law_267 (by decide) ?_
    rw [show ((nI (ww / 20)) - (nI (ww / 20)) / 8 * 8 : Int32) = nI (ww / 20 % 8) from pk_rem (by omega) (by decide) (by decide)]
    refine lv_goto (tgt := 316) hx hb dL_law_268 (by decide) ?_
    exact law_w3 hstk X hw hJ hi hk hDr hEn hf hv hc0 hs0 hc hs (by decide) (gOk_23 (Or.inl rfl) (show ww / 20 % 8 < 8 by omega)) kw (lv_sub hl [0, 2, 3, 4, 5, 6, 7, 8, 9, 10, 11, 12, 13, 14, 15, 16] rfl)
  · refine lv_if_ne (tgt := 227) hx hb dL_law_213 (by decide) (fun _ => ?_) (fun z => False.elim (absurd z (by decide)))
    refine lv_iload hx hb dL_law_227 (lv_at hl 0 rfl) ?_
    refine lv_iconst (v := 1) hx hb dL_law_229 (by decide) ?_
    refine lv_icmp_ne (tgt := 248) hx hb dL_law_230 (by decide) (fun _ => ?_) (fun z => False.elim (absurd z (by decide)))
    refine lv_iload hx hb dL_law_248 (lv_at hl 0 rfl) ?_
    refine lv_iconst (v := 2) hx hb dL_law_250 (by decide) ?_
    refine lv_icmp_eq (tgt := 260) hx hb dL_law_251 (by decide) (fun z => False.elim (absurd z (by decide))) (fun _ => ?_)
    refine lv_iload hx hb dL_law_254 (lv_at hl 0 rfl) ?_
    refine lv_iconst (v := 3) hx hb dL_law_256 (by decide) ?_
    refine lv_icmp_ne (tgt := 271) hx hb dL_law_257 (by decide) (fun z => False.elim (z (by decide))) (fun _ => ?_)
    refine lv_iload hx hb dL_law_260 (lv_at hl 1 rfl) ?_
    refine lv_bipush (v := 20) hx hb dL_law_262 (by decide) ?_
    refine lv_idiv hx hb dL_law_264 (by decide) ?_
    rw [show ((nI ww) / 20 : Int32) = nI (ww / 20) from pk_div hww (by decide) (by decide)]
    refine lv_bipush (v := 8) hx hb dL_law_265 (by decide) ?_
    refine lv_irem hx hb dL_law_267 (by decide) ?_
    rw [show ((nI (ww / 20)) - (nI (ww / 20)) / 8 * 8 : Int32) = nI (ww / 20 % 8) from pk_rem (by omega) (by decide) (by decide)]
    refine lv_goto (tgt := 316) hx hb dL_law_268 (by decide) ?_
    exact law_w3 hstk X hw hJ hi hk hDr hEn hf hv hc0 hs0 hc hs (by decide) (gOk_23 (Or.inr rfl) (show ww / 20 % 8 < 8 by omega)) kw (lv_sub hl [0, 2, 3, 4, 5, 6, 7, 8, 9, 10, 11, 12, 13, 14, 15, 16] rfl)
  · refine lv_if_ne (tgt := 227) hx hb dL_law_213 (by decide) (fun _ => ?_) (fun z => False.elim (absurd z (by decide)))
    refine lv_iload hx hb dL_law_227 (lv_at hl 0 rfl) ?_
    refine lv_iconst (v := 1) hx hb dL_law_229 (by decide) ?_
    refine lv_icmp_ne (tgt := 248) hx hb dL_law_230 (by decide) (fun _ => ?_) (fun z => False.elim (absurd z (by decide)))
    refine lv_iload hx hb dL_law_248 (lv_at hl 0 rfl) ?_
    refine lv_iconst (v := 2) hx hb dL_law_250 (by decide) ?_
    refine lv_icmp_eq (tgt := 260) hx hb dL_law_251 (by decide) (fun z => False.elim (absurd z (by decide))) (fun _ => ?_)
    refine lv_iload hx hb dL_law_254 (lv_at hl 0 rfl) ?_
    refine lv_iconst (v := 3) hx hb dL_law_256 (by decide) ?_
    refine lv_icmp_ne (tgt := 271) hx hb dL_law_257 (by decide) (fun _ => ?_) (fun z => False.elim (absurd z (by decide)))
    refine lv_iload hx hb dL_law_271 (lv_at hl 0 rfl) ?_
    refine lv_bipush (v := 8) hx hb dL_law_273 (by decide) ?_
    refine lv_icmp_eq (tgt := 285) hx hb dL_law_275 (by decide) (fun z => False.elim (absurd z (by decide))) (fun _ => ?_)
    refine lv_iload hx hb dL_law_278 (lv_at hl 0 rfl) ?_
    refine lv_bipush (v := 9) hx hb dL_law_280 (by decide) ?_
    refine lv_icmp_ne (tgt := 296) hx hb dL_law_282 (by decide) (fun _ => ?_) (fun z => False.elim (absurd z (by decide)))
    refine lv_iload hx hb dL_law_296 (lv_at hl 0 rfl) ?_
    refine lv_bipush (v := 10) hx hb dL_law_298 (by decide) ?_
    refine lv_icmp_ne (tgt := 315) hx hb dL_law_300 (by decide) (fun _ => ?_) (fun z => False.elim (absurd z (by decide)))
    refine lv_iconst (v := 0) hx hb dL_law_315 (by decide) ?_
    exact law_w3 hstk X hw hJ hi hk hDr hEn hf hv hc0 hs0 hc hs (by decide) (gOk_z (by decide)) kw (lv_sub hl [0, 2, 3, 4, 5, 6, 7, 8, 9, 10, 11, 12, 13, 14, 15, 16] rfl)
  · refine lv_if_ne (tgt := 227) hx hb dL_law_213 (by decide) (fun _ => ?_) (fun z => False.elim (absurd z (by decide)))
    refine lv_iload hx hb dL_law_227 (lv_at hl 0 rfl) ?_
    refine lv_iconst (v := 1) hx hb dL_law_229 (by decide) ?_
    refine lv_icmp_ne (tgt := 248) hx hb dL_law_230 (by decide) (fun _ => ?_) (fun z => False.elim (absurd z (by decide)))
    refine lv_iload hx hb dL_law_248 (lv_at hl 0 rfl) ?_
    refine lv_iconst (v := 2) hx hb dL_law_250 (by decide) ?_
    refine lv_icmp_eq (tgt := 260) hx hb dL_law_251 (by decide) (fun z => False.elim (absurd z (by decide))) (fun _ => ?_)
    refine lv_iload hx hb dL_law_254 (lv_at hl 0 rfl) ?_
    refine lv_iconst (v := 3) hx hb dL_law_256 (by decide) ?_
    refine lv_icmp_ne (tgt := 271) hx hb dL_law_257 (by decide) (fun _ => ?_) (fun z => False.elim (absurd z (by decide)))
    refine lv_iload hx hb dL_law_271 (lv_at hl 0 rfl) ?_
    refine lv_bipush (v := 8) hx hb dL_law_273 (by decide) ?_
    refine lv_icmp_eq (tgt := 285) hx hb dL_law_275 (by decide) (fun z => False.elim (absurd z (by decide))) (fun _ => ?_)
    refine lv_iload hx hb dL_law_278 (lv_at hl 0 rfl) ?_
    refine lv_bipush (v := 9) hx hb dL_law_280 (by decide) ?_
    refine lv_icmp_ne (tgt := 296) hx hb dL_law_282 (by decide) (fun _ => ?_) (fun z => False.elim (absurd z (by decide)))
    refine lv_iload hx hb dL_law_296 (lv_at hl 0 rfl) ?_
    refine lv_bipush (v := 10) hx hb dL_law_298 (by decide) ?_
    refine lv_icmp_ne (tgt := 315) hx hb dL_law_300 (by decide) (fun _ => ?_) (fun z => False.elim (absurd z (by decide)))
    refine lv_iconst (v := 0) hx hb dL_law_315 (by decide) ?_
    exact law_w3 hstk X hw hJ hi hk hDr hEn hf hv hc0 hs0 hc hs (by decide) (gOk_z (by decide)) kw (lv_sub hl [0, 2, 3, 4, 5, 6, 7, 8, 9, 10, 11, 12, 13, 14, 15, 16] rfl)
  · refine lv_if_ne (tgt := 227) hx hb dL_law_213 (by decide) (fun _ => ?_) (fun z => False.elim (absurd z (by decide)))
    refine lv_iload hx hb dL_law_227 (lv_at hl 0 rfl) ?_
    refine lv_iconst (v := 1) hx hb dL_law_229 (by decide) ?_
    refine lv_icmp_ne (tgt := 248) hx hb dL_law_230 (by decide) (fun _ => ?_) (fun z => False.elim (absurd z (by decide)))
    refine lv_iload hx hb dL_law_248 (lv_at hl 0 rfl) ?_
    refine lv_iconst (v := 2) hx hb dL_law_250 (by decide) ?_
    refine lv_icmp_eq (tgt := 260) hx hb dL_law_251 (by decide) (fun z => False.elim (absurd z (by decide))) (fun _ => ?_)
    refine lv_iload hx hb dL_law_254 (lv_at hl 0 rfl) ?_
    refine lv_iconst (v := 3) hx hb dL_law_256 (by decide) ?_
    refine lv_icmp_ne (tgt := 271) hx hb dL_law_257 (by decide) (fun _ => ?_) (fun z => False.elim (absurd z (by decide)))
    refine lv_iload hx hb dL_law_271 (lv_at hl 0 rfl) ?_
    refine lv_bipush (v := 8) hx hb dL_law_273 (by decide) ?_
    refine lv_icmp_eq (tgt := 285) hx hb dL_law_275 (by decide) (fun z => False.elim (absurd z (by decide))) (fun _ => ?_)
    refine lv_iload hx hb dL_law_278 (lv_at hl 0 rfl) ?_
    refine lv_bipush (v := 9) hx hb dL_law_280 (by decide) ?_
    refine lv_icmp_ne (tgt := 296) hx hb dL_law_282 (by decide) (fun _ => ?_) (fun z => False.elim (absurd z (by decide)))
    refine lv_iload hx hb dL_law_296 (lv_at hl 0 rfl) ?_
    refine lv_bipush (v := 10) hx hb dL_law_298 (by decide) ?_
    refine lv_icmp_ne (tgt := 315) hx hb dL_law_300 (by decide) (fun _ => ?_) (fun z => False.elim (absurd z (by decide)))
    refine lv_iconst (v := 0) hx hb dL_law_315 (by decide) ?_
    exact law_w3 hstk X hw hJ hi hk hDr hEn hf hv hc0 hs0 hc hs (by decide) (gOk_z (by decide)) kw (lv_sub hl [0, 2, 3, 4, 5, 6, 7, 8, 9, 10, 11, 12, 13, 14, 15, 16] rfl)
  · refine lv_if_ne (tgt := 227) hx hb dL_law_213 (by decide) (fun _ => ?_) (fun z => False.elim (absurd z (by decide)))
    refine lv_iload hx hb dL_law_227 (lv_at hl 0 rfl) ?_
    refine lv_iconst (v := 1) hx hb dL_law_229 (by decide) ?_
    refine lv_icmp_ne (tgt := 248) hx hb dL_law_230 (by decide) (fun _ => ?_) (fun z => False.elim (absurd z (by decide)))
    refine lv_iload hx hb dL_law_248 (lv_at hl 0 rfl) ?_
    refine lv_iconst (v := 2) hx hb dL_law_250 (by decide) ?_
    refine lv_icmp_eq (tgt := 260) hx hb dL_law_251 (by decide) (fun z => False.elim (absurd z (by decide))) (fun _ => ?_)
    refine lv_iload hx hb dL_law_254 (lv_at hl 0 rfl) ?_
    refine lv_iconst (v := 3) hx hb dL_law_256 (by decide) ?_
    refine lv_icmp_ne (tgt := 271) hx hb dL_law_257 (by decide) (fun _ => ?_) (fun z => False.elim (absurd z (by decide)))
    refine lv_iload hx hb dL_law_271 (lv_at hl 0 rfl) ?_
    refine lv_bipush (v := 8) hx hb dL_law_273 (by decide) ?_
    refine lv_icmp_eq (tgt := 285) hx hb dL_law_275 (by decide) (fun z => False.elim (absurd z (by decide))) (fun _ => ?_)
    refine lv_iload hx hb dL_law_278 (lv_at hl 0 rfl) ?_
    refine lv_bipush (v := 9) hx hb dL_law_280 (by decide) ?_
    refine lv_icmp_ne (tgt := 296) hx hb dL_law_282 (by decide) (fun _ => ?_) (fun z => False.elim (absurd z (by decide)))
    refine lv_iload hx hb dL_law_296 (lv_at hl 0 rfl) ?_
    refine lv_bipush (v := 10) hx hb dL_law_298 (by decide) ?_
    refine lv_icmp_ne (tgt := 315) hx hb dL_law_300 (by decide) (fun _ => ?_) (fun z => False.elim (absurd z (by decide)))
    refine lv_iconst (v := 0) hx hb dL_law_315 (by decide) ?_
    exact law_w3 hstk X hw hJ hi hk hDr hEn hf hv hc0 hs0 hc hs (by decide) (gOk_z (by decide)) kw (lv_sub hl [0, 2, 3, 4, 5, 6, 7, 8, 9, 10, 11, 12, 13, 14, 15, 16] rfl)
  · refine lv_if_ne (tgt := 227) hx hb dL_law_213 (by decide) (fun _ => ?_) (fun z => False.elim (absurd z (by decide)))
    refine lv_iload hx hb dL_law_227 (lv_at hl 0 rfl) ?_
    refine lv_iconst (v := 1) hx hb dL_law_229 (by decide) ?_
    refine lv_icmp_ne (tgt := 248) hx hb dL_law_230 (by decide) (fun _ => ?_) (fun z => False.elim (absurd z (by decide)))
    refine lv_iload hx hb dL_law_248 (lv_at hl 0 rfl) ?_
    refine lv_iconst (v := 2) hx hb dL_law_250 (by decide) ?_
    refine lv_icmp_eq (tgt := 260) hx hb dL_law_251 (by decide) (fun z => False.elim (absurd z (by decide))) (fun _ => ?_)
    refine lv_iload hx hb dL_law_254 (lv_at hl 0 rfl) ?_
    refine lv_iconst (v := 3) hx hb dL_law_256 (by decide) ?_
    refine lv_icmp_ne (tgt := 271) hx hb dL_law_257 (by decide) (fun _ => ?_) (fun z => False.elim (absurd z (by decide)))
    refine lv_iload hx hb dL_law_271 (lv_at hl 0 rfl) ?_
    refine lv_bipush (v := 8) hx hb dL_law_273 (by decide) ?_
    refine lv_icmp_eq (tgt := 285) hx hb dL_law_275 (by decide) (fun _ => ?_) (fun z => False.elim (z (by decide)))
    refine lv_iload hx hb dL_law_285 (lv_at hl 1 rfl) ?_
    refine lv_bipush (v := 20) hx hb dL_law_287 (by decide) ?_
    refine lv_idiv hx hb dL_law_289 (by decide) ?_
    rw [show ((nI ww) / 20 : Int32) = nI (ww / 20) from pk_div hww (by decide) (by decide)]
    refine lv_bipush (v := 25) hx hb dL_law_290 (by decide) ?_
    refine lv_irem hx hb dL_law_292 (by decide) ?_
    rw [show ((nI (ww / 20)) - (nI (ww / 20)) / 25 * 25 : Int32) = nI (ww / 20 % 25) from pk_rem (by omega) (by decide) (by decide)]
    refine lv_goto (tgt := 316) hx hb dL_law_293 (by decide) ?_
    exact law_w3 hstk X hw hJ hi hk hDr hEn hf hv hc0 hs0 hc hs (by decide) (gOk_89 (Or.inl rfl) (show ww / 20 % 25 < 25 by omega)) kw (lv_sub hl [0, 2, 3, 4, 5, 6, 7, 8, 9, 10, 11, 12, 13, 14, 15, 16] rfl)
  · refine lv_if_ne (tgt := 227) hx hb dL_law_213 (by decide) (fun _ => ?_) (fun z => False.elim (absurd z (by decide)))
    refine lv_iload hx hb dL_law_227 (lv_at hl 0 rfl) ?_
    refine lv_iconst (v := 1) hx hb dL_law_229 (by decide) ?_
    refine lv_icmp_ne (tgt := 248) hx hb dL_law_230 (by decide) (fun _ => ?_) (fun z => False.elim (absurd z (by decide)))
    refine lv_iload hx hb dL_law_248 (lv_at hl 0 rfl) ?_
    refine lv_iconst (v := 2) hx hb dL_law_250 (by decide) ?_
    refine lv_icmp_eq (tgt := 260) hx hb dL_law_251 (by decide) (fun z => False.elim (absurd z (by decide))) (fun _ => ?_)
    refine lv_iload hx hb dL_law_254 (lv_at hl 0 rfl) ?_
    refine lv_iconst (v := 3) hx hb dL_law_256 (by decide) ?_
    refine lv_icmp_ne (tgt := 271) hx hb dL_law_257 (by decide) (fun _ => ?_) (fun z => False.elim (absurd z (by decide)))
    refine lv_iload hx hb dL_law_271 (lv_at hl 0 rfl) ?_
    refine lv_bipush (v := 8) hx hb dL_law_273 (by decide) ?_
    refine lv_icmp_eq (tgt := 285) hx hb dL_law_275 (by decide) (fun z => False.elim (absurd z (by decide))) (fun _ => ?_)
    refine lv_iload hx hb dL_law_278 (lv_at hl 0 rfl) ?_
    refine lv_bipush (v := 9) hx hb dL_law_280 (by decide) ?_
    refine lv_icmp_ne (tgt := 296) hx hb dL_law_282 (by decide) (fun z => False.elim (z (by decide))) (fun _ => ?_)
    refine lv_iload hx hb dL_law_285 (lv_at hl 1 rfl) ?_
    refine lv_bipush (v := 20) hx hb dL_law_287 (by decide) ?_
    refine lv_idiv hx hb dL_law_289 (by decide) ?_
    rw [show ((nI ww) / 20 : Int32) = nI (ww / 20) from pk_div hww (by decide) (by decide)]
    refine lv_bipush (v := 25) hx hb dL_law_290 (by decide) ?_
    refine lv_irem hx hb dL_law_292 (by decide) ?_
    rw [show ((nI (ww / 20)) - (nI (ww / 20)) / 25 * 25 : Int32) = nI (ww / 20 % 25) from pk_rem (by omega) (by decide) (by decide)]
    refine lv_goto (tgt := 316) hx hb dL_law_293 (by decide) ?_
    exact law_w3 hstk X hw hJ hi hk hDr hEn hf hv hc0 hs0 hc hs (by decide) (gOk_89 (Or.inr rfl) (show ww / 20 % 25 < 25 by omega)) kw (lv_sub hl [0, 2, 3, 4, 5, 6, 7, 8, 9, 10, 11, 12, 13, 14, 15, 16] rfl)
  · refine lv_if_ne (tgt := 227) hx hb dL_law_213 (by decide) (fun _ => ?_) (fun z => False.elim (absurd z (by decide)))
    refine lv_iload hx hb dL_law_227 (lv_at hl 0 rfl) ?_
    refine lv_iconst (v := 1) hx hb dL_law_229 (by decide) ?_
    refine lv_icmp_ne (tgt := 248) hx hb dL_law_230 (by decide) (fun _ => ?_) (fun z => False.elim (absurd z (by decide)))
    refine lv_iload hx hb dL_law_248 (lv_at hl 0 rfl) ?_
    refine lv_iconst (v := 2) hx hb dL_law_250 (by decide) ?_
    refine lv_icmp_eq (tgt := 260) hx hb dL_law_251 (by decide) (fun z => False.elim (absurd z (by decide))) (fun _ => ?_)
    refine lv_iload hx hb dL_law_254 (lv_at hl 0 rfl) ?_
    refine lv_iconst (v := 3) hx hb dL_law_256 (by decide) ?_
    refine lv_icmp_ne (tgt := 271) hx hb dL_law_257 (by decide) (fun _ => ?_) (fun z => False.elim (absurd z (by decide)))
    refine lv_iload hx hb dL_law_271 (lv_at hl 0 rfl) ?_
    refine lv_bipush (v := 8) hx hb dL_law_273 (by decide) ?_
    refine lv_icmp_eq (tgt := 285) hx hb dL_law_275 (by decide) (fun z => False.elim (absurd z (by decide))) (fun _ => ?_)
    refine lv_iload hx hb dL_law_278 (lv_at hl 0 rfl) ?_
    refine lv_bipush (v := 9) hx hb dL_law_280 (by decide) ?_
    refine lv_icmp_ne (tgt := 296) hx hb dL_law_282 (by decide) (fun _ => ?_) (fun z => False.elim (absurd z (by decide)))
    refine lv_iload hx hb dL_law_296 (lv_at hl 0 rfl) ?_
    refine lv_bipush (v := 10) hx hb dL_law_298 (by decide) ?_
    refine lv_icmp_ne (tgt := 315) hx hb dL_law_300 (by decide) (fun z => False.elim (z (by decide))) (fun _ => ?_)
    refine lv_iload hx hb dL_law_303 (lv_at hl 1 rfl) ?_
    refine lv_bipush (v := 20) hx hb dL_law_305 (by decide) ?_
    refine lv_idiv hx hb dL_law_307 (by decide) ?_
    rw [show ((nI ww) / 20 : Int32) = nI (ww / 20) from pk_div hww (by decide) (by decide)]
    refine lv_sipush (v := 501) hx hb dL_law_308 (by decide) ?_
    refine lv_irem hx hb dL_law_311 (by decide) ?_
    rw [show ((nI (ww / 20)) - (nI (ww / 20)) / 501 * 501 : Int32) = nI (ww / 20 % 501) from pk_rem (by omega) (by decide) (by decide)]
    refine lv_goto (tgt := 316) hx hb dL_law_312 (by decide) ?_
    exact law_w3 hstk X hw hJ hi hk hDr hEn hf hv hc0 hs0 hc hs (by decide) (gOk_10 (show ww / 20 % 501 < 501 by omega)) kw (lv_sub hl [0, 2, 3, 4, 5, 6, 7, 8, 9, 10, 11, 12, 13, 14, 15, 16] rfl)
  · refine lv_if_ne (tgt := 227) hx hb dL_law_213 (by decide) (fun _ => ?_) (fun z => False.elim (absurd z (by decide)))
    refine lv_iload hx hb dL_law_227 (lv_at hl 0 rfl) ?_
    refine lv_iconst (v := 1) hx hb dL_law_229 (by decide) ?_
    refine lv_icmp_ne (tgt := 248) hx hb dL_law_230 (by decide) (fun _ => ?_) (fun z => False.elim (absurd z (by decide)))
    refine lv_iload hx hb dL_law_248 (lv_at hl 0 rfl) ?_
    refine lv_iconst (v := 2) hx hb dL_law_250 (by decide) ?_
    refine lv_icmp_eq (tgt := 260) hx hb dL_law_251 (by decide) (fun z => False.elim (absurd z (by decide))) (fun _ => ?_)
    refine lv_iload hx hb dL_law_254 (lv_at hl 0 rfl) ?_
    refine lv_iconst (v := 3) hx hb dL_law_256 (by decide) ?_
    refine lv_icmp_ne (tgt := 271) hx hb dL_law_257 (by decide) (fun _ => ?_) (fun z => False.elim (absurd z (by decide)))
    refine lv_iload hx hb dL_law_271 (lv_at hl 0 rfl) ?_
    refine lv_bipush (v := 8) hx hb dL_law_273 (by decide) ?_
    refine lv_icmp_eq (tgt := 285) hx hb dL_law_275 (by decide) (fun z => False.elim (absurd z (by decide))) (fun _ => ?_)
    refine lv_iload hx hb dL_law_278 (lv_at hl 0 rfl) ?_
    refine lv_bipush (v := 9) hx hb dL_law_280 (by decide) ?_
    refine lv_icmp_ne (tgt := 296) hx hb dL_law_282 (by decide) (fun _ => ?_) (fun z => False.elim (absurd z (by decide)))
    refine lv_iload hx hb dL_law_296 (lv_at hl 0 rfl) ?_
    refine lv_bipush (v := 10) hx hb dL_law_298 (by decide) ?_
    refine lv_icmp_ne (tgt := 315) hx hb dL_law_300 (by decide) (fun _ => ?_) (fun z => False.elim (absurd z (by decide)))
    refine lv_iconst (v := 0) hx hb dL_law_315 (by decide) ?_
    exact law_w3 hstk X hw hJ hi hk hDr hEn hf hv hc0 hs0 hc hs (by decide) (gOk_z (by decide)) kw (lv_sub hl [0, 2, 3, 4, 5, 6, 7, 8, 9, 10, 11, 12, 13, 14, 15, 16] rfl)
  · refine lv_if_ne (tgt := 227) hx hb dL_law_213 (by decide) (fun _ => ?_) (fun z => False.elim (absurd z (by decide)))
    refine lv_iload hx hb dL_law_227 (lv_at hl 0 rfl) ?_
    refine lv_iconst (v := 1) hx hb dL_law_229 (by decide) ?_
    refine lv_icmp_ne (tgt := 248) hx hb dL_law_230 (by decide) (fun _ => ?_) (fun z => False.elim (absurd z (by decide)))
    refine lv_iload hx hb dL_law_248 (lv_at hl 0 rfl) ?_
    refine lv_iconst (v := 2) hx hb dL_law_250 (by decide) ?_
    refine lv_icmp_eq (tgt := 260) hx hb dL_law_251 (by decide) (fun z => False.elim (absurd z (by decide))) (fun _ => ?_)
    refine lv_iload hx hb dL_law_254 (lv_at hl 0 rfl) ?_
    refine lv_iconst (v := 3) hx hb dL_law_256 (by decide) ?_
    refine lv_icmp_ne (tgt := 271) hx hb dL_law_257 (by decide) (fun _ => ?_) (fun z => False.elim (absurd z (by decide)))
    refine lv_iload hx hb dL_law_271 (lv_at hl 0 rfl) ?_
    refine lv_bipush (v := 8) hx hb dL_law_273 (by decide) ?_
    refine lv_icmp_eq (tgt := 285) hx hb dL_law_275 (by decide) (fun z => False.elim (absurd z (by decide))) (fun _ => ?_)
    refine lv_iload hx hb dL_law_278 (lv_at hl 0 rfl) ?_
    refine lv_bipush (v := 9) hx hb dL_law_280 (by decide) ?_
    refine lv_icmp_ne (tgt := 296) hx hb dL_law_282 (by decide) (fun _ => ?_) (fun z => False.elim (absurd z (by decide)))
    refine lv_iload hx hb dL_law_296 (lv_at hl 0 rfl) ?_
    refine lv_bipush (v := 10) hx hb dL_law_298 (by decide) ?_
    refine lv_icmp_ne (tgt := 315) hx hb dL_law_300 (by decide) (fun _ => ?_) (fun z => False.elim (absurd z (by decide)))
    refine lv_iconst (v := 0) hx hb dL_law_315 (by decide) ?_
    exact law_w3 hstk X hw hJ hi hk hDr hEn hf hv hc0 hs0 hc hs (by decide) (gOk_z (by decide)) kw (lv_sub hl [0, 2, 3, 4, 5, 6, 7, 8, 9, 10, 11, 12, 13, 14, 15, 16] rfl)
set_option maxHeartbeats 4000000 in
set_option maxRecDepth 100000 in
theorem law_w1 (hstk : l.stackTraces = false) {C : gCT} {H : Heap} {locs : List Loc} {cells slots cells0 slots0 many v f kd k : Nat} {fd : Int32} {ls : Array Slot} (X : gX p s m #[.ref b] c cL_law RL 22 G A) (hw : tW G A s.heap H locs C a0 bb) (hJ : kJ (11 * i + k) fd C) (hi : i < 60) (hk : k ≤ 9) (hDr : kDr C) (hEn : kEn1 C) (hf : f < 3) (hv : v < 2 ^ 31) (hc0 : cells0 ≤ 600000) (hs0 : slots0 ≤ 7290000) (hc : cells ≤ cells0 + 2 * k) (hs : slots ≤ slots0 + 12 * k) {L : Nat} {xs : Nat → Int32} (hL : L < 2 ^ 31) (hX : va_X b L xs s s.heap) (hbl : b < s.heap.size) (hbA : ¬ A b) (hkm : k < many) (hm9 : many ≤ 9) (kw : wrK p l e s m below meth c Q G A b a0 bb i run many v f kd (k + 1) cells0 slots0 fd) (hl : lv_has ls 22 [(16, .int (nI k)), (15, .int (nI many)), (14, .int (nI v)), (13, .int (nI run)), (12, .int (nI f)), (11, .int (nI kd)), (8, .int (nI i)), (7, .int 1), (6, .int fd), (5, .int (nI (gRc C))), (4, .ref (bb 2)), (3, .ref (bb 1)), (2, .ref (bb 0)), (1, .ref a0), (0, .ref b)]) : W p l e room_1 s m #[.ref b] below meth c H locs cells slots Q (F0 m 128 ls []) := by
  have hx := X.1.1; have hb := X.1.2.1; have hown := X.1.2.2.2.1; have hts := X.1.2.2.2.2; have hI := hJ.1
  refine lv_iload hx hb dL_law_128 (lv_at hl 0 rfl) ?_
  refine lv_iload hx hb dL_law_130 (lv_at hl 1 rfl) ?_
  refine lv_icmp_ge (tgt := 385) hx hb dL_law_132 (by decide) (fun z => False.elim (absurd ((nat_le rfl rfl (by omega) (by omega)).mp z) (by omega))) (fun _ => ?_)
  refine lv_iload hx hb dL_law_135 (lv_at hl 7 rfl) ?_
  refine lv_if_eq (tgt := 385) hx hb dL_law_137 (by decide) (fun z => False.elim (absurd z (by decide))) (fun _ => ?_)
  refine lv_aload_n hx hb dL_law_140 rfl (lv_at hl 14 rfl) ?_
  refine lv_iload hx hb dL_law_141 (lv_at hl 6 rfl) ?_
  refine lv_bipush (v := 7) hx hb dL_law_143 (by decide) ?_
  refine lv_iload hx hb dL_law_145 (lv_at hl 0 rfl) ?_
  refine lv_imul hx hb dL_law_147 ?_
  rw [show ((7 * (nI k)) : Int32) = nI (7 * k) from (Int32.ofNat_mul 7 k).symm]
  refine lv_iadd hx hb dL_law_148 ?_
  rw [show (((nI i) + (nI (7 * k))) : Int32) = nI (i + 7 * k) from nI_add _ _]
  refine lv_bipush (v := 67) hx hb dL_law_149 (by decide) ?_
  refine lv_irem hx hb dL_law_151 (by decide) ?_
  rw [show ((nI (i + 7 * k)) - (nI (i + 7 * k)) / 67 * 67 : Int32) = nI ((i + 7 * k) % 67) from pk_rem (by omega) (by decide) (by decide)]
  refine t_cell X hX hbl hbA hL (show (i + 7 * k) % 67 < 2 ^ 31 by omega) hw ml_RL_128 ⟨(Nat.le_of_ble_eq_true rfl), (Nat.le_of_ble_eq_true rfl)⟩ hl.1 (Nat.le_of_ble_eq_true rfl) dL_law_152 (by show _ ≤ 600590; omega) (by show _ ≤ 7299698; omega) (fun Y hY => ?_)
  refine lv_iconst (v := 5) hx hb dL_law_155 (by decide) ?_
  refine lv_idiv hx hb dL_law_156 (by decide) ?_
  rw [show ((nI Y) / 5 : Int32) = nI (Y / 5) from pk_div hY (by decide) (by decide)]
  refine lv_iconst (v := 3) hx hb dL_law_157 (by decide) ?_
  refine lv_iload hx hb dL_law_158 (lv_at hl 0 rfl) ?_
  refine lv_imul hx hb dL_law_160 ?_
  rw [show ((3 * (nI k)) : Int32) = nI (3 * k) from (Int32.ofNat_mul 3 k).symm]
  refine lv_iadd hx hb dL_law_161 ?_
  rw [show (((nI (Y / 5)) + (nI (3 * k))) : Int32) = nI (Y / 5 + 3 * k) from nI_add _ _]
  have hww : Y / 5 + 3 * k < 2 ^ 31 := by omega
  generalize Y / 5 + 3 * k = ww at hww ⊢
  refine lv_istore (lv' := [(17, .int (nI ww)), (16, .int (nI k)), (15, .int (nI many)), (14, .int (nI v)), (13, .int (nI run)), (12, .int (nI f)), (11, .int (nI kd)), (8, .int (nI i)), (7, .int 1), (6, .int fd), (5, .int (nI (gRc C))), (4, .ref (bb 2)), (3, .ref (bb 1)), (2, .ref (bb 0)), (1, .ref a0), (0, .ref b)]) hx hb dL_law_162 hl (by decide) rfl (fun ls hl => ?_)
  refine lv_iload hx hb dL_law_164 (lv_at hl 0 rfl) ?_
  refine lv_bipush (v := 20) hx hb dL_law_166 (by decide) ?_
  refine lv_irem hx hb dL_law_168 (by decide) ?_
  rw [show ((nI ww) - (nI ww) / 20 * 20 : Int32) = nI (ww % 20) from pk_rem hww (by decide) (by decide)]
  refine lv_istore (lv' := [(18, .int (nI (ww % 20))), (17, .int (nI ww)), (16, .int (nI k)), (15, .int (nI many)), (14, .int (nI v)), (13, .int (nI run)), (12, .int (nI f)), (11, .int (nI kd)), (8, .int (nI i)), (7, .int 1), (6, .int fd), (5, .int (nI (gRc C))), (4, .ref (bb 2)), (3, .ref (bb 1)), (2, .ref (bb 0)), (1, .ref a0), (0, .ref b)]) hx hb dL_law_169 hl (by decide) rfl (fun ls hl => ?_)
  refine lv_iload hx hb dL_law_171 (lv_at hl 0 rfl) ?_
  refine lv_bipush (v := 6) hx hb dL_law_173 (by decide) ?_
  refine lv_icmp_ge (tgt := 182) hx hb dL_law_175 (by decide) (fun h6 => ?_) (fun h6 => ?_)
  · refine lv_iload hx hb dL_law_182 (lv_at hl 0 rfl) ?_
    refine lv_bipush (v := 6) hx hb dL_law_184 (by decide) ?_
    refine lv_icmp_ne (tgt := 193) hx hb dL_law_186 (by decide) (fun h6e => ?_) (fun h6e => ?_)
    · refine lv_iload hx hb dL_law_193 (lv_at hl 0 rfl) ?_
      refine lv_bipush (v := 9) hx hb dL_law_195 (by decide) ?_
      refine lv_icmp_ge (tgt := 204) hx hb dL_law_197 (by decide) (fun h9 => ?_) (fun h9 => ?_)
      · refine lv_iload hx hb dL_law_204 (lv_at hl 0 rfl) ?_
        refine lv_bipush (v := 7) hx hb dL_law_206 (by decide) ?_
        refine lv_isub hx hb dL_law_208 ?_
        have g9 : 9 ≤ ww % 20 := (nat_le (show (9 : Int32) = nI 9 from rfl) rfl (by decide) (by omega)).mp h9
        rw [show (nI (ww % 20) - 7 : Int32) = nI (ww % 20 - 7) from nat_sub rfl (show (7 : Int32) = nI 7 from rfl) (by omega)]
        exact law_w2 hstk X hw hJ hi hk hDr hEn hf hv hc0 hs0 hc hs (show ww % 20 - 7 < 13 by omega) hww kw (lv_sub hl [1, 2, 3, 4, 5, 6, 7, 8, 9, 10, 11, 12, 13, 14, 15, 16] rfl)
      · refine lv_iconst (v := 3) hx hb dL_law_200 (by decide) ?_
        refine lv_goto (tgt := 209) hx hb dL_law_201 (by decide) ?_
        exact law_w2 hstk X hw hJ hi hk hDr hEn hf hv hc0 hs0 hc hs (show 3 < 13 by decide) hww kw (lv_sub hl [1, 2, 3, 4, 5, 6, 7, 8, 9, 10, 11, 12, 13, 14, 15, 16] rfl)
    · refine lv_iconst (v := 1) hx hb dL_law_189 (by decide) ?_
      refine lv_goto (tgt := 209) hx hb dL_law_190 (by decide) ?_
      exact law_w2 hstk X hw hJ hi hk hDr hEn hf hv hc0 hs0 hc hs (show 1 < 13 by decide) hww kw (lv_sub hl [1, 2, 3, 4, 5, 6, 7, 8, 9, 10, 11, 12, 13, 14, 15, 16] rfl)
  · refine lv_iconst (v := 0) hx hb dL_law_178 (by decide) ?_
    refine lv_goto (tgt := 209) hx hb dL_law_179 (by decide) ?_
    exact law_w2 hstk X hw hJ hi hk hDr hEn hf hv hc0 hs0 hc hs (show 0 < 13 by decide) hww kw (lv_sub hl [1, 2, 3, 4, 5, 6, 7, 8, 9, 10, 11, 12, 13, 14, 15, 16] rfl)
end LC

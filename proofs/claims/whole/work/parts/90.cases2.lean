/-! ===== the law: cases ===== -/
section LC
variable {p : Program} {l : Launch} {e : Env} {s : State} {m : MethodId} {below : List Frame} {meth : Method} {c : Code} {H : Heap} {locs : List Loc} {cells slots : Nat} {Q : State → Prop}
variable {ls : Array Slot} {G : gG} {A : Nat → Prop} {adC adM : gAd} {b i n : Nat}
set_option maxHeartbeats 2000000 in
set_option maxRecDepth 100000 in
theorem law_c2 (hst : l.stackTraces = false) {C M : gCT} (X : gX p s m #[.ref b] c cL_law RL 7 G A) (hw : gT2 G A s.heap H locs (gLvO C) adC (gF G C adC) (gLvR 34) adM (gF G M adM)) (hI : gInv C) (hB : MBI M) (hR : sRel n C M) (hn : n < 512) {L : Nat} {xs : Nat → Int32} (hX : va_X b L xs s s.heap) (hbl : b < s.heap.size) (hbA : ¬ A b) (h1 : vp_in (nI i + 1) L) (h2 : vp_in (nI i + 2) L) (h3 : vp_in (nI i + 3) L) (hc : cells + 16 ≤ 601024) (hs : slots + 4096 ≤ 7293033)
    (hl : lv_has ls 7 [(4, .int (nI i)), (0, .ref b), (1, .ref (adC 0 0)), (2, .ref (adM 20 0)), (3, .ref (adC 22 0))]) (kk : lawK p l e s m below meth c Q G A b adM i n cells slots) : W p l e room_1 s m #[.ref b] below meth c H locs cells slots Q (F0 m 296 ls []) := by
  have hx := X.1.1
  have hb := X.1.2.1
  refine lv_aload_n hx hb dL_law_296 rfl (lv_at hl 2 rfl) ?_
  refine lv_aload_n hx hb dL_law_297 rfl (lv_at hl 1 rfl) ?_
  refine lv_iload hx hb dL_law_298 (lv_at hl 0 rfl) ?_
  refine lv_iconst (v := 1) hx hb dL_law_300 (by decide) ?_
  refine lv_iadd hx hb dL_law_301 ?_
  refine va_sld hx hb hX hbl hbA hw.2.2.2 h1 dL_law_302 ?_
  refine lv_aload_n hx hb dL_law_303 rfl (lv_at hl 1 rfl) ?_
  refine lv_iload hx hb dL_law_304 (lv_at hl 0 rfl) ?_
  refine lv_iconst (v := 2) hx hb dL_law_306 (by decide) ?_
  refine lv_iadd hx hb dL_law_307 ?_
  refine va_sld hx hb hX hbl hbA hw.2.2.2 h2 dL_law_308 ?_
  refine lv_aload_n hx hb dL_law_309 rfl (lv_at hl 4 rfl) ?_
  refine t_w X hw (r_runSW X (c_w_setFuel l hst G C adC (xs (nI i + 1).toNatClampNeg) (xs (nI i + 2).toNatClampNeg) hI _) cw_setFuel ini_RL dd_setFuel ml_RL_113 ⟨(Nat.le_of_ble_eq_true rfl), (Nat.le_of_ble_eq_true rfl)⟩ gP.blind (gP_call X hw.wc _) rfl hl.1 rfl (Nat.le_of_ble_eq_true rfl) dL_law_310 ⟨show cells + 2 ≤ 601024 by omega, show slots + 12 ≤ 7293033 by omega⟩) (fun H locs adD hK hw => ?_)
  rw [← hK.1, ← hK.2] at hl
  refine lv_istore (lv' := [(5, .int (nI (m_setFuel C (xs (nI i + 1).toNatClampNeg) (xs (nI i + 2).toNatClampNeg)).1)), (4, .int (nI i)), (0, .ref b), (1, .ref (adD 0 0)), (2, .ref (adM 20 0)), (3, .ref (adD 22 0))]) hx hb dL_law_313 hl (by decide) rfl (fun ls hl => ?_)
  refine lv_aload_n hx hb dL_law_315 rfl (lv_at hl 4 rfl) ?_
  refine lv_aload_n hx hb dL_law_316 rfl (lv_at hl 2 rfl) ?_
  refine lv_iload hx hb dL_law_317 (lv_at hl 1 rfl) ?_
  refine lv_iconst (v := 1) hx hb dL_law_319 (by decide) ?_
  refine lv_iadd hx hb dL_law_320 ?_
  refine va_sld hx hb hX hbl hbA hw.2.2.2 h1 dL_law_321 ?_
  refine lv_aload_n hx hb dL_law_322 rfl (lv_at hl 2 rfl) ?_
  refine lv_iload hx hb dL_law_323 (lv_at hl 1 rfl) ?_
  refine lv_iconst (v := 2) hx hb dL_law_325 (by decide) ?_
  refine lv_iadd hx hb dL_law_326 ?_
  refine va_sld hx hb hX hbl hbA hw.2.2.2 h2 dL_law_327 ?_
  refine t_q X hw (r_runV X (c_q_setFuel l G _ adM M (xs (nI i + 1).toNatClampNeg) (xs (nI i + 2).toNatClampNeg) gLM_R hB _) cy_X6_setFuel ml_RL_116 ⟨(Nat.le_of_ble_eq_true rfl), (Nat.le_of_ble_eq_true rfl)⟩ gP.blind (g_recv X hw.wm 20 0 gLM_R.1 rfl rfl) (gP_call X hw.wm _) rfl hl.1 rfl (Nat.le_of_ble_eq_true rfl) dL_law_328 ⟨show cells + 2 + 0 ≤ 601024 by omega, show slots + 12 + 0 ≤ 7293033 by omega⟩) (fun H locs hB1 hw => ?_)
  have hO := s_setFuel hI hR (xs (nI i + 1).toNatClampNeg) (xs (nI i + 2).toNatClampNeg)
  have hI1 := w_out_inv (r := m_setFuel C (xs (nI i + 1).toNatClampNeg) (xs (nI i + 2).toNatClampNeg)) hI ((m_setFuel_str C (xs (nI i + 1).toNatClampNeg) (xs (nI i + 2).toNatClampNeg)).inv hI)
  refine lv_istore (lv' := [(6, .int (q_setFuel M (xs (nI i + 1).toNatClampNeg) (xs (nI i + 2).toNatClampNeg)).1), (5, .int (nI (m_setFuel C (xs (nI i + 1).toNatClampNeg) (xs (nI i + 2).toNatClampNeg)).1)), (4, .int (nI i)), (0, .ref b), (1, .ref (adD 0 0)), (2, .ref (adM 20 0)), (3, .ref (adD 22 0))]) hx hb dL_law_331 hl (by decide) rfl (fun ls hl => ?_)
  refine law_tail (t0 := 333) X hw hI1 hB1 (m_setFuel_lt C (xs (nI i + 1).toNatClampNeg) (xs (nI i + 2).toNatClampNeg)) hO.1 hO.2.1 (show cells + 2 + 0 ≤ 601024 by omega) (show slots + 12 + 0 ≤ 7293033 by omega) dL_law_333 dL_law_334 dL_law_337 dL_law_339 dL_law_344 dL_law_346 dL_law_349 dL_law_350 dL_law_351 dL_law_352 dL_law_354 dL_law_355 dL_law_356 hl (fun H locs hw => ?_)
  refine lv_goto (tgt := 1729) hx hb dL_law_361 (by decide) ?_
  exact kk _ _ _ _ _ _ _ _ (by show cells + 2 + 0 ≤ cells + 16; omega) (by show slots + 12 + 0 ≤ slots + 4096; omega) hI1 hB1 hO.2.2 hw (lv_sub hl [2, 3, 4, 5, 6] rfl)
set_option maxHeartbeats 2000000 in
set_option maxRecDepth 100000 in
theorem law_c3 (hst : l.stackTraces = false) {C M : gCT} (X : gX p s m #[.ref b] c cL_law RL 7 G A) (hw : gT2 G A s.heap H locs (gLvO C) adC (gF G C adC) (gLvR 34) adM (gF G M adM)) (hI : gInv C) (hB : MBI M) (hR : sRel n C M) (hn : n < 512) {L : Nat} {xs : Nat → Int32} (hX : va_X b L xs s s.heap) (hbl : b < s.heap.size) (hbA : ¬ A b) (h1 : vp_in (nI i + 1) L) (h2 : vp_in (nI i + 2) L) (h3 : vp_in (nI i + 3) L) (hc : cells + 16 ≤ 601024) (hs : slots + 4096 ≤ 7293033)
    (hl : lv_has ls 7 [(4, .int (nI i)), (0, .ref b), (1, .ref (adC 0 0)), (2, .ref (adM 20 0)), (3, .ref (adC 22 0))]) (kk : lawK p l e s m below meth c Q G A b adM i n cells slots) : W p l e room_1 s m #[.ref b] below meth c H locs cells slots Q (F0 m 364 ls []) := by
  have hx := X.1.1
  have hb := X.1.2.1
  refine lv_aload_n hx hb dL_law_364 rfl (lv_at hl 2 rfl) ?_
  refine lv_aload_n hx hb dL_law_365 rfl (lv_at hl 1 rfl) ?_
  refine lv_iload hx hb dL_law_366 (lv_at hl 0 rfl) ?_
  refine lv_iconst (v := 1) hx hb dL_law_368 (by decide) ?_
  refine lv_iadd hx hb dL_law_369 ?_
  refine va_sld hx hb hX hbl hbA hw.2.2.2 h1 dL_law_370 ?_
  refine lv_aload_n hx hb dL_law_371 rfl (lv_at hl 1 rfl) ?_
  refine lv_iload hx hb dL_law_372 (lv_at hl 0 rfl) ?_
  refine lv_iconst (v := 2) hx hb dL_law_374 (by decide) ?_
  refine lv_iadd hx hb dL_law_375 ?_
  refine va_sld hx hb hX hbl hbA hw.2.2.2 h2 dL_law_376 ?_
  refine lv_aload_n hx hb dL_law_377 rfl (lv_at hl 4 rfl) ?_
  refine t_w X hw (r_runSW X (c_w_fund l hst G C adC (xs (nI i + 1).toNatClampNeg) (xs (nI i + 2).toNatClampNeg) hI _) cw_fund ini_RL dd_fund ml_RL_117 ⟨(Nat.le_of_ble_eq_true rfl), (Nat.le_of_ble_eq_true rfl)⟩ gP.blind (gP_call X hw.wc _) rfl hl.1 rfl (Nat.le_of_ble_eq_true rfl) dL_law_378 ⟨show cells + 2 ≤ 601024 by omega, show slots + 12 ≤ 7293033 by omega⟩) (fun H locs adD hK hw => ?_)
  rw [← hK.1, ← hK.2] at hl
  refine lv_istore (lv' := [(5, .int (nI (m_fund C (xs (nI i + 1).toNatClampNeg) (xs (nI i + 2).toNatClampNeg)).1)), (4, .int (nI i)), (0, .ref b), (1, .ref (adD 0 0)), (2, .ref (adM 20 0)), (3, .ref (adD 22 0))]) hx hb dL_law_381 hl (by decide) rfl (fun ls hl => ?_)
  refine lv_aload_n hx hb dL_law_383 rfl (lv_at hl 4 rfl) ?_
  refine lv_aload_n hx hb dL_law_384 rfl (lv_at hl 2 rfl) ?_
  refine lv_iload hx hb dL_law_385 (lv_at hl 1 rfl) ?_
  refine lv_iconst (v := 1) hx hb dL_law_387 (by decide) ?_
  refine lv_iadd hx hb dL_law_388 ?_
  refine va_sld hx hb hX hbl hbA hw.2.2.2 h1 dL_law_389 ?_
  refine lv_aload_n hx hb dL_law_390 rfl (lv_at hl 2 rfl) ?_
  refine lv_iload hx hb dL_law_391 (lv_at hl 1 rfl) ?_
  refine lv_iconst (v := 2) hx hb dL_law_393 (by decide) ?_
  refine lv_iadd hx hb dL_law_394 ?_
  refine va_sld hx hb hX hbl hbA hw.2.2.2 h2 dL_law_395 ?_
  refine t_q X hw (r_runV X (c_q_fund l G _ adM M (xs (nI i + 1).toNatClampNeg) (xs (nI i + 2).toNatClampNeg) gLM_R hB _) cy_X6_fund ml_RL_119 ⟨(Nat.le_of_ble_eq_true rfl), (Nat.le_of_ble_eq_true rfl)⟩ gP.blind (g_recv X hw.wm 20 0 gLM_R.1 rfl rfl) (gP_call X hw.wm _) rfl hl.1 rfl (Nat.le_of_ble_eq_true rfl) dL_law_396 ⟨show cells + 2 + 0 ≤ 601024 by omega, show slots + 12 + 0 ≤ 7293033 by omega⟩) (fun H locs hB1 hw => ?_)
  have hO := s_fund hI hR (xs (nI i + 1).toNatClampNeg) (xs (nI i + 2).toNatClampNeg)
  have hI1 := w_out_inv (r := m_fund C (xs (nI i + 1).toNatClampNeg) (xs (nI i + 2).toNatClampNeg)) hI ((m_fund_str C (xs (nI i + 1).toNatClampNeg) (xs (nI i + 2).toNatClampNeg)).inv hI)
  refine lv_istore (lv' := [(6, .int (q_fund M (xs (nI i + 1).toNatClampNeg) (xs (nI i + 2).toNatClampNeg)).1), (5, .int (nI (m_fund C (xs (nI i + 1).toNatClampNeg) (xs (nI i + 2).toNatClampNeg)).1)), (4, .int (nI i)), (0, .ref b), (1, .ref (adD 0 0)), (2, .ref (adM 20 0)), (3, .ref (adD 22 0))]) hx hb dL_law_399 hl (by decide) rfl (fun ls hl => ?_)
  refine law_tail (t0 := 401) X hw hI1 hB1 (m_fund_lt C (xs (nI i + 1).toNatClampNeg) (xs (nI i + 2).toNatClampNeg)) hO.1 hO.2.1 (show cells + 2 + 0 ≤ 601024 by omega) (show slots + 12 + 0 ≤ 7293033 by omega) dL_law_401 dL_law_402 dL_law_405 dL_law_407 dL_law_412 dL_law_414 dL_law_417 dL_law_418 dL_law_419 dL_law_420 dL_law_422 dL_law_423 dL_law_424 hl (fun H locs hw => ?_)
  refine lv_goto (tgt := 1729) hx hb dL_law_429 (by decide) ?_
  exact kk _ _ _ _ _ _ _ _ (by show cells + 2 + 0 ≤ cells + 16; omega) (by show slots + 12 + 0 ≤ slots + 4096; omega) hI1 hB1 hO.2.2 hw (lv_sub hl [2, 3, 4, 5, 6] rfl)
set_option maxHeartbeats 2000000 in
set_option maxRecDepth 100000 in
theorem law_c4 (hst : l.stackTraces = false) {C M : gCT} (X : gX p s m #[.ref b] c cL_law RL 7 G A) (hw : gT2 G A s.heap H locs (gLvO C) adC (gF G C adC) (gLvR 34) adM (gF G M adM)) (hI : gInv C) (hB : MBI M) (hR : sRel n C M) (hn : n < 512) {L : Nat} {xs : Nat → Int32} (hX : va_X b L xs s s.heap) (hbl : b < s.heap.size) (hbA : ¬ A b) (h1 : vp_in (nI i + 1) L) (h2 : vp_in (nI i + 2) L) (h3 : vp_in (nI i + 3) L) (hc : cells + 16 ≤ 601024) (hs : slots + 4096 ≤ 7293033)
    (hl : lv_has ls 7 [(4, .int (nI i)), (0, .ref b), (1, .ref (adC 0 0)), (2, .ref (adM 20 0)), (3, .ref (adC 22 0))]) (kk : lawK p l e s m below meth c Q G A b adM i n cells slots) : W p l e room_1 s m #[.ref b] below meth c H locs cells slots Q (F0 m 432 ls []) := by
  have hx := X.1.1
  have hb := X.1.2.1
  refine lv_aload_n hx hb dL_law_432 rfl (lv_at hl 2 rfl) ?_
  refine lv_aload_n hx hb dL_law_433 rfl (lv_at hl 1 rfl) ?_
  refine lv_iload hx hb dL_law_434 (lv_at hl 0 rfl) ?_
  refine lv_iconst (v := 1) hx hb dL_law_436 (by decide) ?_
  refine lv_iadd hx hb dL_law_437 ?_
  refine va_sld hx hb hX hbl hbA hw.2.2.2 h1 dL_law_438 ?_
  refine lv_aload_n hx hb dL_law_439 rfl (lv_at hl 1 rfl) ?_
  refine lv_iload hx hb dL_law_440 (lv_at hl 0 rfl) ?_
  refine lv_iconst (v := 2) hx hb dL_law_442 (by decide) ?_
  refine lv_iadd hx hb dL_law_443 ?_
  refine va_sld hx hb hX hbl hbA hw.2.2.2 h2 dL_law_444 ?_
  refine lv_aload_n hx hb dL_law_445 rfl (lv_at hl 1 rfl) ?_
  refine lv_iload hx hb dL_law_446 (lv_at hl 0 rfl) ?_
  refine lv_iconst (v := 3) hx hb dL_law_448 (by decide) ?_
  refine lv_iadd hx hb dL_law_449 ?_
  refine va_sld hx hb hX hbl hbA hw.2.2.2 h3 dL_law_450 ?_
  refine lv_aload_n hx hb dL_law_451 rfl (lv_at hl 4 rfl) ?_
  refine t_w X hw (r_runSW X (c_w_setQuota l hst G C adC (xs (nI i + 1).toNatClampNeg) (xs (nI i + 2).toNatClampNeg) (xs (nI i + 3).toNatClampNeg) hI _) cw_setQuota ini_RL dd_setQuota ml_RL_120 ⟨(Nat.le_of_ble_eq_true rfl), (Nat.le_of_ble_eq_true rfl)⟩ gP.blind (gP_call X hw.wc _) rfl hl.1 rfl (Nat.le_of_ble_eq_true rfl) dL_law_452 ⟨show cells + 2 ≤ 601024 by omega, show slots + 12 ≤ 7293033 by omega⟩) (fun H locs adD hK hw => ?_)
  rw [← hK.1, ← hK.2] at hl
  refine lv_istore (lv' := [(5, .int (nI (m_setQuota C (xs (nI i + 1).toNatClampNeg) (xs (nI i + 2).toNatClampNeg) (xs (nI i + 3).toNatClampNeg)).1)), (4, .int (nI i)), (0, .ref b), (1, .ref (adD 0 0)), (2, .ref (adM 20 0)), (3, .ref (adD 22 0))]) hx hb dL_law_455 hl (by decide) rfl (fun ls hl => ?_)
  refine lv_aload_n hx hb dL_law_457 rfl (lv_at hl 4 rfl) ?_
  refine lv_aload_n hx hb dL_law_458 rfl (lv_at hl 2 rfl) ?_
  refine lv_iload hx hb dL_law_459 (lv_at hl 1 rfl) ?_
  refine lv_iconst (v := 1) hx hb dL_law_461 (by decide) ?_
  refine lv_iadd hx hb dL_law_462 ?_
  refine va_sld hx hb hX hbl hbA hw.2.2.2 h1 dL_law_463 ?_
  refine lv_aload_n hx hb dL_law_464 rfl (lv_at hl 2 rfl) ?_
  refine lv_iload hx hb dL_law_465 (lv_at hl 1 rfl) ?_
  refine lv_iconst (v := 2) hx hb dL_law_467 (by decide) ?_
  refine lv_iadd hx hb dL_law_468 ?_
  refine va_sld hx hb hX hbl hbA hw.2.2.2 h2 dL_law_469 ?_
  refine lv_aload_n hx hb dL_law_470 rfl (lv_at hl 2 rfl) ?_
  refine lv_iload hx hb dL_law_471 (lv_at hl 1 rfl) ?_
  refine lv_iconst (v := 3) hx hb dL_law_473 (by decide) ?_
  refine lv_iadd hx hb dL_law_474 ?_
  refine va_sld hx hb hX hbl hbA hw.2.2.2 h3 dL_law_475 ?_
  refine t_q X hw (r_runV X (c_q_setQuota l G _ adM M (xs (nI i + 1).toNatClampNeg) (xs (nI i + 2).toNatClampNeg) (xs (nI i + 3).toNatClampNeg) gLM_R hB _) cy_X6_setQuota ml_RL_122 ⟨(Nat.le_of_ble_eq_true rfl), (Nat.le_of_ble_eq_true rfl)⟩ gP.blind (g_recv X hw.wm 20 0 gLM_R.1 rfl rfl) (gP_call X hw.wm _) rfl hl.1 rfl (Nat.le_of_ble_eq_true rfl) dL_law_476 ⟨show cells + 2 + 0 ≤ 601024 by omega, show slots + 12 + 0 ≤ 7293033 by omega⟩) (fun H locs hB1 hw => ?_)
  have hO := s_setQuota hI hR (xs (nI i + 1).toNatClampNeg) (xs (nI i + 2).toNatClampNeg) (xs (nI i + 3).toNatClampNeg)
  have hI1 := w_out_inv (r := m_setQuota C (xs (nI i + 1).toNatClampNeg) (xs (nI i + 2).toNatClampNeg) (xs (nI i + 3).toNatClampNeg)) hI ((m_setQuota_str C (xs (nI i + 1).toNatClampNeg) (xs (nI i + 2).toNatClampNeg) (xs (nI i + 3).toNatClampNeg)).inv hI)
  refine lv_istore (lv' := [(6, .int (q_setQuota M (xs (nI i + 1).toNatClampNeg) (xs (nI i + 2).toNatClampNeg) (xs (nI i + 3).toNatClampNeg)).1), (5, .int (nI (m_setQuota C (xs (nI i + 1).toNatClampNeg) (xs (nI i + 2).toNatClampNeg) (xs (nI i + 3).toNatClampNeg)).1)), (4, .int (nI i)), (0, .ref b), (1, .ref (adD 0 0)), (2, .ref (adM 20 0)), (3, .ref (adD 22 0))]) hx hb dL_law_479 hl (by decide) rfl (fun ls hl => ?_)
  refine law_tail (t0 := 481) X hw hI1 hB1 (m_setQuota_lt C (xs (nI i + 1).toNatClampNeg) (xs (nI i + 2).toNatClampNeg) (xs (nI i + 3).toNatClampNeg)) hO.1 hO.2.1 (show cells + 2 + 0 ≤ 601024 by omega) (show slots + 12 + 0 ≤ 7293033 by omega) dL_law_481 dL_law_482 dL_law_485 dL_law_487 dL_law_492 dL_law_494 dL_law_497 dL_law_498 dL_law_499 dL_law_500 dL_law_502 dL_law_503 dL_law_504 hl (fun H locs hw => ?_)
  refine lv_goto (tgt := 1729) hx hb dL_law_509 (by decide) ?_
  exact kk _ _ _ _ _ _ _ _ (by show cells + 2 + 0 ≤ cells + 16; omega) (by show slots + 12 + 0 ≤ slots + 4096; omega) hI1 hB1 hO.2.2 hw (lv_sub hl [2, 3, 4, 5, 6] rfl)
set_option maxHeartbeats 2000000 in
set_option maxRecDepth 100000 in
theorem law_c5 (hst : l.stackTraces = false) {C M : gCT} (X : gX p s m #[.ref b] c cL_law RL 7 G A) (hw : gT2 G A s.heap H locs (gLvO C) adC (gF G C adC) (gLvR 34) adM (gF G M adM)) (hI : gInv C) (hB : MBI M) (hR : sRel n C M) (hn : n < 512) {L : Nat} {xs : Nat → Int32} (hX : va_X b L xs s s.heap) (hbl : b < s.heap.size) (hbA : ¬ A b) (h1 : vp_in (nI i + 1) L) (h2 : vp_in (nI i + 2) L) (h3 : vp_in (nI i + 3) L) (hc : cells + 16 ≤ 601024) (hs : slots + 4096 ≤ 7293033)
    (hl : lv_has ls 7 [(4, .int (nI i)), (0, .ref b), (1, .ref (adC 0 0)), (2, .ref (adM 20 0)), (3, .ref (adC 22 0))]) (kk : lawK p l e s m below meth c Q G A b adM i n cells slots) : W p l e room_1 s m #[.ref b] below meth c H locs cells slots Q (F0 m 512 ls []) := by
  have hx := X.1.1
  have hb := X.1.2.1
  refine lv_aload_n hx hb dL_law_512 rfl (lv_at hl 2 rfl) ?_
  refine lv_aload_n hx hb dL_law_513 rfl (lv_at hl 1 rfl) ?_
  refine lv_iload hx hb dL_law_514 (lv_at hl 0 rfl) ?_
  refine lv_iconst (v := 1) hx hb dL_law_516 (by decide) ?_
  refine lv_iadd hx hb dL_law_517 ?_
  refine va_sld hx hb hX hbl hbA hw.2.2.2 h1 dL_law_518 ?_
  refine lv_aload_n hx hb dL_law_519 rfl (lv_at hl 1 rfl) ?_
  refine lv_iload hx hb dL_law_520 (lv_at hl 0 rfl) ?_
  refine lv_iconst (v := 2) hx hb dL_law_522 (by decide) ?_
  refine lv_iadd hx hb dL_law_523 ?_
  refine va_sld hx hb hX hbl hbA hw.2.2.2 h2 dL_law_524 ?_
  refine lv_aload_n hx hb dL_law_525 rfl (lv_at hl 4 rfl) ?_
  refine t_w X hw (r_runSW X (c_w_setPrice l hst G C adC (xs (nI i + 1).toNatClampNeg) (xs (nI i + 2).toNatClampNeg) hI _) cw_setPrice ini_RL dd_setPrice ml_RL_123 ⟨(Nat.le_of_ble_eq_true rfl), (Nat.le_of_ble_eq_true rfl)⟩ gP.blind (gP_call X hw.wc _) rfl hl.1 rfl (Nat.le_of_ble_eq_true rfl) dL_law_526 ⟨show cells + 1 ≤ 601024 by omega, show slots + 6 ≤ 7293033 by omega⟩) (fun H locs adD hK hw => ?_)
  rw [← hK.1, ← hK.2] at hl
  refine lv_istore (lv' := [(5, .int (nI (m_setPrice C (xs (nI i + 1).toNatClampNeg) (xs (nI i + 2).toNatClampNeg)).1)), (4, .int (nI i)), (0, .ref b), (1, .ref (adD 0 0)), (2, .ref (adM 20 0)), (3, .ref (adD 22 0))]) hx hb dL_law_529 hl (by decide) rfl (fun ls hl => ?_)
  refine lv_aload_n hx hb dL_law_531 rfl (lv_at hl 4 rfl) ?_
  refine lv_aload_n hx hb dL_law_532 rfl (lv_at hl 2 rfl) ?_
  refine lv_iload hx hb dL_law_533 (lv_at hl 1 rfl) ?_
  refine lv_iconst (v := 1) hx hb dL_law_535 (by decide) ?_
  refine lv_iadd hx hb dL_law_536 ?_
  refine va_sld hx hb hX hbl hbA hw.2.2.2 h1 dL_law_537 ?_
  refine lv_aload_n hx hb dL_law_538 rfl (lv_at hl 2 rfl) ?_
  refine lv_iload hx hb dL_law_539 (lv_at hl 1 rfl) ?_
  refine lv_iconst (v := 2) hx hb dL_law_541 (by decide) ?_
  refine lv_iadd hx hb dL_law_542 ?_
  refine va_sld hx hb hX hbl hbA hw.2.2.2 h2 dL_law_543 ?_
  refine t_q X hw (r_runV X (c_q_setPrice l G _ adM M (xs (nI i + 1).toNatClampNeg) (xs (nI i + 2).toNatClampNeg) gLM_R hB _) cy_X6_setPrice ml_RL_125 ⟨(Nat.le_of_ble_eq_true rfl), (Nat.le_of_ble_eq_true rfl)⟩ gP.blind (g_recv X hw.wm 20 0 gLM_R.1 rfl rfl) (gP_call X hw.wm _) rfl hl.1 rfl (Nat.le_of_ble_eq_true rfl) dL_law_544 ⟨show cells + 1 + 0 ≤ 601024 by omega, show slots + 6 + 0 ≤ 7293033 by omega⟩) (fun H locs hB1 hw => ?_)
  have hO := s_setPrice hI hR (xs (nI i + 1).toNatClampNeg) (xs (nI i + 2).toNatClampNeg)
  have hI1 := w_out_inv (r := m_setPrice C (xs (nI i + 1).toNatClampNeg) (xs (nI i + 2).toNatClampNeg)) hI ((m_setPrice_str C (xs (nI i + 1).toNatClampNeg) (xs (nI i + 2).toNatClampNeg)).inv hI)
  refine lv_istore (lv' := [(6, .int (q_setPrice M (xs (nI i + 1).toNatClampNeg) (xs (nI i + 2).toNatClampNeg)).1), (5, .int (nI (m_setPrice C (xs (nI i + 1).toNatClampNeg) (xs (nI i + 2).toNatClampNeg)).1)), (4, .int (nI i)), (0, .ref b), (1, .ref (adD 0 0)), (2, .ref (adM 20 0)), (3, .ref (adD 22 0))]) hx hb dL_law_547 hl (by decide) rfl (fun ls hl => ?_)
  refine law_tail (t0 := 549) X hw hI1 hB1 (m_setPrice_lt C (xs (nI i + 1).toNatClampNeg) (xs (nI i + 2).toNatClampNeg)) hO.1 hO.2.1 (show cells + 1 + 0 ≤ 601024 by omega) (show slots + 6 + 0 ≤ 7293033 by omega) dL_law_549 dL_law_550 dL_law_553 dL_law_555 dL_law_560 dL_law_562 dL_law_565 dL_law_566 dL_law_567 dL_law_568 dL_law_570 dL_law_571 dL_law_572 hl (fun H locs hw => ?_)
  refine lv_goto (tgt := 1729) hx hb dL_law_577 (by decide) ?_
  exact kk _ _ _ _ _ _ _ _ (by show cells + 1 + 0 ≤ cells + 16; omega) (by show slots + 6 + 0 ≤ slots + 4096; omega) hI1 hB1 hO.2.2 hw (lv_sub hl [2, 3, 4, 5, 6] rfl)
set_option maxHeartbeats 2000000 in
set_option maxRecDepth 100000 in
theorem law_c6 (hst : l.stackTraces = false) {C M : gCT} (X : gX p s m #[.ref b] c cL_law RL 7 G A) (hw : gT2 G A s.heap H locs (gLvO C) adC (gF G C adC) (gLvR 34) adM (gF G M adM)) (hI : gInv C) (hB : MBI M) (hR : sRel n C M) (hn : n < 512) {L : Nat} {xs : Nat → Int32} (hX : va_X b L xs s s.heap) (hbl : b < s.heap.size) (hbA : ¬ A b) (h1 : vp_in (nI i + 1) L) (h2 : vp_in (nI i + 2) L) (h3 : vp_in (nI i + 3) L) (hc : cells + 16 ≤ 601024) (hs : slots + 4096 ≤ 7293033)
    (hl : lv_has ls 7 [(4, .int (nI i)), (0, .ref b), (1, .ref (adC 0 0)), (2, .ref (adM 20 0)), (3, .ref (adC 22 0))]) (kk : lawK p l e s m below meth c Q G A b adM i n cells slots) : W p l e room_1 s m #[.ref b] below meth c H locs cells slots Q (F0 m 580 ls []) := by
  have hx := X.1.1
  have hb := X.1.2.1
  refine lv_aload_n hx hb dL_law_580 rfl (lv_at hl 2 rfl) ?_
  refine lv_aload_n hx hb dL_law_581 rfl (lv_at hl 1 rfl) ?_
  refine lv_iload hx hb dL_law_582 (lv_at hl 0 rfl) ?_
  refine lv_iconst (v := 1) hx hb dL_law_584 (by decide) ?_
  refine lv_iadd hx hb dL_law_585 ?_
  refine va_sld hx hb hX hbl hbA hw.2.2.2 h1 dL_law_586 ?_
  refine lv_aload_n hx hb dL_law_587 rfl (lv_at hl 4 rfl) ?_
  refine t_w X hw (r_runSW X (c_w_reword l hst G C adC (xs (nI i + 1).toNatClampNeg) hI _) cw_reword ini_RL dd_reword ml_RL_126 ⟨(Nat.le_of_ble_eq_true rfl), (Nat.le_of_ble_eq_true rfl)⟩ gP.blind (gP_call X hw.wc _) rfl hl.1 rfl (Nat.le_of_ble_eq_true rfl) dL_law_588 ⟨show cells + 1 ≤ 601024 by omega, show slots + 6 ≤ 7293033 by omega⟩) (fun H locs adD hK hw => ?_)
  rw [← hK.1, ← hK.2] at hl
  refine lv_istore (lv' := [(5, .int (nI (m_reword C (xs (nI i + 1).toNatClampNeg)).1)), (4, .int (nI i)), (0, .ref b), (1, .ref (adD 0 0)), (2, .ref (adM 20 0)), (3, .ref (adD 22 0))]) hx hb dL_law_591 hl (by decide) rfl (fun ls hl => ?_)
  refine lv_aload_n hx hb dL_law_593 rfl (lv_at hl 4 rfl) ?_
  refine lv_aload_n hx hb dL_law_594 rfl (lv_at hl 2 rfl) ?_
  refine lv_iload hx hb dL_law_595 (lv_at hl 1 rfl) ?_
  refine lv_iconst (v := 1) hx hb dL_law_597 (by decide) ?_
  refine lv_iadd hx hb dL_law_598 ?_
  refine va_sld hx hb hX hbl hbA hw.2.2.2 h1 dL_law_599 ?_
  refine t_q X hw (r_runV X (c_q_reword l G _ adM M (xs (nI i + 1).toNatClampNeg) gLM_R hB _) cy_X6_reword ml_RL_128 ⟨(Nat.le_of_ble_eq_true rfl), (Nat.le_of_ble_eq_true rfl)⟩ gP.blind (g_recv X hw.wm 20 0 gLM_R.1 rfl rfl) (gP_call X hw.wm _) rfl hl.1 rfl (Nat.le_of_ble_eq_true rfl) dL_law_600 ⟨show cells + 1 + 0 ≤ 601024 by omega, show slots + 6 + 0 ≤ 7293033 by omega⟩) (fun H locs hB1 hw => ?_)
  have hO := s_reword hI hR (xs (nI i + 1).toNatClampNeg)
  have hI1 := w_out_inv (r := m_reword C (xs (nI i + 1).toNatClampNeg)) hI ((m_reword_str C (xs (nI i + 1).toNatClampNeg)).inv hI)
  refine lv_istore (lv' := [(6, .int (q_reword M (xs (nI i + 1).toNatClampNeg)).1), (5, .int (nI (m_reword C (xs (nI i + 1).toNatClampNeg)).1)), (4, .int (nI i)), (0, .ref b), (1, .ref (adD 0 0)), (2, .ref (adM 20 0)), (3, .ref (adD 22 0))]) hx hb dL_law_603 hl (by decide) rfl (fun ls hl => ?_)
  refine law_tail (t0 := 605) X hw hI1 hB1 (m_reword_lt C (xs (nI i + 1).toNatClampNeg)) hO.1 hO.2.1 (show cells + 1 + 0 ≤ 601024 by omega) (show slots + 6 + 0 ≤ 7293033 by omega) dL_law_605 dL_law_606 dL_law_609 dL_law_611 dL_law_616 dL_law_618 dL_law_621 dL_law_622 dL_law_623 dL_law_624 dL_law_626 dL_law_627 dL_law_628 hl (fun H locs hw => ?_)
  refine lv_goto (tgt := 1729) hx hb dL_law_633 (by decide) ?_
  exact kk _ _ _ _ _ _ _ _ (by show cells + 1 + 0 ≤ cells + 16; omega) (by show slots + 6 + 0 ≤ slots + 4096; omega) hI1 hB1 hO.2.2 hw (lv_sub hl [2, 3, 4, 5, 6] rfl)
set_option maxHeartbeats 2000000 in
set_option maxRecDepth 100000 in
theorem law_c7 (hst : l.stackTraces = false) {C M : gCT} (X : gX p s m #[.ref b] c cL_law RL 7 G A) (hw : gT2 G A s.heap H locs (gLvO C) adC (gF G C adC) (gLvR 34) adM (gF G M adM)) (hI : gInv C) (hB : MBI M) (hR : sRel n C M) (hn : n < 512) {L : Nat} {xs : Nat → Int32} (hX : va_X b L xs s s.heap) (hbl : b < s.heap.size) (hbA : ¬ A b) (h1 : vp_in (nI i + 1) L) (h2 : vp_in (nI i + 2) L) (h3 : vp_in (nI i + 3) L) (hc : cells + 16 ≤ 601024) (hs : slots + 4096 ≤ 7293033)
    (hl : lv_has ls 7 [(4, .int (nI i)), (0, .ref b), (1, .ref (adC 0 0)), (2, .ref (adM 20 0)), (3, .ref (adC 22 0))]) (kk : lawK p l e s m below meth c Q G A b adM i n cells slots) : W p l e room_1 s m #[.ref b] below meth c H locs cells slots Q (F0 m 636 ls []) := by
  have hx := X.1.1
  have hb := X.1.2.1
  refine lv_aload_n hx hb dL_law_636 rfl (lv_at hl 2 rfl) ?_
  refine lv_aload_n hx hb dL_law_637 rfl (lv_at hl 1 rfl) ?_
  refine lv_iload hx hb dL_law_638 (lv_at hl 0 rfl) ?_
  refine lv_iconst (v := 1) hx hb dL_law_640 (by decide) ?_
  refine lv_iadd hx hb dL_law_641 ?_
  refine va_sld hx hb hX hbl hbA hw.2.2.2 h1 dL_law_642 ?_
  refine lv_aload_n hx hb dL_law_643 rfl (lv_at hl 1 rfl) ?_
  refine lv_iload hx hb dL_law_644 (lv_at hl 0 rfl) ?_
  refine lv_iconst (v := 2) hx hb dL_law_646 (by decide) ?_
  refine lv_iadd hx hb dL_law_647 ?_
  refine va_sld hx hb hX hbl hbA hw.2.2.2 h2 dL_law_648 ?_
  refine lv_aload_n hx hb dL_law_649 rfl (lv_at hl 4 rfl) ?_
  refine t_w X hw (r_runSW X (c_w_begin l hst G C adC (xs (nI i + 1).toNatClampNeg) (xs (nI i + 2).toNatClampNeg) hI _) cw_begin ini_RL dd_begin ml_RL_129 ⟨(Nat.le_of_ble_eq_true rfl), (Nat.le_of_ble_eq_true rfl)⟩ gP.blind (gP_call X hw.wc _) rfl hl.1 rfl (Nat.le_of_ble_eq_true rfl) dL_law_650 ⟨show cells + 12 ≤ 601024 by omega, show slots + 2220 ≤ 7293033 by omega⟩) (fun H locs adD hK hw => ?_)
  rw [← hK.1, ← hK.2] at hl
  refine lv_istore (lv' := [(5, .int (nI (w_two (m_begin C (xs (nI i + 1).toNatClampNeg) (xs (nI i + 2).toNatClampNeg)).1))), (4, .int (nI i)), (0, .ref b), (1, .ref (adD 0 0)), (2, .ref (adM 20 0)), (3, .ref (adD 22 0))]) hx hb dL_law_653 hl (by decide) rfl (fun ls hl => ?_)
  refine lv_aload_n hx hb dL_law_655 rfl (lv_at hl 4 rfl) ?_
  refine lv_aload_n hx hb dL_law_656 rfl (lv_at hl 2 rfl) ?_
  refine lv_iload hx hb dL_law_657 (lv_at hl 1 rfl) ?_
  refine lv_iconst (v := 1) hx hb dL_law_659 (by decide) ?_
  refine lv_iadd hx hb dL_law_660 ?_
  refine va_sld hx hb hX hbl hbA hw.2.2.2 h1 dL_law_661 ?_
  refine lv_aload_n hx hb dL_law_662 rfl (lv_at hl 2 rfl) ?_
  refine lv_iload hx hb dL_law_663 (lv_at hl 1 rfl) ?_
  refine lv_iconst (v := 2) hx hb dL_law_665 (by decide) ?_
  refine lv_iadd hx hb dL_law_666 ?_
  refine va_sld hx hb hX hbl hbA hw.2.2.2 h2 dL_law_667 ?_
  refine t_q X hw (r_runV X (c_q_begin l G _ adM M (xs (nI i + 1).toNatClampNeg) (xs (nI i + 2).toNatClampNeg) gLM_R hB _) cy_X6_begin ml_RL_131 ⟨(Nat.le_of_ble_eq_true rfl), (Nat.le_of_ble_eq_true rfl)⟩ gP.blind (g_recv X hw.wm 20 0 gLM_R.1 rfl rfl) (gP_call X hw.wm _) rfl hl.1 rfl (Nat.le_of_ble_eq_true rfl) dL_law_668 ⟨show cells + 12 + 0 ≤ 601024 by omega, show slots + 2220 + 0 ≤ 7293033 by omega⟩) (fun H locs hB1 hw => ?_)
  have hO := s_begin hn hI hB hR (xs (nI i + 1).toNatClampNeg) (xs (nI i + 2).toNatClampNeg)
  have hI1 := w_out_inv (r := m_begin C (xs (nI i + 1).toNatClampNeg) (xs (nI i + 2).toNatClampNeg)) hI (m_begin_inv hI hR (xs (nI i + 1).toNatClampNeg) (xs (nI i + 2).toNatClampNeg))
  refine lv_istore (lv' := [(6, .int (q_begin M (xs (nI i + 1).toNatClampNeg) (xs (nI i + 2).toNatClampNeg)).1), (5, .int (nI (w_two (m_begin C (xs (nI i + 1).toNatClampNeg) (xs (nI i + 2).toNatClampNeg)).1))), (4, .int (nI i)), (0, .ref b), (1, .ref (adD 0 0)), (2, .ref (adM 20 0)), (3, .ref (adD 22 0))]) hx hb dL_law_671 hl (by decide) rfl (fun ls hl => ?_)
  refine law_tail (t0 := 673) X hw hI1 hB1 (w_two_lt (m_begin_lt C (xs (nI i + 1).toNatClampNeg) (xs (nI i + 2).toNatClampNeg))) hO.1 hO.2.1 (show cells + 12 + 0 ≤ 601024 by omega) (show slots + 2220 + 0 ≤ 7293033 by omega) dL_law_673 dL_law_674 dL_law_677 dL_law_679 dL_law_684 dL_law_686 dL_law_689 dL_law_690 dL_law_691 dL_law_692 dL_law_694 dL_law_695 dL_law_696 hl (fun H locs hw => ?_)
  refine lv_goto (tgt := 1729) hx hb dL_law_701 (by decide) ?_
  exact kk _ _ _ _ _ _ _ _ (by show cells + 12 + 0 ≤ cells + 16; omega) (by show slots + 2220 + 0 ≤ slots + 4096; omega) hI1 hB1 hO.2.2 hw (lv_sub hl [2, 3, 4, 5, 6] rfl)
set_option maxHeartbeats 2000000 in
set_option maxRecDepth 100000 in
theorem law_c8 (hst : l.stackTraces = false) {C M : gCT} (X : gX p s m #[.ref b] c cL_law RL 7 G A) (hw : gT2 G A s.heap H locs (gLvO C) adC (gF G C adC) (gLvR 34) adM (gF G M adM)) (hI : gInv C) (hB : MBI M) (hR : sRel n C M) (hn : n < 512) {L : Nat} {xs : Nat → Int32} (hX : va_X b L xs s s.heap) (hbl : b < s.heap.size) (hbA : ¬ A b) (h1 : vp_in (nI i + 1) L) (h2 : vp_in (nI i + 2) L) (h3 : vp_in (nI i + 3) L) (hc : cells + 16 ≤ 601024) (hs : slots + 4096 ≤ 7293033)
    (hl : lv_has ls 7 [(4, .int (nI i)), (0, .ref b), (1, .ref (adC 0 0)), (2, .ref (adM 20 0)), (3, .ref (adC 22 0))]) (kk : lawK p l e s m below meth c Q G A b adM i n cells slots) : W p l e room_1 s m #[.ref b] below meth c H locs cells slots Q (F0 m 704 ls []) := by
  have hx := X.1.1
  have hb := X.1.2.1
  refine lv_aload_n hx hb dL_law_704 rfl (lv_at hl 2 rfl) ?_
  refine lv_aload_n hx hb dL_law_705 rfl (lv_at hl 1 rfl) ?_
  refine lv_iload hx hb dL_law_706 (lv_at hl 0 rfl) ?_
  refine lv_iconst (v := 1) hx hb dL_law_708 (by decide) ?_
  refine lv_iadd hx hb dL_law_709 ?_
  refine va_sld hx hb hX hbl hbA hw.2.2.2 h1 dL_law_710 ?_
  refine lv_aload_n hx hb dL_law_711 rfl (lv_at hl 1 rfl) ?_
  refine lv_iload hx hb dL_law_712 (lv_at hl 0 rfl) ?_
  refine lv_iconst (v := 2) hx hb dL_law_714 (by decide) ?_
  refine lv_iadd hx hb dL_law_715 ?_
  refine va_sld hx hb hX hbl hbA hw.2.2.2 h2 dL_law_716 ?_
  refine lv_aload_n hx hb dL_law_717 rfl (lv_at hl 4 rfl) ?_
  refine t_w X hw (r_runSW X (c_w_answer l hst G C adC (xs (nI i + 1).toNatClampNeg) (xs (nI i + 2).toNatClampNeg) hI _) cw_answer ini_RL dd_answer ml_RL_132 ⟨(Nat.le_of_ble_eq_true rfl), (Nat.le_of_ble_eq_true rfl)⟩ gP.blind (gP_call X hw.wc _) rfl hl.1 rfl (Nat.le_of_ble_eq_true rfl) dL_law_718 ⟨show cells + 4 ≤ 601024 by omega, show slots + 2120 ≤ 7293033 by omega⟩) (fun H locs adD hK hw => ?_)
  rw [← hK.1, ← hK.2] at hl
  refine lv_istore (lv' := [(5, .int (nI (m_answer C (xs (nI i + 1).toNatClampNeg) (xs (nI i + 2).toNatClampNeg)).1)), (4, .int (nI i)), (0, .ref b), (1, .ref (adD 0 0)), (2, .ref (adM 20 0)), (3, .ref (adD 22 0))]) hx hb dL_law_721 hl (by decide) rfl (fun ls hl => ?_)
  refine lv_aload_n hx hb dL_law_723 rfl (lv_at hl 4 rfl) ?_
  refine lv_aload_n hx hb dL_law_724 rfl (lv_at hl 2 rfl) ?_
  refine lv_iload hx hb dL_law_725 (lv_at hl 1 rfl) ?_
  refine lv_iconst (v := 1) hx hb dL_law_727 (by decide) ?_
  refine lv_iadd hx hb dL_law_728 ?_
  refine va_sld hx hb hX hbl hbA hw.2.2.2 h1 dL_law_729 ?_
  refine lv_aload_n hx hb dL_law_730 rfl (lv_at hl 2 rfl) ?_
  refine lv_iload hx hb dL_law_731 (lv_at hl 1 rfl) ?_
  refine lv_iconst (v := 2) hx hb dL_law_733 (by decide) ?_
  refine lv_iadd hx hb dL_law_734 ?_
  refine va_sld hx hb hX hbl hbA hw.2.2.2 h2 dL_law_735 ?_
  refine t_q X hw (r_runV X (c_q_answer l G _ adM M (xs (nI i + 1).toNatClampNeg) (xs (nI i + 2).toNatClampNeg) gLM_R hB (hR.ask hI) (hR.count hn) _) cy_X6_answer ml_RL_134 ⟨(Nat.le_of_ble_eq_true rfl), (Nat.le_of_ble_eq_true rfl)⟩ gP.blind (g_recv X hw.wm 20 0 gLM_R.1 rfl rfl) (gP_call X hw.wm _) rfl hl.1 rfl (Nat.le_of_ble_eq_true rfl) dL_law_736 ⟨show cells + 4 + 0 ≤ 601024 by omega, show slots + 2120 + 0 ≤ 7293033 by omega⟩) (fun H locs hB1 hw => ?_)
  have hO := s_answer hn hI hB hR (xs (nI i + 1).toNatClampNeg) (xs (nI i + 2).toNatClampNeg)
  have hI1 := w_out_inv (r := m_answer C (xs (nI i + 1).toNatClampNeg) (xs (nI i + 2).toNatClampNeg)) hI (m_answer_inv hI (xs (nI i + 1).toNatClampNeg) (xs (nI i + 2).toNatClampNeg))
  refine lv_istore (lv' := [(6, .int (q_answer M (xs (nI i + 1).toNatClampNeg) (xs (nI i + 2).toNatClampNeg)).1), (5, .int (nI (m_answer C (xs (nI i + 1).toNatClampNeg) (xs (nI i + 2).toNatClampNeg)).1)), (4, .int (nI i)), (0, .ref b), (1, .ref (adD 0 0)), (2, .ref (adM 20 0)), (3, .ref (adD 22 0))]) hx hb dL_law_739 hl (by decide) rfl (fun ls hl => ?_)
  refine law_tail (t0 := 741) X hw hI1 hB1 (m_answer_lt C (xs (nI i + 1).toNatClampNeg) (xs (nI i + 2).toNatClampNeg)) hO.1 hO.2.1 (show cells + 4 + 0 ≤ 601024 by omega) (show slots + 2120 + 0 ≤ 7293033 by omega) dL_law_741 dL_law_742 dL_law_745 dL_law_747 dL_law_752 dL_law_754 dL_law_757 dL_law_758 dL_law_759 dL_law_760 dL_law_762 dL_law_763 dL_law_764 hl (fun H locs hw => ?_)
  refine lv_goto (tgt := 1729) hx hb dL_law_769 (by decide) ?_
  exact kk _ _ _ _ _ _ _ _ (by show cells + 4 + 0 ≤ cells + 16; omega) (by show slots + 2120 + 0 ≤ slots + 4096; omega) hI1 hB1 hO.2.2 hw (lv_sub hl [2, 3, 4, 5, 6] rfl)
set_option maxHeartbeats 2000000 in
set_option maxRecDepth 100000 in
theorem law_c11 (hst : l.stackTraces = false) {C M : gCT} (X : gX p s m #[.ref b] c cL_law RL 7 G A) (hw : gT2 G A s.heap H locs (gLvO C) adC (gF G C adC) (gLvR 34) adM (gF G M adM)) (hI : gInv C) (hB : MBI M) (hR : sRel n C M) (hn : n < 512) {L : Nat} {xs : Nat → Int32} (hX : va_X b L xs s s.heap) (hbl : b < s.heap.size) (hbA : ¬ A b) (h1 : vp_in (nI i + 1) L) (h2 : vp_in (nI i + 2) L) (h3 : vp_in (nI i + 3) L) (hc : cells + 16 ≤ 601024) (hs : slots + 4096 ≤ 7293033)
    (hl : lv_has ls 7 [(4, .int (nI i)), (0, .ref b), (1, .ref (adC 0 0)), (2, .ref (adM 20 0)), (3, .ref (adC 22 0))]) (kk : lawK p l e s m below meth c Q G A b adM i n cells slots) : W p l e room_1 s m #[.ref b] below meth c H locs cells slots Q (F0 m 871 ls []) := by
  have hx := X.1.1
  have hb := X.1.2.1
  refine lv_aload_n hx hb dL_law_871 rfl (lv_at hl 2 rfl) ?_
  refine lv_aload_n hx hb dL_law_872 rfl (lv_at hl 1 rfl) ?_
  refine lv_iload hx hb dL_law_873 (lv_at hl 0 rfl) ?_
  refine lv_iconst (v := 1) hx hb dL_law_875 (by decide) ?_
  refine lv_iadd hx hb dL_law_876 ?_
  refine va_sld hx hb hX hbl hbA hw.2.2.2 h1 dL_law_877 ?_
  refine lv_aload_n hx hb dL_law_878 rfl (lv_at hl 4 rfl) ?_
  refine t_w X hw (r_runSW X (c_w_leave l hst G C adC (xs (nI i + 1).toNatClampNeg) hI _) cw_leave ini_RL dd_leave ml_RL_142 ⟨(Nat.le_of_ble_eq_true rfl), (Nat.le_of_ble_eq_true rfl)⟩ gP.blind (gP_call X hw.wc _) rfl hl.1 rfl (Nat.le_of_ble_eq_true rfl) dL_law_879 ⟨show cells + 2 ≤ 601024 by omega, show slots + 12 ≤ 7293033 by omega⟩) (fun H locs adD hK hw => ?_)
  rw [← hK.1, ← hK.2] at hl
  refine lv_istore (lv' := [(5, .int (nI (w_two (m_leave C (xs (nI i + 1).toNatClampNeg)).1))), (4, .int (nI i)), (0, .ref b), (1, .ref (adD 0 0)), (2, .ref (adM 20 0)), (3, .ref (adD 22 0))]) hx hb dL_law_882 hl (by decide) rfl (fun ls hl => ?_)
  refine lv_aload_n hx hb dL_law_884 rfl (lv_at hl 4 rfl) ?_
  refine lv_aload_n hx hb dL_law_885 rfl (lv_at hl 2 rfl) ?_
  refine lv_iload hx hb dL_law_886 (lv_at hl 1 rfl) ?_
  refine lv_iconst (v := 1) hx hb dL_law_888 (by decide) ?_
  refine lv_iadd hx hb dL_law_889 ?_
  refine va_sld hx hb hX hbl hbA hw.2.2.2 h1 dL_law_890 ?_
  refine t_q X hw (r_runV X (c_q_leave l G _ adM M (xs (nI i + 1).toNatClampNeg) gLM_R hB _) cy_X6_leave ml_RL_144 ⟨(Nat.le_of_ble_eq_true rfl), (Nat.le_of_ble_eq_true rfl)⟩ gP.blind (g_recv X hw.wm 20 0 gLM_R.1 rfl rfl) (gP_call X hw.wm _) rfl hl.1 rfl (Nat.le_of_ble_eq_true rfl) dL_law_891 ⟨show cells + 2 + 0 ≤ 601024 by omega, show slots + 12 + 0 ≤ 7293033 by omega⟩) (fun H locs hB1 hw => ?_)
  have hO := s_leave hI hB hR (xs (nI i + 1).toNatClampNeg)
  have hI1 := w_out_inv (r := m_leave C (xs (nI i + 1).toNatClampNeg)) hI ((m_leave_str C (xs (nI i + 1).toNatClampNeg)).inv hI)
  refine lv_istore (lv' := [(6, .int (q_leave M (xs (nI i + 1).toNatClampNeg)).1), (5, .int (nI (w_two (m_leave C (xs (nI i + 1).toNatClampNeg)).1))), (4, .int (nI i)), (0, .ref b), (1, .ref (adD 0 0)), (2, .ref (adM 20 0)), (3, .ref (adD 22 0))]) hx hb dL_law_894 hl (by decide) rfl (fun ls hl => ?_)
  refine law_tail (t0 := 896) X hw hI1 hB1 (w_two_lt (m_leave_lt C (xs (nI i + 1).toNatClampNeg))) hO.1 hO.2.1 (show cells + 2 + 0 ≤ 601024 by omega) (show slots + 12 + 0 ≤ 7293033 by omega) dL_law_896 dL_law_897 dL_law_900 dL_law_902 dL_law_907 dL_law_909 dL_law_912 dL_law_913 dL_law_914 dL_law_915 dL_law_917 dL_law_918 dL_law_919 hl (fun H locs hw => ?_)
  refine lv_goto (tgt := 1729) hx hb dL_law_924 (by decide) ?_
  exact kk _ _ _ _ _ _ _ _ (by show cells + 2 + 0 ≤ cells + 16; omega) (by show slots + 12 + 0 ≤ slots + 4096; omega) hI1 hB1 hO.2.2 hw (lv_sub hl [2, 3, 4, 5, 6] rfl)
end LC

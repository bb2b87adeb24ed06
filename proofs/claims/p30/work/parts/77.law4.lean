/-! ===== the law publishes ===== -/
section LC
variable {p : Program} {l : Launch} {e : Env} {s : State} {m : MethodId} {below : List Frame} {meth : Method} {c : Code} {Q : State → Prop} {G : gG} {A : Nat → Prop} {b a0 : Nat} {bb : Nat → Nat} {i run : Nat}
set_option maxHeartbeats 4000000 in
set_option maxRecDepth 100000 in
theorem law_pub (hstk : l.stackTraces = false) {C : gCT} {H : Heap} {locs : List Loc} {cells slots cells0 slots0 v f kd k : Nat} {fd : Int32} {ls : Array Slot} (X : gX p s m #[.ref b] c cL_law RL 22 G A) (hw : tW G A s.heap H locs C a0 bb) (hJ : kJ (11 * i + k) fd C) (hi : i < 60) (hk : k ≤ 9) (hDr : kDr C) (hEn : kEn1 C) (hf : f < 3) (hc0 : cells0 ≤ 600000) (hs0 : slots0 ≤ 7290000) (hc : cells ≤ cells0 + 2 * k) (hs : slots ≤ slots0 + 12 * k) (hl : lv_has ls 22 [(14, .int (nI v)), (13, .int (nI run)), (12, .int (nI f)), (11, .int (nI kd)), (8, .int (nI i)), (7, .int 1), (6, .int fd), (5, .int (nI (gRc C))), (4, .ref (bb 2)), (3, .ref (bb 1)), (2, .ref (bb 0)), (1, .ref a0), (0, .ref b)]) (kk : lawJ p l e s m below meth c Q G A b a0 bb i run cells0 slots0) : W p l e room_1 s m #[.ref b] below meth c H locs cells slots Q (F0 m 385 ls []) := by
  have hx := X.1.1; have hb := X.1.2.1; have hown := X.1.2.2.2.1; have hts := X.1.2.2.2.2; have hI := hJ.1
  have hvn := hI.vn (show f < 4 by omega)
  obtain ⟨j, hj24, ej⟩ := hvn.2.2
  have eDf : C 22 0 f = nI j := (hDr f (by omega)).1.trans ej
  have eVs : C 22 1 f = nI (gVn C f) := (hDr f (by omega)).2.trans hvn.2.1
  refine lv_aload_n hx hb dL_law_385 rfl (lv_at hl 10 rfl) ?_
  refine lv_iload hx hb dL_law_386 (lv_at hl 2 rfl) ?_
  refine t_ald X hw (k := 0) (i := f) (by decide) (show f < gLw 0 by show f < 4; omega) dL_law_388 ?_
  rw [eDf]
  by_cases cj : j = 0
  · have e1 := f_pub0 hI (show f < 4 by omega) (Or.inl (by rw [ej, cj]; rfl))
    refine lv_if_le (tgt := 405) hx hb dL_law_389 (by decide) (fun _ => ?_) (fun z => False.elim (z (by rw [cj]; decide)))
    refine lv_iconst (v := 0) hx hb dL_law_405 (by decide) ?_
    refine lv_istore (lv' := [(16, .int 0), (14, .int (nI v)), (13, .int (nI run)), (12, .int (nI f)), (11, .int (nI kd)), (8, .int (nI i)), (7, .int 1), (6, .int fd), (5, .int (nI (gRc C))), (4, .ref (bb 2)), (3, .ref (bb 1)), (2, .ref (bb 0)), (1, .ref a0), (0, .ref b)]) hx hb dL_law_406 hl (by decide) rfl (fun ls hl => ?_)
    refine lv_iload hx hb dL_law_408 (lv_at hl 6 rfl) ?_
    refine lv_if_eq (tgt := 440) hx hb dL_law_410 (by decide) (fun z => False.elim (absurd z (by decide))) (fun _ => ?_)
    refine lv_aload_n hx hb dL_law_413 rfl (lv_at hl 12 rfl) ?_
    refine lv_iload hx hb dL_law_414 (lv_at hl 3 rfl) ?_
    refine t_publish hstk X hI hw (rv3 e1) (rd3 e1) ml_RL_135 ⟨(Nat.le_of_ble_eq_true rfl), (Nat.le_of_ble_eq_true rfl)⟩ hl.1 (Nat.le_of_ble_eq_true rfl) dL_law_416 (by show _ ≤ 600590; omega) (by show _ ≤ 7299698; omega) (fun H locs cells slots ec es hw => ?_)
    refine lv_iload hx hb dL_law_419 (lv_at hl 0 rfl) ?_
    refine lv_if_eq (tgt := 431) hx hb dL_law_421 (by decide) (fun _ => ?_) (fun z => False.elim (z rfl))
    refine lv_bipush (v := (-103)) hx hb dL_law_431 (by decide) ?_
    refine lv_icmp_ne (tgt := 440) hx hb dL_law_433 (by decide) (fun z => False.elim (z rfl)) (fun _ => ?_)
    refine lv_iconst (v := 1) hx hb dL_law_436 (by decide) ?_
    refine lv_goto (tgt := 441) hx hb dL_law_437 (by decide) ?_
    refine lv_istore (lv' := [(7, .int 1), (16, .int 0), (14, .int (nI v)), (13, .int (nI run)), (12, .int (nI f)), (11, .int (nI kd)), (8, .int (nI i)), (6, .int fd), (5, .int (nI (gRc C))), (4, .ref (bb 2)), (3, .ref (bb 1)), (2, .ref (bb 0)), (1, .ref a0), (0, .ref b)]) hx hb dL_law_441 hl (by decide) rfl (fun ls hl => ?_)
    refine lv_aload_n hx hb dL_law_443 rfl (lv_at hl 10 rfl) ?_
    refine lv_iload hx hb dL_law_444 (lv_at hl 4 rfl) ?_
    refine lv_dup2_11 hx hb dL_law_446 rfl rfl ?_
    refine t_ald X hw (k := 1) (i := f) (by decide) (show f < gLw 1 by show f < 4; omega) dL_law_447 ?_
    refine lv_iload hx hb dL_law_448 (lv_at hl 1 rfl) ?_
    refine lv_if_eq (tgt := 457) hx hb dL_law_450 (by decide) (fun _ => ?_) (fun z => False.elim (z rfl))
    refine lv_iconst (v := 0) hx hb dL_law_457 (by decide) ?_
    refine lv_iadd hx hb dL_law_458 ?_
    refine t_ast X hw (k := 1) (i := f) (by decide) (show f < gLw 1 by show _ < 4; omega) dL_law_459 (fun H locs hw => ?_)
    refine lv_aload_n hx hb dL_law_460 rfl (lv_at hl 11 rfl) ?_
    refine lv_iload hx hb dL_law_461 (lv_at hl 4 rfl) ?_
    refine lv_iload hx hb dL_law_463 (lv_at hl 1 rfl) ?_
    refine lv_if_eq (tgt := 472) hx hb dL_law_465 (by decide) (fun _ => ?_) (fun z => False.elim (z rfl))
    refine lv_aload_n hx hb dL_law_472 rfl (lv_at hl 11 rfl) ?_
    refine lv_iload hx hb dL_law_473 (lv_at hl 4 rfl) ?_
    rw [Int32.add_zero] at hw
    refine t_ald X hw (k := 0) (i := f) (by decide) (show f < gLw 0 by show f < 4; omega) dL_law_475 ?_
    refine t_ast X hw (k := 0) (i := f) (by decide) (show f < gLw 0 by show _ < 4; omega) dL_law_476 (fun H locs hw => ?_)
    have eId : ∀ q : Nat, cs C 22 q f (C 22 q f) = C := fun q => by funext κ n j; rw [cs_rd]; by_cases h : κ = 22 ∧ n = q ∧ j = f; (rw [if_pos h, h.1, h.2.1, h.2.2]); (rw [if_neg h])
    rw [eId 1, eId 0] at hw
    refine lv_goto (tgt := 1269) hx hb dL_law_477 (by decide) ?_
    exact kk C fd _ _ _ _ _ (by omega) (by omega) (hJ.up (by omega)) hDr hEn.z hw (lv_sub hl [3, 6, 0, 7, 8, 9, 10, 11, 12, 13] rfl)
  · refine lv_if_le (tgt := 405) hx hb dL_law_389 (by decide) (fun z => False.elim (absurd z (nI_nle (by omega) (by omega)))) (fun _ => ?_)
    refine lv_aload_n hx hb dL_law_392 rfl (lv_at hl 9 rfl) ?_
    refine lv_iload hx hb dL_law_393 (lv_at hl 2 rfl) ?_
    refine t_ald X hw (k := 1) (i := f) (by decide) (show f < gLw 1 by show f < 4; omega) dL_law_395 ?_
    rw [eVs]
    refine lv_bipush (v := 6) hx hb dL_law_396 (by decide) ?_
    by_cases c6 : gVn C f = 6
    · have e1 := f_pub0 hI (show f < 4 by omega) (Or.inr c6)
      refine lv_icmp_ge (tgt := 405) hx hb dL_law_398 (by decide) (fun _ => ?_) (fun z => False.elim (z (by rw [c6]; decide)))
      refine lv_iconst (v := 0) hx hb dL_law_405 (by decide) ?_
      refine lv_istore (lv' := [(16, .int 0), (14, .int (nI v)), (13, .int (nI run)), (12, .int (nI f)), (11, .int (nI kd)), (8, .int (nI i)), (7, .int 1), (6, .int fd), (5, .int (nI (gRc C))), (4, .ref (bb 2)), (3, .ref (bb 1)), (2, .ref (bb 0)), (1, .ref a0), (0, .ref b)]) hx hb dL_law_406 hl (by decide) rfl (fun ls hl => ?_)
      refine lv_iload hx hb dL_law_408 (lv_at hl 6 rfl) ?_
      refine lv_if_eq (tgt := 440) hx hb dL_law_410 (by decide) (fun z => False.elim (absurd z (by decide))) (fun _ => ?_)
      refine lv_aload_n hx hb dL_law_413 rfl (lv_at hl 12 rfl) ?_
      refine lv_iload hx hb dL_law_414 (lv_at hl 3 rfl) ?_
      refine t_publish hstk X hI hw (rv3 e1) (rd3 e1) ml_RL_135 ⟨(Nat.le_of_ble_eq_true rfl), (Nat.le_of_ble_eq_true rfl)⟩ hl.1 (Nat.le_of_ble_eq_true rfl) dL_law_416 (by show _ ≤ 600590; omega) (by show _ ≤ 7299698; omega) (fun H locs cells slots ec es hw => ?_)
      refine lv_iload hx hb dL_law_419 (lv_at hl 0 rfl) ?_
      refine lv_if_eq (tgt := 431) hx hb dL_law_421 (by decide) (fun _ => ?_) (fun z => False.elim (z rfl))
      refine lv_bipush (v := (-103)) hx hb dL_law_431 (by decide) ?_
      refine lv_icmp_ne (tgt := 440) hx hb dL_law_433 (by decide) (fun z => False.elim (z rfl)) (fun _ => ?_)
      refine lv_iconst (v := 1) hx hb dL_law_436 (by decide) ?_
      refine lv_goto (tgt := 441) hx hb dL_law_437 (by decide) ?_
      refine lv_istore (lv' := [(7, .int 1), (16, .int 0), (14, .int (nI v)), (13, .int (nI run)), (12, .int (nI f)), (11, .int (nI kd)), (8, .int (nI i)), (6, .int fd), (5, .int (nI (gRc C))), (4, .ref (bb 2)), (3, .ref (bb 1)), (2, .ref (bb 0)), (1, .ref a0), (0, .ref b)]) hx hb dL_law_441 hl (by decide) rfl (fun ls hl => ?_)
      refine lv_aload_n hx hb dL_law_443 rfl (lv_at hl 10 rfl) ?_
      refine lv_iload hx hb dL_law_444 (lv_at hl 4 rfl) ?_
      refine lv_dup2_11 hx hb dL_law_446 rfl rfl ?_
      refine t_ald X hw (k := 1) (i := f) (by decide) (show f < gLw 1 by show f < 4; omega) dL_law_447 ?_
      refine lv_iload hx hb dL_law_448 (lv_at hl 1 rfl) ?_
      refine lv_if_eq (tgt := 457) hx hb dL_law_450 (by decide) (fun _ => ?_) (fun z => False.elim (z rfl))
      refine lv_iconst (v := 0) hx hb dL_law_457 (by decide) ?_
      refine lv_iadd hx hb dL_law_458 ?_
      refine t_ast X hw (k := 1) (i := f) (by decide) (show f < gLw 1 by show _ < 4; omega) dL_law_459 (fun H locs hw => ?_)
      refine lv_aload_n hx hb dL_law_460 rfl (lv_at hl 11 rfl) ?_
      refine lv_iload hx hb dL_law_461 (lv_at hl 4 rfl) ?_
      refine lv_iload hx hb dL_law_463 (lv_at hl 1 rfl) ?_
      refine lv_if_eq (tgt := 472) hx hb dL_law_465 (by decide) (fun _ => ?_) (fun z => False.elim (z rfl))
      refine lv_aload_n hx hb dL_law_472 rfl (lv_at hl 11 rfl) ?_
      refine lv_iload hx hb dL_law_473 (lv_at hl 4 rfl) ?_
      rw [Int32.add_zero] at hw
      refine t_ald X hw (k := 0) (i := f) (by decide) (show f < gLw 0 by show f < 4; omega) dL_law_475 ?_
      refine t_ast X hw (k := 0) (i := f) (by decide) (show f < gLw 0 by show _ < 4; omega) dL_law_476 (fun H locs hw => ?_)
      have eId : ∀ q : Nat, cs C 22 q f (C 22 q f) = C := fun q => by funext κ n j; rw [cs_rd]; by_cases h : κ = 22 ∧ n = q ∧ j = f; (rw [if_pos h, h.1, h.2.1, h.2.2]); (rw [if_neg h])
      rw [eId 1, eId 0] at hw
      refine lv_goto (tgt := 1269) hx hb dL_law_477 (by decide) ?_
      exact kk C fd _ _ _ _ _ (by omega) (by omega) (hJ.up (by omega)) hDr hEn.z hw (lv_sub hl [3, 6, 0, 7, 8, 9, 10, 11, 12, 13] rfl)
    · have hv6 : gVn C f < 6 := by have := hvn.1; omega
      refine lv_icmp_ge (tgt := 405) hx hb dL_law_398 (by decide) (fun z => False.elim (absurd ((nat_le (show (6 : Int32) = nI 6 from rfl) rfl (by decide) (by omega)).mp z) (by omega))) (fun _ => ?_)
      have e1 := f_pub hI (show f < 4 by omega) (by rw [ej]; exact nI_ne0 (by omega) (by omega)) hv6
      have hJ1 := j_pub (show f < 4 by omega) hv6 hJ
      have eV := m_mv_vn hI (show f < 4 by omega)
      have eR := m_mv_rc C f
      have dk := fun κ => @m_mv_k C f κ
      have dn := fun κ n => @m_mv_n C f κ n
      have d4 := m_mv_4 C f
      have d14 := @m_mv_d C f 14 (Or.inl rfl)
      generalize m_makeVersion C f = D at *
      have k22 : D 22 = C 22 := dk 22 (by decide) (by decide) (by decide) (by decide)
      have e22 : D 22 1 f = nI (gVn C f) := by rw [k22]; exact eVs
      refine lv_iconst (v := 1) hx hb dL_law_401 (by decide) ?_
      refine lv_goto (tgt := 406) hx hb dL_law_402 (by decide) ?_
      refine lv_istore (lv' := [(16, .int 1), (14, .int (nI v)), (13, .int (nI run)), (12, .int (nI f)), (11, .int (nI kd)), (8, .int (nI i)), (7, .int 1), (6, .int fd), (5, .int (nI (gRc C))), (4, .ref (bb 2)), (3, .ref (bb 1)), (2, .ref (bb 0)), (1, .ref a0), (0, .ref b)]) hx hb dL_law_406 hl (by decide) rfl (fun ls hl => ?_)
      refine lv_iload hx hb dL_law_408 (lv_at hl 6 rfl) ?_
      refine lv_if_eq (tgt := 440) hx hb dL_law_410 (by decide) (fun z => False.elim (absurd z (by decide))) (fun _ => ?_)
      refine lv_aload_n hx hb dL_law_413 rfl (lv_at hl 12 rfl) ?_
      refine lv_iload hx hb dL_law_414 (lv_at hl 3 rfl) ?_
      refine t_publish hstk X hI hw (rv0 e1) (rd0 e1) ml_RL_135 ⟨(Nat.le_of_ble_eq_true rfl), (Nat.le_of_ble_eq_true rfl)⟩ hl.1 (Nat.le_of_ble_eq_true rfl) dL_law_416 (by show _ ≤ 600590; omega) (by show _ ≤ 7299698; omega) (fun H locs cells slots ec es hw => ?_)
      refine lv_iload hx hb dL_law_419 (lv_at hl 0 rfl) ?_
      refine lv_if_eq (tgt := 431) hx hb dL_law_421 (by decide) (fun z => False.elim (absurd z (by decide))) (fun _ => ?_)
      refine lv_aload_n hx hb dL_law_424 rfl (lv_at hl 10 rfl) ?_
      refine lv_iload hx hb dL_law_425 (lv_at hl 3 rfl) ?_
      refine t_ald X hw (k := 1) (i := f) (by decide) (show f < gLw 1 by show f < 4; omega) dL_law_427 ?_
      refine lv_goto (tgt := 433) hx hb dL_law_428 (by decide) ?_
      refine lv_icmp_ne (tgt := 440) hx hb dL_law_433 (by decide) (fun z => False.elim (z e22.symm)) (fun _ => ?_)
      refine lv_iconst (v := 1) hx hb dL_law_436 (by decide) ?_
      refine lv_goto (tgt := 441) hx hb dL_law_437 (by decide) ?_
      refine lv_istore (lv' := [(7, .int 1), (16, .int 1), (14, .int (nI v)), (13, .int (nI run)), (12, .int (nI f)), (11, .int (nI kd)), (8, .int (nI i)), (6, .int fd), (5, .int (nI (gRc C))), (4, .ref (bb 2)), (3, .ref (bb 1)), (2, .ref (bb 0)), (1, .ref a0), (0, .ref b)]) hx hb dL_law_441 hl (by decide) rfl (fun ls hl => ?_)
      refine lv_aload_n hx hb dL_law_443 rfl (lv_at hl 10 rfl) ?_
      refine lv_iload hx hb dL_law_444 (lv_at hl 4 rfl) ?_
      refine lv_dup2_11 hx hb dL_law_446 rfl rfl ?_
      refine t_ald X hw (k := 1) (i := f) (by decide) (show f < gLw 1 by show f < 4; omega) dL_law_447 ?_
      refine lv_iload hx hb dL_law_448 (lv_at hl 1 rfl) ?_
      refine lv_if_eq (tgt := 457) hx hb dL_law_450 (by decide) (fun z => False.elim (absurd z (by decide))) (fun _ => ?_)
      refine lv_iconst (v := 1) hx hb dL_law_453 (by decide) ?_
      refine lv_goto (tgt := 458) hx hb dL_law_454 (by decide) ?_
      refine lv_iadd hx hb dL_law_458 ?_
      refine t_ast X hw (k := 1) (i := f) (by decide) (show f < gLw 1 by show _ < 4; omega) dL_law_459 (fun H locs hw => ?_)
      rw [e22, nI_1] at hw
      refine lv_aload_n hx hb dL_law_460 rfl (lv_at hl 11 rfl) ?_
      refine lv_iload hx hb dL_law_461 (lv_at hl 4 rfl) ?_
      refine lv_iload hx hb dL_law_463 (lv_at hl 1 rfl) ?_
      refine lv_if_eq (tgt := 472) hx hb dL_law_465 (by decide) (fun z => False.elim (absurd z (by decide))) (fun _ => ?_)
      refine lv_iconst (v := 0) hx hb dL_law_468 (by decide) ?_
      refine lv_goto (tgt := 476) hx hb dL_law_469 (by decide) ?_
      refine t_ast X hw (k := 0) (i := f) (by decide) (show f < gLw 0 by show _ < 4; omega) dL_law_476 (fun H locs hw => ?_)
      refine lv_goto (tgt := 1269) hx hb dL_law_477 (by decide) ?_
      have kk2 : ∀ κ, κ ≠ 22 → cs (cs D 22 1 f (nI (gVn C f + 1))) 22 0 f 0 κ = D κ := fun κ hk => (cs_k _ _ _ _ hk).trans (cs_k _ _ _ _ hk)
      have eR2 : gRc (cs (cs D 22 1 f (nI (gVn C f + 1))) 22 0 f 0) = gRc C := (congrArg (fun h : Nat → Nat → Int32 => (h 24 1).toNatClampNeg) (kk2 2 (by decide))).trans eR
      have eV2 : ∀ g, gVn (cs (cs D 22 1 f (nI (gVn C f + 1))) 22 0 f 0) g = if g = f then gVn C f + 1 else gVn C g := fun g => (congrArg (fun h : Nat → Nat → Int32 => (h g 0).toNatClampNeg) (kk2 4 (by decide))).trans (eV g)
      refine kk (cs (cs D 22 1 f (nI (gVn C f + 1))) 22 0 f 0) fd _ _ _ _ _ (by omega) (by omega) ((kJ22 kk2 hJ1).up (by omega)) ?_ (kEn1.z (hEn.s (by rw [kk2 2 (by decide), dk 2 (by decide) (by decide) (by decide) (by decide)]) (by rw [kk2 11 (by decide), dk 11 (by decide) (by decide) (by decide) (by decide)]) (by rw [cs_n _ _ _ _ (by decide), cs_n _ _ _ _ (by decide), k22]))) hw (by rw [eR2]; exact lv_sub hl [3, 6, 0, 7, 8, 9, 10, 11, 12, 13] rfl)
      intro g hg
      rw [eV2, kk2 14 (by decide), kk2 4 (by decide), cs_rd _ 22 0 f, cs_rd _ 22 0 f, cs_rd _ 22 1 f, cs_rd _ 22 1 f, k22]
      by_cases eg : g = f
      · subst eg
        rw [if_pos rfl, if_pos ⟨rfl, rfl, rfl⟩, if_neg (fun z => absurd z.2.1 (by decide)), if_pos ⟨rfl, rfl, rfl⟩, show 8 * g + (gVn C g + 1) + 1 = 8 * g + gVn C g + 2 by omega, d14, d4, upd_s, hvn.2.1, nI_1]
        exact ⟨rfl, rfl⟩
      · have hvg := (hI.vn hg).1
        have hvf := hvn.1
        rw [if_neg eg, if_neg (fun z => eg z.2.2), if_neg (fun z => absurd z.2.1 (by decide)), if_neg (fun z => absurd z.2.1 (by decide)), if_neg (fun z => eg z.2.2), dn 14 _ (fun z => absurd z.1 (by decide)) (fun z => by have := z.2; omega), dn 4 g (fun z => eg z.2) (fun z => by have := z.1; omega)]
        exact hDr g hg
set_option maxHeartbeats 4000000 in
set_option maxRecDepth 100000 in
theorem law_wr (hstk : l.stackTraces = false) {v f kd many cells0 slots0 : Nat} {fd : Int32} {L : Nat} {xs : Nat → Int32} (X : gX p s m #[.ref b] c cL_law RL 22 G A) (hL : L < 2 ^ 31) (hX : va_X b L xs s s.heap) (hbl : b < s.heap.size) (hbA : ¬ A b) (hi : i < 60) (hm9 : many ≤ 9) (hf : f < 3) (hv : v < 2 ^ 31) (hc0 : cells0 ≤ 600000) (hs0 : slots0 ≤ 7290000) (kk : lawJ p l e s m below meth c Q G A b a0 bb i run cells0 slots0) : ∀ (j k : Nat), k + j = many → wrK p l e s m below meth c Q G A b a0 bb i run many v f kd k cells0 slots0 fd := by
  have hx := X.1.1; have hb := X.1.2.1
  intro j
  induction j with
  | zero =>
    intro k hk C H locs cells slots ls hc hs hJ hDr hEn hw hl
    obtain rfl : k = many := by omega
    refine lv_iload hx hb dL_law_128 (lv_at hl 0 rfl) ?_
    refine lv_iload hx hb dL_law_130 (lv_at hl 1 rfl) ?_
    refine lv_icmp_ge (tgt := 385) hx hb dL_law_132 (by decide) (fun _ => ?_) (fun z => False.elim (z ((nat_le rfl rfl (by omega) (by omega)).mpr (Nat.le_refl _))))
    exact law_pub hstk X hw hJ hi hm9 hDr hEn hf hc0 hs0 hc hs (lv_sub hl [2, 3, 4, 5, 6, 7, 8, 9, 10, 11, 12, 13, 14] rfl) kk
  | succ j ih =>
    intro k hk C H locs cells slots ls hc hs hJ hDr hEn hw hl
    exact law_w1 hstk X hw hJ hi (by omega) hDr hEn hf hv hc0 hs0 hc hs hL hX hbl hbA (by omega) hm9 (ih (k + 1) (by omega)) hl
set_option maxHeartbeats 4000000 in
set_option maxRecDepth 100000 in
theorem law_k0 (hstk : l.stackTraces = false) {C : gCT} {H : Heap} {locs : List Loc} {cells slots v f kd : Nat} {fd : Int32} {ls : Array Slot} (X : gX p s m #[.ref b] c cL_law RL 22 G A) (hw : tW G A s.heap H locs C a0 bb) (hJ : kJ (11 * i) fd C) (hi : i < 60) (hDr : kDr C) (hEn : kEn1 C) (hf : f < 3) (hv : v < 2 ^ 31) (hc : cells ≤ 600000) (hs : slots ≤ 7290000) {L : Nat} {xs : Nat → Int32} (hL : L < 2 ^ 31) (hX : va_X b L xs s s.heap) (hbl : b < s.heap.size) (hbA : ¬ A b) (hl : lv_has ls 22 [(14, .int (nI v)), (13, .int (nI run)), (12, .int (nI f)), (11, .int (nI kd)), (8, .int (nI i)), (7, .int 1), (6, .int fd), (5, .int (nI (gRc C))), (4, .ref (bb 2)), (3, .ref (bb 1)), (2, .ref (bb 0)), (1, .ref a0), (0, .ref b)]) (kk : lawJ p l e s m below meth c Q G A b a0 bb i run cells slots) : W p l e room_1 s m #[.ref b] below meth c H locs cells slots Q (F0 m 116 ls []) := by
  have hx := X.1.1; have hb := X.1.2.1; have hown := X.1.2.2.2.1; have hts := X.1.2.2.2.2; have hI := hJ.1
  refine lv_iconst (v := 2) hx hb dL_law_116 (by decide) ?_
  refine lv_iload hx hb dL_law_117 (lv_at hl 0 rfl) ?_
  refine lv_bipush (v := 8) hx hb dL_law_119 (by decide) ?_
  refine lv_irem hx hb dL_law_121 (by decide) ?_
  rw [show ((nI v) - (nI v) / 8 * 8 : Int32) = nI (v % 8) from pk_rem hv (by decide) (by decide)]
  refine lv_iadd hx hb dL_law_122 ?_
  rw [show ((2 + (nI (v % 8))) : Int32) = nI (2 + v % 8) from nI_add 2 _]
  refine lv_istore (lv' := [(15, .int (nI (2 + v % 8))), (14, .int (nI v)), (13, .int (nI run)), (12, .int (nI f)), (11, .int (nI kd)), (8, .int (nI i)), (7, .int 1), (6, .int fd), (5, .int (nI (gRc C))), (4, .ref (bb 2)), (3, .ref (bb 1)), (2, .ref (bb 0)), (1, .ref a0), (0, .ref b)]) hx hb dL_law_123 hl (by decide) rfl (fun ls hl => ?_)
  refine lv_iconst (v := 0) hx hb dL_law_125 (by decide) ?_
  refine lv_istore (lv' := [(16, .int 0), (15, .int (nI (2 + v % 8))), (14, .int (nI v)), (13, .int (nI run)), (12, .int (nI f)), (11, .int (nI kd)), (8, .int (nI i)), (7, .int 1), (6, .int fd), (5, .int (nI (gRc C))), (4, .ref (bb 2)), (3, .ref (bb 1)), (2, .ref (bb 0)), (1, .ref a0), (0, .ref b)]) hx hb dL_law_126 hl (by decide) rfl (fun ls hl => ?_)
  exact law_wr hstk X hL hX hbl hbA hi (show 2 + v % 8 ≤ 9 by omega) hf hv hc hs kk (2 + v % 8) 0 (Nat.zero_add _) C H locs cells slots ls (by omega) (by omega) hJ hDr hEn hw (lv_sub hl [0, 1, 2, 3, 4, 5, 6, 7, 8, 9, 10, 11, 12, 13, 14] rfl)
end LC

/-! ===== the law: what stands at its loop's places ===== -/
/-- drafts and versions, as the law counts them -/
def kDr (C : gCT) : Prop := ∀ f, f < 4 → C 22 0 f = C 14 (8 * f + gVn C f + 1) 0 ∧ C 22 1 f = C 4 f 0
/-- what the law remembers as ended: at the loop's head, and before it is looked at -/
def kEn1 (C : gCT) : Prop := ∀ k, k < 24 → (k < gRc C → C 22 2 k = if 1 < C 11 k 4 then C 11 k 4 else 0) ∧ (gRc C ≤ k → C 22 2 k = 0)
def kEn0 (C : gCT) : Prop := ∀ k, k < 24 → (k < gRc C → C 22 2 k = 0 ∨ C 22 2 k = C 11 k 4) ∧ (gRc C ≤ k → C 22 2 k = 0)
theorem kEn1.x {C D : gCT} (h : kEn1 C) (hX : kX C D) : kEn0 D := by
  intro k hk
  obtain ⟨h1, h2⟩ := h k hk
  obtain ⟨x22, -, -, xr, xe⟩ := hX
  rw [x22]
  by_cases c : k < gRc C
  · refine ⟨fun _ => ?_, fun q => absurd c (by omega)⟩
    rw [h1 c]
    by_cases e : 1 < C 11 k 4
    · rw [if_pos e]; exact Or.inr (xe k c e).symm
    · rw [if_neg e]; exact Or.inl rfl
  · exact ⟨fun _ => Or.inl (h2 (by omega)), fun _ => h2 (by omega)⟩
theorem kDr.x {C D : gCT} (h : kDr C) (hX : kX C D) : kDr D := by
  obtain ⟨x22, x14, x4, -, -⟩ := hX
  have eV : gVn D = gVn C := by funext f; unfold gVn; rw [x4]
  intro f hf
  rw [x22, x14, x4, eV]
  exact h f hf
/-- the law's locals, at the head of its loop, before a kind's piece, behind it -/
def LH (b a0 : Nat) (bb : Nat → Nat) (i rc : Nat) (fd : Int32) : List (Nat × Value) := [(8, .int (nI i)), (7, .int 1), (6, .int fd), (5, .int (nI rc)), (4, .ref (bb 2)), (3, .ref (bb 1)), (2, .ref (bb 0)), (1, .ref a0), (0, .ref b)]
def lawJ (p : Program) (l : Launch) (e : Env) (s : State) (m : MethodId) (below : List Frame) (meth : Method) (c : Code) (Q : State → Prop) (G : gG) (A : Nat → Prop) (b a0 : Nat) (bb : Nat → Nat) (i run cells slots : Nat) : Prop := ∀ (D : gCT) (fd : Int32) (H1 : Heap) (locs1 : List Loc) (cells1 slots1 : Nat) (ls1 : Array Slot), cells1 ≤ cells + 60 → slots1 ≤ slots + 5000 → kJ (11 * i + 11) fd D → kDr D → kEn0 D → tW G A s.heap H1 locs1 D a0 bb → lv_has ls1 22 [(13, .int (nI run)), (8, .int (nI i)), (7, .int 1), (6, .int fd), (5, .int (nI (gRc D))), (4, .ref (bb 2)), (3, .ref (bb 1)), (2, .ref (bb 0)), (1, .ref a0), (0, .ref b)] → W p l e room_1 s m #[.ref b] below meth c H1 locs1 cells1 slots1 Q (F0 m 1269 ls1 [])
section LC
variable {p : Program} {l : Launch} {e : Env} {s : State} {m : MethodId} {below : List Frame} {meth : Method} {c : Code} {Q : State → Prop} {G : gG} {A : Nat → Prop} {b a0 : Nat} {bb : Nat → Nat} {i run : Nat}
set_option maxHeartbeats 4000000 in
set_option maxRecDepth 100000 in
theorem law_k2 (hstk : l.stackTraces = false) {C : gCT} {H : Heap} {locs : List Loc} {cells slots v f kd : Nat} {fd : Int32} {ls : Array Slot} (X : gX p s m #[.ref b] c cL_law RL 22 G A) (hw : tW G A s.heap H locs C a0 bb) (hJ : kJ (11 * i) fd C) (hi : i < 60) (hDr : kDr C) (hEn : kEn1 C) (hf : f < 3) (hv : v < 2 ^ 31) (hc : cells ≤ 600000) (hs : slots ≤ 7290000) (hl : lv_has ls 22 [(14, .int (nI v)), (13, .int (nI run)), (12, .int (nI f)), (11, .int (nI kd)), (8, .int (nI i)), (7, .int 1), (6, .int fd), (5, .int (nI (gRc C))), (4, .ref (bb 2)), (3, .ref (bb 1)), (2, .ref (bb 0)), (1, .ref a0), (0, .ref b)]) (kk : lawJ p l e s m below meth c Q G A b a0 bb i run cells slots) : W p l e room_1 s m #[.ref b] below meth c H locs cells slots Q (F0 m 486 ls []) := by
  have hx := X.1.1; have hb := X.1.2.1; have hown := X.1.2.2.2.1; have hts := X.1.2.2.2.2; have hI := hJ.1
  obtain ⟨⟨pc, hpc, epc⟩, -⟩ := hJ.2.2.1 (v % 16) (by omega)
  refine lv_aload_n hx hb dL_law_486 rfl (lv_at hl 11 rfl) ?_
  refine lv_iload hx hb dL_law_487 (lv_at hl 0 rfl) ?_
  refine lv_bipush (v := 16) hx hb dL_law_489 (by decide) ?_
  refine lv_irem hx hb dL_law_491 (by decide) ?_
  rw [show ((nI v) - (nI v) / 16 * 16 : Int32) = nI (v % 16) from pk_rem hv (by decide) (by decide)]
  refine lv_iload hx hb dL_law_492 (lv_at hl 0 rfl) ?_
  refine lv_bipush (v := 16) hx hb dL_law_494 (by decide) ?_
  refine lv_idiv hx hb dL_law_496 (by decide) ?_
  rw [show ((nI v) / 16 : Int32) = nI (v / 16) from pk_div hv (by decide) (by decide)]
  refine lv_sipush (v := 1001) hx hb dL_law_497 (by decide) ?_
  refine lv_irem hx hb dL_law_500 (by decide) ?_
  rw [show ((nI (v / 16)) - (nI (v / 16)) / 1001 * 1001 : Int32) = nI (v / 16 % 1001) from pk_rem (by omega) (by decide) (by decide)]
  have e1 := f_price C (show v % 16 < 16 by omega) (show v / 16 % 1001 ≤ 1000 by omega)
  refine t_setPrice hstk X hI hw (rv0 (e1.trans (by rw [epc]))) (rd0 e1) ml_RL_137 ⟨(Nat.le_of_ble_eq_true rfl), (Nat.le_of_ble_eq_true rfl)⟩ hl.1 (Nat.le_of_ble_eq_true rfl) dL_law_501 (by show _ ≤ 600590; omega) (by show _ ≤ 7299698; omega) (fun H locs cells slots ec es hw => ?_)
  have hJ1 := j_price (q := v % 16) (show v / 16 % 1001 ≤ 1000 by omega) hJ
  have hI1 := hI
  have hI := hJ1.1
  refine lv_if_lt (tgt := 540) hx hb dL_law_504 (by decide) (fun z => False.elim (absurd z (nI_pos (by omega)))) (fun _ => ?_)
  refine lv_aload_n hx hb dL_law_507 rfl (lv_at hl 11 rfl) ?_
  refine lv_iload hx hb dL_law_508 (lv_at hl 0 rfl) ?_
  refine lv_bipush (v := 16) hx hb dL_law_510 (by decide) ?_
  refine lv_irem hx hb dL_law_512 (by decide) ?_
  rw [show ((nI v) - (nI v) / 16 * 16 : Int32) = nI (v % 16) from pk_rem hv (by decide) (by decide)]
  refine lv_iload hx hb dL_law_513 (lv_at hl 0 rfl) ?_
  refine lv_bipush (v := 16) hx hb dL_law_515 (by decide) ?_
  refine lv_idiv hx hb dL_law_517 (by decide) ?_
  rw [show ((nI v) / 16 : Int32) = nI (v / 16) from pk_div hv (by decide) (by decide)]
  refine lv_bipush (v := 60) hx hb dL_law_518 (by decide) ?_
  refine lv_irem hx hb dL_law_520 (by decide) ?_
  rw [show ((nI (v / 16)) - (nI (v / 16)) / 60 * 60 : Int32) = nI (v / 16 % 60) from pk_rem (by omega) (by decide) (by decide)]
  have e2 := f_price (cs C 17 0 (v % 16) (nI (v / 16 % 1001))) (show v % 16 < 16 by omega) (show v / 16 % 60 ≤ 1000 by omega)
  refine t_setPrice hstk X hI hw (rv0 (e2.trans (by rw [cs_s]))) (rd0 e2) ml_RL_137 ⟨(Nat.le_of_ble_eq_true rfl), (Nat.le_of_ble_eq_true rfl)⟩ hl.1 (Nat.le_of_ble_eq_true rfl) dL_law_521 (by show _ ≤ 600590; omega) (by show _ ≤ 7299698; omega) (fun H locs cells slots ec es hw => ?_)
  have hJ2 := j_price (q := v % 16) (show v / 16 % 60 ≤ 1000 by omega) hJ1
  refine lv_iload hx hb dL_law_524 (lv_at hl 0 rfl) ?_
  refine lv_bipush (v := 16) hx hb dL_law_526 (by decide) ?_
  refine lv_idiv hx hb dL_law_528 (by decide) ?_
  rw [show ((nI v) / 16 : Int32) = nI (v / 16) from pk_div hv (by decide) (by decide)]
  refine lv_sipush (v := 1001) hx hb dL_law_529 (by decide) ?_
  refine lv_irem hx hb dL_law_532 (by decide) ?_
  rw [show ((nI (v / 16)) - (nI (v / 16)) / 1001 * 1001 : Int32) = nI (v / 16 % 1001) from pk_rem (by omega) (by decide) (by decide)]
  refine lv_icmp_ne (tgt := 540) hx hb dL_law_533 (by decide) (fun z => False.elim (z rfl)) (fun _ => ?_)
  have eR : gRc (cs (cs C 17 0 (v % 16) (nI (v / 16 % 1001))) 17 0 (v % 16) (nI (v / 16 % 60))) = gRc C := by unfold gRc; rw [cs_k _ _ _ _ (by decide), cs_k _ _ _ _ (by decide)]
  refine lv_iconst (v := 1) hx hb dL_law_536 (by decide) ?_
  refine lv_goto (tgt := 541) hx hb dL_law_537 (by decide) ?_
  refine lv_istore (lv' := [(7, .int 1), (14, .int (nI v)), (13, .int (nI run)), (12, .int (nI f)), (11, .int (nI kd)), (8, .int (nI i)), (6, .int fd), (5, .int (nI (gRc C))), (4, .ref (bb 2)), (3, .ref (bb 1)), (2, .ref (bb 0)), (1, .ref a0), (0, .ref b)]) hx hb dL_law_541 hl (by decide) rfl (fun ls hl => ?_)
  refine lv_goto (tgt := 1269) hx hb dL_law_543 (by decide) ?_
  have hX : kX C (cs (cs C 17 0 (v % 16) (nI (v / 16 % 1001))) 17 0 (v % 16) (nI (v / 16 % 60))) := (kX.cs (Or.inl rfl)).tr (kX.cs (Or.inl rfl))
  have hl2 := lv_sub hl [2, 5, 0, 6, 7, 8, 9, 10, 11, 12] rfl
  refine kk (cs (cs C 17 0 (v % 16) (nI (v / 16 % 1001))) 17 0 (v % 16) (nI (v / 16 % 60))) (fd) _ _ _ _ _ (by omega) (by omega) (kJ.up (hJ2) (by omega)) (hDr.x hX) (hEn.x hX) hw ?_
  rw [eR]; exact hl2
set_option maxHeartbeats 4000000 in
set_option maxRecDepth 100000 in
theorem law_k3 (hstk : l.stackTraces = false) {C : gCT} {H : Heap} {locs : List Loc} {cells slots v f kd : Nat} {fd : Int32} {ls : Array Slot} (X : gX p s m #[.ref b] c cL_law RL 22 G A) (hw : tW G A s.heap H locs C a0 bb) (hJ : kJ (11 * i) fd C) (hi : i < 60) (hDr : kDr C) (hEn : kEn1 C) (hf : f < 3) (hv : v < 2 ^ 31) (hc : cells ≤ 600000) (hs : slots ≤ 7290000) (hl : lv_has ls 22 [(14, .int (nI v)), (13, .int (nI run)), (12, .int (nI f)), (11, .int (nI kd)), (8, .int (nI i)), (7, .int 1), (6, .int fd), (5, .int (nI (gRc C))), (4, .ref (bb 2)), (3, .ref (bb 1)), (2, .ref (bb 0)), (1, .ref a0), (0, .ref b)]) (kk : lawJ p l e s m below meth c Q G A b a0 bb i run cells slots) : W p l e room_1 s m #[.ref b] below meth c H locs cells slots Q (F0 m 552 ls []) := by
  have hx := X.1.1; have hb := X.1.2.1; have hown := X.1.2.2.2.1; have hts := X.1.2.2.2.2; have hI := hJ.1
  refine lv_iload hx hb dL_law_552 (lv_at hl 6 rfl) ?_
  refine lv_iconst (v := 1) hx hb dL_law_554 (by decide) ?_
  refine lv_iload hx hb dL_law_555 (lv_at hl 0 rfl) ?_
  refine lv_sipush (v := 3000) hx hb dL_law_557 (by decide) ?_
  refine lv_irem hx hb dL_law_560 (by decide) ?_
  rw [show ((nI v) - (nI v) / 3000 * 3000 : Int32) = nI (v % 3000) from pk_rem hv (by decide) (by decide)]
  refine lv_iadd hx hb dL_law_561 ?_
  rw [show ((1 + (nI (v % 3000))) : Int32) = nI (1 + v % 3000) from nI_add 1 _]
  refine lv_iadd hx hb dL_law_562 ?_
  refine lv_istore (lv' := [(6, .int (fd + (nI (1 + v % 3000)))), (14, .int (nI v)), (13, .int (nI run)), (12, .int (nI f)), (11, .int (nI kd)), (8, .int (nI i)), (7, .int 1), (5, .int (nI (gRc C))), (4, .ref (bb 2)), (3, .ref (bb 1)), (2, .ref (bb 0)), (1, .ref a0), (0, .ref b)]) hx hb dL_law_563 hl (by decide) rfl (fun ls hl => ?_)
  refine lv_aload_n hx hb dL_law_565 rfl (lv_at hl 11 rfl) ?_
  refine lv_iload hx hb dL_law_566 (lv_at hl 3 rfl) ?_
  refine lv_iconst (v := 1) hx hb dL_law_568 (by decide) ?_
  refine lv_iload hx hb dL_law_569 (lv_at hl 1 rfl) ?_
  refine lv_sipush (v := 3000) hx hb dL_law_571 (by decide) ?_
  refine lv_irem hx hb dL_law_574 (by decide) ?_
  rw [show ((nI v) - (nI v) / 3000 * 3000 : Int32) = nI (v % 3000) from pk_rem hv (by decide) (by decide)]
  refine lv_iadd hx hb dL_law_575 ?_
  rw [show ((1 + (nI (v % 3000))) : Int32) = nI (1 + v % 3000) from nI_add 1 _]
  have e1 := f_fund C (show f < 4 by omega) (show 1 ≤ 1 + v % 3000 by omega) (show 1 + v % 3000 ≤ 100000 by omega)
  obtain ⟨bu, hbu, ebu⟩ := hJ.2.2.2.2.1.2.1 f (by omega)
  refine t_fund hstk X hI hw (rv0 (e1.trans (by rw [ebu, nI_add]))) (rd0 (e1.trans (by rw [ebu, nI_add]))) ml_RL_140 ⟨(Nat.le_of_ble_eq_true rfl), (Nat.le_of_ble_eq_true rfl)⟩ hl.1 (Nat.le_of_ble_eq_true rfl) dL_law_576 (by show _ ≤ 600590; omega) (by show _ ≤ 7299698; omega) (fun H locs cells slots ec es hw => ?_)
  have hJ1 := j_fund (f := f) (c := 1 + v % 3000) (by omega) (by omega) (by omega) hJ
  rw [ebu, nI_add] at hJ1
  refine lv_if_le (tgt := 586) hx hb dL_law_579 (by decide) (fun z => False.elim (absurd z (nI_nle (by omega) (by omega)))) (fun _ => ?_)
  have eR : gRc (cs C 4 f 2 (nI (bu + (1 + v % 3000)))) = gRc C := by unfold gRc; rw [cs_k _ _ _ _ (by decide)]
  refine lv_iconst (v := 1) hx hb dL_law_582 (by decide) ?_
  refine lv_goto (tgt := 587) hx hb dL_law_583 (by decide) ?_
  refine lv_istore (lv' := [(7, .int 1), (6, .int (fd + (nI (1 + v % 3000)))), (14, .int (nI v)), (13, .int (nI run)), (12, .int (nI f)), (11, .int (nI kd)), (8, .int (nI i)), (5, .int (nI (gRc C))), (4, .ref (bb 2)), (3, .ref (bb 1)), (2, .ref (bb 0)), (1, .ref a0), (0, .ref b)]) hx hb dL_law_587 hl (by decide) rfl (fun ls hl => ?_)
  refine lv_goto (tgt := 1269) hx hb dL_law_589 (by decide) ?_
  have hX : kX C (cs C 4 f 2 (nI (bu + (1 + v % 3000)))) := kX.cs (Or.inr (Or.inr (Or.inr ⟨rfl, by decide⟩)))
  have hl2 := lv_sub hl [3, 6, 0, 1, 7, 8, 9, 10, 11, 12] rfl
  refine kk (cs C 4 f 2 (nI (bu + (1 + v % 3000)))) (fd + nI (1 + v % 3000)) _ _ _ _ _ (by omega) (by omega) (kJ.up (hJ1) (by omega)) (hDr.x hX) (hEn.x hX) hw ?_
  rw [eR]; exact hl2
set_option maxHeartbeats 4000000 in
set_option maxRecDepth 100000 in
theorem law_k4 (hstk : l.stackTraces = false) {C : gCT} {H : Heap} {locs : List Loc} {cells slots v f kd : Nat} {fd : Int32} {ls : Array Slot} (X : gX p s m #[.ref b] c cL_law RL 22 G A) (hw : tW G A s.heap H locs C a0 bb) (hJ : kJ (11 * i) fd C) (hi : i < 60) (hDr : kDr C) (hEn : kEn1 C) (hf : f < 3) (hv : v < 2 ^ 31) (hc : cells ≤ 600000) (hs : slots ≤ 7290000) (hl : lv_has ls 22 [(14, .int (nI v)), (13, .int (nI run)), (12, .int (nI f)), (11, .int (nI kd)), (8, .int (nI i)), (7, .int 1), (6, .int fd), (5, .int (nI (gRc C))), (4, .ref (bb 2)), (3, .ref (bb 1)), (2, .ref (bb 0)), (1, .ref a0), (0, .ref b)]) (kk : lawJ p l e s m below meth c Q G A b a0 bb i run cells slots) : W p l e room_1 s m #[.ref b] below meth c H locs cells slots Q (F0 m 598 ls []) := by
  have hx := X.1.1; have hb := X.1.2.1; have hown := X.1.2.2.2.1; have hts := X.1.2.2.2.2; have hI := hJ.1
  obtain ⟨⟨F, hF1, hF2, eF⟩, hq, -⟩ := hJ.2.1 f (by omega)
  obtain ⟨qu, hqu, equ⟩ := hq (v % 4) (by omega)
  refine lv_aload_n hx hb dL_law_598 rfl (lv_at hl 11 rfl) ?_
  refine lv_iload hx hb dL_law_599 (lv_at hl 2 rfl) ?_
  refine lv_iload hx hb dL_law_601 (lv_at hl 0 rfl) ?_
  refine lv_iconst (v := 4) hx hb dL_law_603 (by decide) ?_
  refine lv_irem hx hb dL_law_604 (by decide) ?_
  rw [show ((nI v) - (nI v) / 4 * 4 : Int32) = nI (v % 4) from pk_rem hv (by decide) (by decide)]
  refine lv_iload hx hb dL_law_605 (lv_at hl 0 rfl) ?_
  refine lv_iconst (v := 4) hx hb dL_law_607 (by decide) ?_
  refine lv_idiv hx hb dL_law_608 (by decide) ?_
  rw [show ((nI v) / 4 : Int32) = nI (v / 4) from pk_div hv (by decide) (by decide)]
  refine lv_bipush (v := 21) hx hb dL_law_609 (by decide) ?_
  refine lv_irem hx hb dL_law_611 (by decide) ?_
  rw [show ((nI (v / 4)) - (nI (v / 4)) / 21 * 21 : Int32) = nI (v / 4 % 21) from pk_rem (by omega) (by decide) (by decide)]
  have e1 := f_quota C (show f < 4 by omega) (show v % 4 < 4 by omega) (show v / 4 % 21 ≤ 20 by omega)
  refine t_setQuota hstk X hI hw (rv0 (e1.trans (by rw [equ]))) (rd0 e1) ml_RL_142 ⟨(Nat.le_of_ble_eq_true rfl), (Nat.le_of_ble_eq_true rfl)⟩ hl.1 (Nat.le_of_ble_eq_true rfl) dL_law_612 (by show _ ≤ 600590; omega) (by show _ ≤ 7299698; omega) (fun H locs cells slots ec es hw => ?_)
  have hJ1 := j_quota (f := f) (p := v % 4) (show v / 4 % 21 ≤ 20 by omega) hJ
  have hI := hJ1.1
  refine lv_if_lt (tgt := 643) hx hb dL_law_615 (by decide) (fun z => False.elim (absurd z (nI_pos (by omega)))) (fun _ => ?_)
  refine lv_aload_n hx hb dL_law_618 rfl (lv_at hl 11 rfl) ?_
  refine lv_iload hx hb dL_law_619 (lv_at hl 2 rfl) ?_
  refine lv_iconst (v := 1) hx hb dL_law_621 (by decide) ?_
  refine lv_iload hx hb dL_law_622 (lv_at hl 0 rfl) ?_
  refine lv_bipush (v := 84) hx hb dL_law_624 (by decide) ?_
  refine lv_idiv hx hb dL_law_626 (by decide) ?_
  rw [show ((nI v) / 84 : Int32) = nI (v / 84) from pk_div hv (by decide) (by decide)]
  refine lv_sipush (v := 200) hx hb dL_law_627 (by decide) ?_
  refine lv_irem hx hb dL_law_630 (by decide) ?_
  rw [show ((nI (v / 84)) - (nI (v / 84)) / 200 * 200 : Int32) = nI (v / 84 % 200) from pk_rem (by omega) (by decide) (by decide)]
  refine lv_iadd hx hb dL_law_631 ?_
  rw [show ((1 + (nI (v / 84 % 200))) : Int32) = nI (1 + v / 84 % 200) from nI_add 1 _]
  have e2 := f_fuels (cs C 5 f (v % 4) (nI (v / 4 % 21))) (show f < 4 by omega) (show 1 ≤ 1 + v / 84 % 200 by omega) (show 1 + v / 84 % 200 ≤ 200 by omega)
  refine t_setFuel hstk X hI hw (rv0 (e2.trans (by rw [cs_k _ _ _ _ (by decide), eF]))) (rd0 e2) ml_RL_145 ⟨(Nat.le_of_ble_eq_true rfl), (Nat.le_of_ble_eq_true rfl)⟩ hl.1 (Nat.le_of_ble_eq_true rfl) dL_law_632 (by show _ ≤ 600590; omega) (by show _ ≤ 7299698; omega) (fun H locs cells slots ec es hw => ?_)
  have hJ2 := j_fuels (f := f) (show 1 ≤ 1 + v / 84 % 200 by omega) (show 1 + v / 84 % 200 ≤ 200 by omega) hJ1
  refine lv_iconst (v := 1) hx hb dL_law_635 (by decide) ?_
  refine lv_icmp_lt (tgt := 643) hx hb dL_law_636 (by decide) (fun z => False.elim (absurd ((nat_lt rfl (show (1 : Int32) = nI 1 from rfl) (by omega) (by decide)).mp z) (by omega))) (fun _ => ?_)
  have eR : gRc (cs (cs C 5 f (v % 4) (nI (v / 4 % 21))) 4 f 1 (nI (1 + v / 84 % 200))) = gRc C := by unfold gRc; rw [cs_k _ _ _ _ (by decide), cs_k _ _ _ _ (by decide)]
  refine lv_iconst (v := 1) hx hb dL_law_639 (by decide) ?_
  refine lv_goto (tgt := 644) hx hb dL_law_640 (by decide) ?_
  refine lv_istore (lv' := [(7, .int 1), (14, .int (nI v)), (13, .int (nI run)), (12, .int (nI f)), (11, .int (nI kd)), (8, .int (nI i)), (6, .int fd), (5, .int (nI (gRc C))), (4, .ref (bb 2)), (3, .ref (bb 1)), (2, .ref (bb 0)), (1, .ref a0), (0, .ref b)]) hx hb dL_law_644 hl (by decide) rfl (fun ls hl => ?_)
  refine lv_goto (tgt := 1269) hx hb dL_law_646 (by decide) ?_
  have hX : kX C (cs (cs C 5 f (v % 4) (nI (v / 4 % 21))) 4 f 1 (nI (1 + v / 84 % 200))) := (kX.cs (Or.inr (Or.inr (Or.inl rfl)))).tr (kX.cs (Or.inr (Or.inr (Or.inr ⟨rfl, by decide⟩))))
  have hl2 := lv_sub hl [2, 5, 0, 6, 7, 8, 9, 10, 11, 12] rfl
  refine kk (cs (cs C 5 f (v % 4) (nI (v / 4 % 21))) 4 f 1 (nI (1 + v / 84 % 200))) (fd) _ _ _ _ _ (by omega) (by omega) (kJ.up (hJ2) (by omega)) (hDr.x hX) (hEn.x hX) hw ?_
  rw [eR]; exact hl2
set_option maxHeartbeats 4000000 in
set_option maxRecDepth 100000 in
theorem law_k5 (hstk : l.stackTraces = false) {C : gCT} {H : Heap} {locs : List Loc} {cells slots v f kd : Nat} {fd : Int32} {ls : Array Slot} (X : gX p s m #[.ref b] c cL_law RL 22 G A) (hw : tW G A s.heap H locs C a0 bb) (hJ : kJ (11 * i) fd C) (hi : i < 60) (hDr : kDr C) (hEn : kEn1 C) (hf : f < 3) (hv : v < 2 ^ 31) (hc : cells ≤ 600000) (hs : slots ≤ 7290000) (hl : lv_has ls 22 [(14, .int (nI v)), (13, .int (nI run)), (12, .int (nI f)), (11, .int (nI kd)), (8, .int (nI i)), (7, .int 1), (6, .int fd), (5, .int (nI (gRc C))), (4, .ref (bb 2)), (3, .ref (bb 1)), (2, .ref (bb 0)), (1, .ref a0), (0, .ref b)]) (kk : lawJ p l e s m below meth c Q G A b a0 bb i run cells slots) : W p l e room_1 s m #[.ref b] below meth c H locs cells slots Q (F0 m 655 ls []) := by
  have hx := X.1.1; have hb := X.1.2.1; have hown := X.1.2.2.2.1; have hts := X.1.2.2.2.2; have hI := hJ.1
  obtain ⟨-, wo, hwo, ewo⟩ := hJ.2.2.1 (v % 16) (by omega)
  refine lv_aload_n hx hb dL_law_655 rfl (lv_at hl 11 rfl) ?_
  refine lv_iload hx hb dL_law_656 (lv_at hl 0 rfl) ?_
  refine lv_bipush (v := 16) hx hb dL_law_658 (by decide) ?_
  refine lv_irem hx hb dL_law_660 (by decide) ?_
  rw [show ((nI v) - (nI v) / 16 * 16 : Int32) = nI (v % 16) from pk_rem hv (by decide) (by decide)]
  have e1 : m_reword C (nI (v % 16)) = (0, nI (wo + 1), cs C 18 0 (v % 16) (nI (wo + 1))) := (f_reword C (show v % 16 < 16 by omega)).trans (by rw [ewo, nI_1])
  refine t_reword hstk X hI hw (rv0 e1) (rd0 e1) ml_RL_148 ⟨(Nat.le_of_ble_eq_true rfl), (Nat.le_of_ble_eq_true rfl)⟩ hl.1 (Nat.le_of_ble_eq_true rfl) dL_law_661 (by show _ ≤ 600590; omega) (by show _ ≤ 7299698; omega) (fun H locs cells slots ec es hw => ?_)
  have hJ1 := j_reword (q := v % 16) hJ
  rw [ewo, nI_1] at hJ1
  have hI := hJ1.1
  refine lv_istore (lv' := [(15, .int (nI (wo + 1))), (14, .int (nI v)), (13, .int (nI run)), (12, .int (nI f)), (11, .int (nI kd)), (8, .int (nI i)), (7, .int 1), (6, .int fd), (5, .int (nI (gRc C))), (4, .ref (bb 2)), (3, .ref (bb 1)), (2, .ref (bb 0)), (1, .ref a0), (0, .ref b)]) hx hb dL_law_664 hl (by decide) rfl (fun ls hl => ?_)
  refine lv_iload hx hb dL_law_666 (lv_at hl 0 rfl) ?_
  refine lv_if_le (tgt := 691) hx hb dL_law_668 (by decide) (fun z => False.elim (absurd z (nI_nle (by omega) (by omega)))) (fun _ => ?_)
  refine lv_aload_n hx hb dL_law_671 rfl (lv_at hl 12 rfl) ?_
  refine lv_iload hx hb dL_law_672 (lv_at hl 1 rfl) ?_
  refine lv_bipush (v := 16) hx hb dL_law_674 (by decide) ?_
  refine lv_irem hx hb dL_law_676 (by decide) ?_
  rw [show ((nI v) - (nI v) / 16 * 16 : Int32) = nI (v % 16) from pk_rem hv (by decide) (by decide)]
  have e2 : m_reword (cs C 18 0 (v % 16) (nI (wo + 1))) (nI (v % 16)) = (0, nI (wo + 1 + 1), cs (cs C 18 0 (v % 16) (nI (wo + 1))) 18 0 (v % 16) (nI (wo + 1 + 1))) := (f_reword _ (show v % 16 < 16 by omega)).trans (by rw [cs_s, nI_1])
  refine t_reword hstk X hI hw (rv0 e2) (rd0 e2) ml_RL_148 ⟨(Nat.le_of_ble_eq_true rfl), (Nat.le_of_ble_eq_true rfl)⟩ hl.1 (Nat.le_of_ble_eq_true rfl) dL_law_677 (by show _ ≤ 600590; omega) (by show _ ≤ 7299698; omega) (fun H locs cells slots ec es hw => ?_)
  have hJ2 := j_reword (q := v % 16) hJ1
  rw [cs_s, nI_1] at hJ2
  refine lv_iload hx hb dL_law_680 (lv_at hl 0 rfl) ?_
  refine lv_iconst (v := 1) hx hb dL_law_682 (by decide) ?_
  refine lv_iadd hx hb dL_law_683 ?_
  refine lv_icmp_ne (tgt := 691) hx hb dL_law_684 (by decide) (fun z => False.elim (z (nI_1 (wo + 1)).symm)) (fun _ => ?_)
  have eR : gRc (cs (cs C 18 0 (v % 16) (nI (wo + 1))) 18 0 (v % 16) (nI (wo + 1 + 1))) = gRc C := by unfold gRc; rw [cs_k _ _ _ _ (by decide), cs_k _ _ _ _ (by decide)]
  refine lv_iconst (v := 1) hx hb dL_law_687 (by decide) ?_
  refine lv_goto (tgt := 692) hx hb dL_law_688 (by decide) ?_
  refine lv_istore (lv' := [(7, .int 1), (15, .int (nI (wo + 1))), (14, .int (nI v)), (13, .int (nI run)), (12, .int (nI f)), (11, .int (nI kd)), (8, .int (nI i)), (6, .int fd), (5, .int (nI (gRc C))), (4, .ref (bb 2)), (3, .ref (bb 1)), (2, .ref (bb 0)), (1, .ref a0), (0, .ref b)]) hx hb dL_law_692 hl (by decide) rfl (fun ls hl => ?_)
  refine lv_goto (tgt := 1269) hx hb dL_law_694 (by decide) ?_
  have hX : kX C (cs (cs C 18 0 (v % 16) (nI (wo + 1))) 18 0 (v % 16) (nI (wo + 1 + 1))) := (kX.cs (Or.inr (Or.inl rfl))).tr (kX.cs (Or.inr (Or.inl rfl)))
  have hl2 := lv_sub hl [3, 6, 0, 7, 8, 9, 10, 11, 12, 13] rfl
  refine kk (cs (cs C 18 0 (v % 16) (nI (wo + 1))) 18 0 (v % 16) (nI (wo + 1 + 1))) (fd) _ _ _ _ _ (by omega) (by omega) (kJ.up (hJ2) (by omega)) (hDr.x hX) (hEn.x hX) hw ?_
  rw [eR]; exact hl2
end LC

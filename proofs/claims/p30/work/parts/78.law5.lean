/-! ===== the law's checks ===== -/
section GT
variable {p : Program} {l : Launch} {e : Env} {R : Room} {s : State} {m : MethodId} {args : Array Value} {below : List Frame} {meth : Method} {c : Code} {H : Heap} {locs : List Loc} {cells slots : Nat} {Q : State → Prop}
variable {cc : ByteArray} {nL pc idx : Nat} {ls : Array Slot} {rest : List Value} {G : gG} {A : Nat → Prop} {a0 : Nat} {bb : Nat → Nat}
theorem t_fits (hstk : l.stackTraces = false) {C : gCT} {n r : Nat} {fd : Int32} (X : gX p s m args c cc RL nL G A) (hn : n ≤ 700) (hJ : kJ n fd C) (hr : r < gRc C) (hw : tW G A s.heap H locs C a0 bb) (hml : Cond.methodLink RL idx yL_fits ∈ gwl) (hR : 11 ≤ R.frames ∧ 255 ≤ R.locals) (hsz : ls.size = nL) (hW : (rest.map fun v => v.category).sum ≤ 8) (hdg : decode cc pc = .ok (.invokestatic idx, 3)) (hc : cells + 1100 ≤ R.cells) (hs : slots + 6600 ≤ R.slots)
    (kk : ∀ (z : aM) (H1 : Heap) (locs1 : List Loc) (cells1 slots1 : Nat), cells1 = cells + 1100 → slots1 = slots + 6600 → tW G A s.heap H1 locs1 (aPut C 24 z) a0 bb → W p l e R s m args below meth c H1 locs1 cells1 slots1 Q (F0 m (pc + 3) ls (.int 1 :: rest))) : W p l e R s m args below meth c H locs cells slots Q (F0 m pc ls (.int (nI r) :: .ref a0 :: rest)) := by
  obtain ⟨ad, h0, h1, hw⟩ := hw
  subst h0
  refine r_ri X hw (r_runS X (c_fits l hstk G ad hn hJ hr _) cy_L_fits hml ⟨hR.1, hR.2⟩ gP.blind (gP_call X hw _) rfl hsz rfl hW hdg ⟨hc, hs⟩) (fun v u H1 locs1 hp hw1 => ?_)
  obtain ⟨rfl, z, ad', rfl, hK⟩ := hp
  refine kk z H1 locs1 _ _ rfl rfl ⟨ad', hK.1, fun k hk => (hK.2 k hk).trans (h1 k hk), ?_⟩
  rw [(sp_x C z).lv]
  exact hw1
end GT
/-- what was added up is what was funded and repaid -/
theorem sum_0 {x y a b : Int32} (h : a + b = x + y) : -x - y + a + b = 0 := by
  rw [Int32.add_assoc, h, ← Int32.neg_add, Int32.add_left_neg]
theorem can_0 {x y : Int32} (h : x + y = y) : x = 0 := by
  have e : x + y - y = x := Int32.add_sub_cancel x y
  rw [h, Int32.sub_self] at e
  exact e.symm
theorem cnt_s {x y t d : Int32} (h : x + y = t) : x - d + (y + d) = t := by
  rw [Int32.add_comm y d, ← Int32.add_assoc, Int32.sub_add_cancel, h]
def dnC (C : gCT) : Int32 := sm (fun k => C 6 (k / 4) (k % 4)) 16
/-- remembered as ended, k runs looked at -/
def kEn (C : gCT) (k : Nat) : Prop := ∀ j, j < 24 → (j < k → C 22 2 j = if 1 < C 11 j 4 then C 11 j 4 else 0) ∧ (k ≤ j → j < gRc C → C 22 2 j = 0 ∨ C 22 2 j = C 11 j 4) ∧ (gRc C ≤ j → C 22 2 j = 0)
section LC
variable {p : Program} {l : Launch} {e : Env} {s : State} {m : MethodId} {below : List Frame} {meth : Method} {c : Code} {Q : State → Prop} {G : gG} {A : Nat → Prop} {b a0 : Nat} {bb : Nat → Nat} {i run N cells0 slots0 rc : Nat} {fd : Int32} {F : Nat → Nat}
/-- the loop's head, at its next turn -/
def hdK (p : Program) (l : Launch) (e : Env) (s : State) (m : MethodId) (below : List Frame) (meth : Method) (c : Code) (Q : State → Prop) (G : gG) (A : Nat → Prop) (b a0 : Nat) (bb : Nat → Nat) (i N cm sm : Nat) (fd : Int32) : Prop := ∀ (C : gCT) (H : Heap) (locs : List Loc) (cells slots : Nat) (ls : Array Slot), cells ≤ cm → slots ≤ sm → kJ N fd C → kDr C → kEn1 C → tW G A s.heap H locs C a0 bb → lv_has ls 22 (LH b a0 bb i (gRc C) fd) → W p l e room_1 s m #[.ref b] below meth c H locs cells slots Q (F0 m 45 ls [])
/-- the runs' loop, k looked at -/
def rnK (p : Program) (l : Launch) (e : Env) (s : State) (m : MethodId) (below : List Frame) (meth : Method) (c : Code) (Q : State → Prop) (G : gG) (A : Nat → Prop) (b a0 : Nat) (bb : Nat → Nat) (i run N cells0 slots0 rc : Nat) (fd : Int32) (F : Nat → Nat) (k : Nat) : Prop := ∀ (C : gCT) (H : Heap) (locs : List Loc) (cells slots : Nat) (ls : Array Slot) (S T : Int32), cells ≤ cells0 + 2 * k + 1100 * F k → slots ≤ slots0 + 12 * k + 6600 * F k → kJ N fd C → kDr C → kEn C k → gRc C = rc → S = 0 → T + sm (kE C) k = dnC C → tW G A s.heap H locs C a0 bb → lv_has ls 22 [(17, .int (nI k)), (16, .int T), (15, .int S), (13, .int (nI run)), (8, .int (nI i)), (7, .int 1), (6, .int fd), (5, .int (nI rc)), (4, .ref (bb 2)), (3, .ref (bb 1)), (2, .ref (bb 0)), (1, .ref a0), (0, .ref b)] → W p l e room_1 s m #[.ref b] below meth c H locs cells slots Q (F0 m 1397 ls [])
set_option maxHeartbeats 4000000 in
set_option maxRecDepth 100000 in
theorem law_r4 (hstk : l.stackTraces = false) {C : gCT} {H : Heap} {locs : List Loc} {cells slots k : Nat} {ls : Array Slot} {T S : Int32} (X : gX p s m #[.ref b] c cL_law RL 22 G A) (hw : tW G A s.heap H locs C a0 bb) (hJ : kJ N fd C) (hN : N ≤ 700) (hi : i < 60) (hDr : kDr C) (hR : gRc C = rc) (hk : k < rc) (hF0 : F k ≤ F (k + 1)) (hF1 : k = run ∨ i % 6 = 0 → F k + 1 ≤ F (k + 1)) (hFm : F (k + 1) ≤ 24) (hc0 : cells0 ≤ 560000) (hs0 : slots0 ≤ 7000000) (hc : cells ≤ cells0 + 2 * (k + 1) + 1100 * F k) (hs : slots ≤ slots0 + 12 * (k + 1) + 6600 * F k) (hrun : run < 2 ^ 31) (hS : S = 0) (hT : T + sm (kE C) (k + 1) = dnC C) (hE : kEn C (k + 1)) (kn : rnK p l e s m below meth c Q G A b a0 bb i run N cells0 slots0 rc fd F (k + 1)) (hl : lv_has ls 22 [(17, .int (nI k)), (16, .int T), (15, .int S), (13, .int (nI run)), (8, .int (nI i)), (7, .int 1), (6, .int fd), (5, .int (nI rc)), (4, .ref (bb 2)), (3, .ref (bb 1)), (2, .ref (bb 0)), (1, .ref a0), (0, .ref b)]) : W p l e room_1 s m #[.ref b] below meth c H locs cells slots Q (F0 m 1475 ls []) := by
  have hx := X.1.1; have hb := X.1.2.1; have hown := X.1.2.2.2.1; have hts := X.1.2.2.2.2; have hI := hJ.1; have h24 := hI.1
  refine lv_iload hx hb dL_law_1475 (lv_at hl 5 rfl) ?_
  refine lv_if_eq (tgt := 1508) hx hb dL_law_1477 (by decide) (fun z => False.elim (absurd z (by decide))) (fun _ => ?_)
  refine lv_iload hx hb dL_law_1480 (lv_at hl 0 rfl) ?_
  refine lv_iload hx hb dL_law_1482 (lv_at hl 3 rfl) ?_
  have hout : ∀ (C2 : gCT) (H : Heap) (locs : List Loc) (cells slots : Nat) (ls : Array Slot), (∀ κ, κ < 7 ∨ 10 < κ → C2 κ = C κ) → kJ N fd C2 → cells ≤ cells0 + 2 * (k + 1) + 1100 * F (k + 1) → slots ≤ slots0 + 12 * (k + 1) + 6600 * F (k + 1) → tW G A s.heap H locs C2 a0 bb → lv_has ls 22 [(17, .int (nI k)), (16, .int T), (15, .int S), (13, .int (nI run)), (8, .int (nI i)), (7, .int 1), (6, .int fd), (5, .int (nI rc)), (4, .ref (bb 2)), (3, .ref (bb 1)), (2, .ref (bb 0)), (1, .ref a0), (0, .ref b)] → W p l e room_1 s m #[.ref b] below meth c H locs cells slots Q (F0 m 1504 ls []) := by
    intro C2 H locs cells slots ls hk2 hJ2 hc hs hw hl
    refine lv_iconst (v := 1) hx hb dL_law_1504 (by decide) ?_
    refine lv_goto (tgt := 1509) hx hb dL_law_1505 (by decide) ?_
    refine lv_istore (lv' := [(7, .int 1), (17, .int (nI k)), (16, .int T), (15, .int S), (13, .int (nI run)), (8, .int (nI i)), (6, .int fd), (5, .int (nI rc)), (4, .ref (bb 2)), (3, .ref (bb 1)), (2, .ref (bb 0)), (1, .ref a0), (0, .ref b)]) hx hb dL_law_1509 hl (by decide) rfl (fun ls hl => ?_)
    refine lv_iinc (v := nI (k + 1)) (lv' := [(17, .int (nI (k + 1))), (7, .int 1), (16, .int T), (15, .int S), (13, .int (nI run)), (8, .int (nI i)), (6, .int fd), (5, .int (nI rc)), (4, .ref (bb 2)), (3, .ref (bb 1)), (2, .ref (bb 0)), (1, .ref a0), (0, .ref b)]) hx hb dL_law_1511 hl (k := 1) rfl (nI_1 k) (by decide) rfl (fun ls hl => ?_)
    refine lv_goto (tgt := 1397) hx hb dL_law_1514 (by decide) ?_
    have eR2 : gRc C2 = gRc C := by unfold gRc; rw [hk2 2 (by decide)]
    have eV2 : gVn C2 = gVn C := by funext g; unfold gVn; rw [hk2 4 (by decide)]
    have eE2 : kE C2 = kE C := by funext g; unfold kE; rw [hk2 11 (by decide)]
    refine kn C2 _ _ _ _ _ S T (by omega) (by omega) hJ2 ?_ ?_ (by rw [eR2]; exact hR) hS ?_ hw (lv_sub hl [0, 2, 3, 4, 5, 1, 6, 7, 8, 9, 10, 11, 12] rfl)
    · intro g hg; rw [hk2 22 (by decide), hk2 14 (by decide), hk2 4 (by decide), eV2]; exact hDr g hg
    · unfold kEn at hE ⊢; rw [eR2, hk2 22 (by decide), hk2 11 (by decide)]; exact hE
    · unfold dnC at hT ⊢; rw [eE2, hk2 6 (by decide)]; exact hT
  refine lv_icmp_eq (tgt := 1495) hx hb dL_law_1484 (by decide) (fun hkr => ?_) (fun hkr => ?_)
  · have hkr2 : k = run := (nI_eq (by omega) (by omega)).mp hkr
    have hF2 := hF1 (Or.inl hkr2)
    refine lv_aload_n hx hb dL_law_1495 rfl (lv_at hl 11 rfl) ?_
    refine lv_iload hx hb dL_law_1496 (lv_at hl 0 rfl) ?_
    refine t_fits hstk X hN hJ (by rw [hR]; exact hk) hw ml_RL_169 ⟨(Nat.le_of_ble_eq_true rfl), (Nat.le_of_ble_eq_true rfl)⟩ hl.1 (Nat.le_of_ble_eq_true rfl) dL_law_1498 (by show _ ≤ 600590; omega) (by show _ ≤ 7299698; omega) (fun z H locs cells slots ec es hw => ?_)
    refine lv_if_eq (tgt := 1508) hx hb dL_law_1501 (by decide) (fun z => False.elim (absurd z (by decide))) (fun _ => ?_)
    exact hout (aPut C 24 z) _ _ _ _ _ (fun κ hκ => aPut_k C 24 z hκ) (sp_J z hJ) (by omega) (by omega) hw hl
  · refine lv_iload hx hb dL_law_1487 (lv_at hl 4 rfl) ?_
    refine lv_bipush (v := 6) hx hb dL_law_1489 (by decide) ?_
    refine lv_irem hx hb dL_law_1491 (by decide) ?_
    rw [show ((nI i) - (nI i) / 6 * 6 : Int32) = nI (i % 6) from pk_rem (by omega) (by decide) (by decide)]
    refine lv_if_gt (tgt := 1504) hx hb dL_law_1492 (by decide) (fun h6 => ?_) (fun h6 => ?_)
    · exact hout C _ _ _ _ _ (fun _ _ => rfl) hJ (by omega) (by omega) hw hl
    · have h60 : i % 6 = 0 := Nat.eq_zero_of_not_pos (fun q => h6 ((nat_lt (show (0 : Int32) = nI 0 from rfl) rfl (by decide) (by omega)).mpr q))
      have hF2 := hF1 (Or.inr h60)
      refine lv_aload_n hx hb dL_law_1495 rfl (lv_at hl 11 rfl) ?_
      refine lv_iload hx hb dL_law_1496 (lv_at hl 0 rfl) ?_
      refine t_fits hstk X hN hJ (by rw [hR]; exact hk) hw ml_RL_169 ⟨(Nat.le_of_ble_eq_true rfl), (Nat.le_of_ble_eq_true rfl)⟩ hl.1 (Nat.le_of_ble_eq_true rfl) dL_law_1498 (by show _ ≤ 600590; omega) (by show _ ≤ 7299698; omega) (fun z H locs cells slots ec es hw => ?_)
      refine lv_if_eq (tgt := 1508) hx hb dL_law_1501 (by decide) (fun z => False.elim (absurd z (by decide))) (fun _ => ?_)
      exact hout (aPut C 24 z) _ _ _ _ _ (fun κ hκ => aPut_k C 24 z hκ) (sp_J z hJ) (by omega) (by omega) hw hl
set_option maxHeartbeats 4000000 in
set_option maxRecDepth 100000 in
theorem law_r3 (hstk : l.stackTraces = false) {C : gCT} {H : Heap} {locs : List Loc} {cells slots k : Nat} {ls : Array Slot} {T S : Int32} (X : gX p s m #[.ref b] c cL_law RL 22 G A) (hw : tW G A s.heap H locs C a0 bb) (hJ : kJ N fd C) (hN : N ≤ 700) (hi : i < 60) (hDr : kDr C) (hR : gRc C = rc) (hk : k < rc) (hF0 : F k ≤ F (k + 1)) (hF1 : k = run ∨ i % 6 = 0 → F k + 1 ≤ F (k + 1)) (hFm : F (k + 1) ≤ 24) (hc0 : cells0 ≤ 560000) (hs0 : slots0 ≤ 7000000) (hc : cells ≤ cells0 + 2 * (k + 1) + 1100 * F k) (hs : slots ≤ slots0 + 12 * (k + 1) + 6600 * F k) (hrun : run < 2 ^ 31) (hS : S = 0) (hT : T + sm (kE C) k = dnC C) (hE : kEn C (k + 1)) (kn : rnK p l e s m below meth c Q G A b a0 bb i run N cells0 slots0 rc fd F (k + 1)) (hl : lv_has ls 22 [(18, .int (C 11 k 4)), (17, .int (nI k)), (16, .int T), (15, .int S), (13, .int (nI run)), (8, .int (nI i)), (7, .int 1), (6, .int fd), (5, .int (nI rc)), (4, .ref (bb 2)), (3, .ref (bb 1)), (2, .ref (bb 0)), (1, .ref a0), (0, .ref b)]) : W p l e room_1 s m #[.ref b] below meth c H locs cells slots Q (F0 m 1459 ls []) := by
  have hx := X.1.1; have hb := X.1.2.1; have hown := X.1.2.2.2.1; have hts := X.1.2.2.2.2; have hI := hJ.1; have h24 := hI.1
  refine lv_iload hx hb dL_law_1459 (lv_at hl 2 rfl) ?_
  refine lv_iload hx hb dL_law_1461 (lv_at hl 0 rfl) ?_
  refine lv_iconst (v := 2) hx hb dL_law_1463 (by decide) ?_
  refine lv_icmp_ne (tgt := 1471) hx hb dL_law_1464 (by decide) (fun h2 => ?_) (fun h2 => ?_)
  · refine lv_iconst (v := 0) hx hb dL_law_1471 (by decide) ?_
    refine lv_isub hx hb dL_law_1472 ?_
    refine lv_istore (lv' := [(16, .int (T - 0)), (18, .int (C 11 k 4)), (17, .int (nI k)), (15, .int S), (13, .int (nI run)), (8, .int (nI i)), (7, .int 1), (6, .int fd), (5, .int (nI rc)), (4, .ref (bb 2)), (3, .ref (bb 1)), (2, .ref (bb 0)), (1, .ref a0), (0, .ref b)]) hx hb dL_law_1473 hl (by decide) rfl (fun ls hl => ?_)
    have eK : kE C k = 0 := if_neg h2
    have hT2 : T - 0 + sm (kE C) (k + 1) = dnC C := by show T - 0 + (sm (kE C) k + kE C k) = dnC C; rw [eK]; exact cnt_s hT
    exact law_r4 hstk X hw hJ hN hi hDr hR hk hF0 hF1 hFm hc0 hs0 hc hs hrun hS hT2 hE kn (lv_sub hl [2, 0, 3, 4, 5, 6, 7, 8, 9, 10, 11, 12, 13] rfl)
  · refine lv_iconst (v := 1) hx hb dL_law_1467 (by decide) ?_
    refine lv_goto (tgt := 1472) hx hb dL_law_1468 (by decide) ?_
    refine lv_isub hx hb dL_law_1472 ?_
    refine lv_istore (lv' := [(16, .int (T - 1)), (18, .int (C 11 k 4)), (17, .int (nI k)), (15, .int S), (13, .int (nI run)), (8, .int (nI i)), (7, .int 1), (6, .int fd), (5, .int (nI rc)), (4, .ref (bb 2)), (3, .ref (bb 1)), (2, .ref (bb 0)), (1, .ref a0), (0, .ref b)]) hx hb dL_law_1473 hl (by decide) rfl (fun ls hl => ?_)
    have eK : kE C k = 1 := if_pos h2
    have hT2 : T - 1 + sm (kE C) (k + 1) = dnC C := by show T - 1 + (sm (kE C) k + kE C k) = dnC C; rw [eK]; exact cnt_s hT
    exact law_r4 hstk X hw hJ hN hi hDr hR hk hF0 hF1 hFm hc0 hs0 hc hs hrun hS hT2 hE kn (lv_sub hl [2, 0, 3, 4, 5, 6, 7, 8, 9, 10, 11, 12, 13] rfl)
set_option maxHeartbeats 4000000 in
set_option maxRecDepth 100000 in
theorem law_r2 (hstk : l.stackTraces = false) {C : gCT} {H : Heap} {locs : List Loc} {cells slots k : Nat} {ls : Array Slot} {T S : Int32} (X : gX p s m #[.ref b] c cL_law RL 22 G A) (hw : tW G A s.heap H locs C a0 bb) (hJ : kJ N fd C) (hN : N ≤ 700) (hi : i < 60) (hDr : kDr C) (hR : gRc C = rc) (hk : k < rc) (hF0 : F k ≤ F (k + 1)) (hF1 : k = run ∨ i % 6 = 0 → F k + 1 ≤ F (k + 1)) (hFm : F (k + 1) ≤ 24) (hc0 : cells0 ≤ 560000) (hs0 : slots0 ≤ 7000000) (hc : cells ≤ cells0 + 2 * (k + 1) + 1100 * F k) (hs : slots ≤ slots0 + 12 * (k + 1) + 6600 * F k) (hrun : run < 2 ^ 31) (hS : S = 0) (hT : T + sm (kE C) k = dnC C) (hE : kEn C k) (kn : rnK p l e s m below meth c Q G A b a0 bb i run N cells0 slots0 rc fd F (k + 1)) (hl : lv_has ls 22 [(18, .int (C 11 k 4)), (17, .int (nI k)), (16, .int T), (15, .int S), (13, .int (nI run)), (8, .int (nI i)), (7, .int 1), (6, .int fd), (5, .int (nI rc)), (4, .ref (bb 2)), (3, .ref (bb 1)), (2, .ref (bb 0)), (1, .ref a0), (0, .ref b)]) : W p l e room_1 s m #[.ref b] below meth c H locs cells slots Q (F0 m 1442 ls []) := by
  have hx := X.1.1; have hb := X.1.2.1; have hown := X.1.2.2.2.1; have hts := X.1.2.2.2.2; have hI := hJ.1; have h24 := hI.1
  have hout : ∀ (y : Int32) (H : Heap) (locs : List Loc), y = (if 1 < C 11 k 4 then C 11 k 4 else 0) → tW G A s.heap H locs (cs C 22 2 k y) a0 bb → W p l e room_1 s m #[.ref b] below meth c H locs cells slots Q (F0 m 1459 ls []) := by
    intro y H locs hy hw
    have kk2 : ∀ κ, κ ≠ 22 → cs C 22 2 k y κ = C κ := fun κ hκ => cs_k _ _ _ _ hκ
    have eR2 : gRc (cs C 22 2 k y) = gRc C := congrArg (fun h : Nat → Nat → Int32 => (h 24 1).toNatClampNeg) (kk2 2 (by decide))
    have eV2 : gVn (cs C 22 2 k y) = gVn C := by funext g; exact congrArg (fun h : Nat → Nat → Int32 => (h g 0).toNatClampNeg) (kk2 4 (by decide))
    have eE2 : kE (cs C 22 2 k y) = kE C := by funext g; unfold kE; rw [kk2 11 (by decide)]
    have e11 : cs C 22 2 k y 11 k 4 = C 11 k 4 := by rw [kk2 11 (by decide)]
    refine law_r3 (C := cs C 22 2 k y) hstk X hw (kJ22 kk2 hJ) hN hi ?_ (by rw [eR2]; exact hR) hk hF0 hF1 hFm hc0 hs0 hc hs hrun hS ?_ ?_ kn (by rw [e11]; exact hl)
    · intro g hg
      rw [kk2 14 (by decide), kk2 4 (by decide), eV2, cs_n _ _ _ _ (by decide), cs_n _ _ _ _ (by decide)]
      exact hDr g hg
    · unfold dnC at hT ⊢
      rw [eE2, kk2 6 (by decide)]; exact hT
    · intro j hj
      obtain ⟨g1, g2, g3⟩ := hE j hj
      rw [eR2, kk2 11 (by decide)]
      by_cases ej : j = k
      · subst ej
        rw [cs_s]
        exact ⟨fun _ => hy, fun q => absurd q (by omega), fun q => absurd q (by omega)⟩
      · rw [cs_o _ _ _ _ ej]
        exact ⟨fun q => g1 (by omega), fun q => g2 (by omega), g3⟩
  refine lv_aload hx hb dL_law_1442 (lv_at hl 9 rfl) ?_
  refine lv_iload hx hb dL_law_1444 (lv_at hl 1 rfl) ?_
  refine lv_iload hx hb dL_law_1446 (lv_at hl 0 rfl) ?_
  refine lv_iconst (v := 1) hx hb dL_law_1448 (by decide) ?_
  refine lv_icmp_le (tgt := 1457) hx hb dL_law_1449 (by decide) (fun h1 => ?_) (fun h1 => ?_)
  · refine lv_iconst (v := 0) hx hb dL_law_1457 (by decide) ?_
    refine t_ast X hw (k := 2) (i := k) (by decide) (show k < gLw 2 by show k < 24; omega) dL_law_1458 (fun H locs hw => ?_)
    exact hout _ _ _ ((if_neg (fun q => by have a := Int32.lt_iff_toInt_lt.mp q; have b := Int32.le_iff_toInt_le.mp h1; omega)).symm) hw
  · refine lv_iload hx hb dL_law_1452 (lv_at hl 0 rfl) ?_
    refine lv_goto (tgt := 1458) hx hb dL_law_1454 (by decide) ?_
    refine t_ast X hw (k := 2) (i := k) (by decide) (show k < gLw 2 by show k < 24; omega) dL_law_1458 (fun H locs hw => ?_)
    exact hout _ _ _ ((if_pos (Int32.not_le.mp h1)).symm) hw
set_option maxHeartbeats 4000000 in
set_option maxRecDepth 100000 in
theorem law_r1 (hstk : l.stackTraces = false) {C : gCT} {H : Heap} {locs : List Loc} {cells slots k : Nat} {ls : Array Slot} {T S : Int32} (X : gX p s m #[.ref b] c cL_law RL 22 G A) (hw : tW G A s.heap H locs C a0 bb) (hJ : kJ N fd C) (hN : N ≤ 700) (hi : i < 60) (hDr : kDr C) (hR : gRc C = rc) (hk : k < rc) (hF0 : F k ≤ F (k + 1)) (hF1 : k = run ∨ i % 6 = 0 → F k + 1 ≤ F (k + 1)) (hFm : F (k + 1) ≤ 24) (hc0 : cells0 ≤ 560000) (hs0 : slots0 ≤ 7000000) (hc : cells ≤ cells0 + 2 * k + 1100 * F k) (hs : slots ≤ slots0 + 12 * k + 6600 * F k) (hrun : run < 2 ^ 31) (hS : S = 0) (hT : T + sm (kE C) k = dnC C) (hE : kEn C k) (kn : rnK p l e s m below meth c Q G A b a0 bb i run N cells0 slots0 rc fd F (k + 1)) (hl : lv_has ls 22 [(17, .int (nI k)), (16, .int T), (15, .int S), (13, .int (nI run)), (8, .int (nI i)), (7, .int 1), (6, .int fd), (5, .int (nI rc)), (4, .ref (bb 2)), (3, .ref (bb 1)), (2, .ref (bb 0)), (1, .ref a0), (0, .ref b)]) : W p l e room_1 s m #[.ref b] below meth c H locs cells slots Q (F0 m 1397 ls []) := by
  have hx := X.1.1; have hb := X.1.2.1; have hown := X.1.2.2.2.1; have hts := X.1.2.2.2.2; have hI := hJ.1; have h24 := hI.1
  have hkR : k < gRc C := by rw [hR]; exact hk
  refine lv_iload hx hb dL_law_1397 (lv_at hl 0 rfl) ?_
  refine lv_iload hx hb dL_law_1399 (lv_at hl 7 rfl) ?_
  refine lv_icmp_ge (tgt := 1517) hx hb dL_law_1401 (by decide) (fun z => False.elim (absurd ((nat_le rfl rfl (by omega) (by omega)).mp z) (by omega))) (fun _ => ?_)
  refine lv_iload hx hb dL_law_1404 (lv_at hl 5 rfl) ?_
  refine lv_if_eq (tgt := 1517) hx hb dL_law_1406 (by decide) (fun z => False.elim (absurd z (by decide))) (fun _ => ?_)
  refine lv_aload_n hx hb dL_law_1409 rfl (lv_at hl 11 rfl) ?_
  refine lv_iload hx hb dL_law_1410 (lv_at hl 0 rfl) ?_
  refine t_state hstk X hI hw (rv0 (rd_state hI hkR)) (rd0 (rd_state hI hkR)) ml_RL_98 ⟨(Nat.le_of_ble_eq_true rfl), (Nat.le_of_ble_eq_true rfl)⟩ hl.1 (Nat.le_of_ble_eq_true rfl) dL_law_1412 (by show _ ≤ 600590; omega) (by show _ ≤ 7299698; omega) (fun H locs cells slots ec es hw => ?_)
  refine lv_istore (lv' := [(18, .int (C 11 k 4)), (17, .int (nI k)), (16, .int T), (15, .int S), (13, .int (nI run)), (8, .int (nI i)), (7, .int 1), (6, .int fd), (5, .int (nI rc)), (4, .ref (bb 2)), (3, .ref (bb 1)), (2, .ref (bb 0)), (1, .ref a0), (0, .ref b)]) hx hb dL_law_1415 hl (by decide) rfl (fun ls hl => ?_)
  refine lv_aload hx hb dL_law_1417 (lv_at hl 9 rfl) ?_
  refine lv_iload hx hb dL_law_1419 (lv_at hl 1 rfl) ?_
  refine t_ald X hw (k := 2) (i := k) (by decide) (show k < gLw 2 by show k < 24; omega) dL_law_1421 ?_
  refine lv_if_eq (tgt := 1435) hx hb dL_law_1422 (by decide) (fun h0 => ?_) (fun h0 => ?_)
  · refine lv_iconst (v := 1) hx hb dL_law_1435 (by decide) ?_
    refine lv_goto (tgt := 1440) hx hb dL_law_1436 (by decide) ?_
    refine lv_istore (lv' := [(7, .int 1), (18, .int (C 11 k 4)), (17, .int (nI k)), (16, .int T), (15, .int S), (13, .int (nI run)), (8, .int (nI i)), (6, .int fd), (5, .int (nI rc)), (4, .ref (bb 2)), (3, .ref (bb 1)), (2, .ref (bb 0)), (1, .ref a0), (0, .ref b)]) hx hb dL_law_1440 hl (by decide) rfl (fun ls hl => ?_)
    exact law_r2 hstk X hw hJ hN hi hDr hR hk hF0 hF1 hFm hc0 hs0 (by omega) (by omega) hrun hS hT hE kn (lv_sub hl [1, 2, 3, 4, 5, 6, 0, 7, 8, 9, 10, 11, 12, 13] rfl)
  · refine lv_aload hx hb dL_law_1425 (lv_at hl 9 rfl) ?_
    refine lv_iload hx hb dL_law_1427 (lv_at hl 1 rfl) ?_
    refine t_ald X hw (k := 2) (i := k) (by decide) (show k < gLw 2 by show k < 24; omega) dL_law_1429 ?_
    refine lv_iload hx hb dL_law_1430 (lv_at hl 0 rfl) ?_
    refine lv_icmp_ne (tgt := 1439) hx hb dL_law_1432 (by decide) (fun z => False.elim (z (((hE k (by omega)).2.1 (Nat.le_refl _) hkR).resolve_left h0))) (fun _ => ?_)
    refine lv_iconst (v := 1) hx hb dL_law_1435 (by decide) ?_
    refine lv_goto (tgt := 1440) hx hb dL_law_1436 (by decide) ?_
    refine lv_istore (lv' := [(7, .int 1), (18, .int (C 11 k 4)), (17, .int (nI k)), (16, .int T), (15, .int S), (13, .int (nI run)), (8, .int (nI i)), (6, .int fd), (5, .int (nI rc)), (4, .ref (bb 2)), (3, .ref (bb 1)), (2, .ref (bb 0)), (1, .ref a0), (0, .ref b)]) hx hb dL_law_1440 hl (by decide) rfl (fun ls hl => ?_)
    exact law_r2 hstk X hw hJ hN hi hDr hR hk hF0 hF1 hFm hc0 hs0 (by omega) (by omega) hrun hS hT hE kn (lv_sub hl [1, 2, 3, 4, 5, 6, 0, 7, 8, 9, 10, 11, 12, 13] rfl)
end LC

/-! ===== the law, from its entry to its loop ===== -/
theorem kJ_0 : kJ 0 0 gC0 := by
  have z : ∀ κ n j, κ ≠ 4 → κ ≠ 5 → gC0 κ n j = 0 := by
    intro κ n j h4 h5
    unfold gC0
    split
    · exact absurd rfl h4
    · exact absurd rfl h5
    · rfl
  refine ⟨gC0_inv, fun f hf => ⟨⟨60, by decide, by decide, rfl⟩, fun p hp => ⟨20, Nat.le_refl _, ?_⟩, fun w _ => ⟨0, by decide, z 14 _ 0 (by decide) (by decide), fun j hj => absurd hj (Nat.not_lt_zero _)⟩⟩, fun q _ => ⟨⟨0, by decide, z 17 0 q (by decide) (by decide)⟩, 0, by decide, z 18 0 q (by decide) (by decide)⟩, fun r hr => absurd hr (Nat.not_lt_zero r), ⟨fun q _ => ⟨0, Nat.zero_le _, z 19 0 q (by decide) (by decide)⟩, fun f _ => ⟨0, Nat.zero_le _, rfl⟩, by decide⟩, by unfold kD; decide⟩
  have : ∀ p : Nat, p < 4 → gQ0 p = nI 20 := by decide
  exact this p hp
theorem kDr_0 : kDr gC0 := fun _ _ => ⟨rfl, rfl⟩
theorem kEn_0 : kEn1 gC0 := fun k _ => ⟨fun h => absurd h (Nat.not_lt_zero k), fun _ => rfl⟩
theorem gF_22 (G : gG) (C : gCT) (ad : gAd) (j q κ n : Nat) : gF G C (g2 ad 22 j q) κ n = gF G C ad κ n := by
  unfold gF gB gElem
  split <;> simp [g2]
theorem gLvO_22s : g2 (g2 (g2 (gLvT 4) 22 0 True) 22 1 True) 22 2 True = gLvO gC0 := by
  rw [gLvT_4]
  funext κ n
  refine propext ?_
  by_cases h : κ = 22
  · subst h
    show _ ↔ n < 3
    unfold g2
    by_cases h2 : n = 2
    · subst h2; simp
    · by_cases h1 : n = 1
      · subst h1; simp
      · by_cases h0 : n = 0
        · subst h0; simp
        · simp [h0, h1, h2]; omega
  · rw [g2_n _ _ (fun z => h z.1), g2_n _ _ (fun z => h z.1), g2_n _ _ (fun z => h z.1)]
    exact ⟨fun z => z.2, fun z => ⟨h, z⟩⟩
theorem gF_22s (G : gG) (ad : gAd) (q1 q2 q3 : Nat) : g2 (g2 (g2 (gF G gC0 ad) 22 0 (.inl (G.2.1, 4, .inl (fun _ => 0)))) 22 1 (.inl (G.2.1, 4, .inl (fun _ => 0)))) 22 2 (.inl (G.2.1, 24, .inl (fun _ => 0))) = gF G gC0 (g2 (g2 (g2 ad 22 0 q1) 22 1 q2) 22 2 q3) := by
  funext κ n
  rw [gF_22, gF_22, gF_22]
  by_cases h2 : κ = 22 ∧ n = 2
  · obtain ⟨rfl, rfl⟩ := h2; rw [g2_s]; rfl
  rw [g2_n _ _ h2]
  by_cases h1 : κ = 22 ∧ n = 1
  · obtain ⟨rfl, rfl⟩ := h1; rw [g2_s]; rfl
  rw [g2_n _ _ h1]
  by_cases h0 : κ = 22 ∧ n = 0
  · obtain ⟨rfl, rfl⟩ := h0; rw [g2_s]; rfl
  rw [g2_n _ _ h0]
section LO
variable {p : Program} {l : Launch} {e : Env} {s : State} {m : MethodId} {below : List Frame} {meth : Method} {c : Code} {Q : State → Prop}
variable {G : gG} {A : Nat → Prop} {b : Nat}
set_option maxHeartbeats 4000000 in
set_option maxRecDepth 100000 in
theorem law_opens (hst : l.stackTraces = false) {L : Nat} {xs : Nat → Int32} (hL : L < 2 ^ 31) (X : gX p s m #[.ref b] c cL_law RL 22 G A) (hX : va_X b L xs s s.heap) (hbl : b < s.heap.size) (hbA : ¬ A b) (hexit : ∀ (H : Heap) (locs : List Loc) (cells slots : Nat) (ls : Array Slot), va_S A s.heap H locs → cells ≤ 600590 → slots ≤ 7299698 → W p l e room_1 s m #[.ref b] below meth c H locs cells slots Q (F0 m 1556 ls [.int 1])) {ls : Array Slot} (hl : lv_has ls 22 [(0, .ref b)]) :
    W p l e room_1 s m #[.ref b] below meth c s.heap [] 0 0 Q (F0 m 0 ls []) := by
  have hx := X.1.1
  have hb := X.1.2.1
  have hw0 : gW G A s.heap s.heap [] (fun _ _ => False) (fun _ _ => 0) (fun _ _ => .inr (0, [])) := ⟨⟨fun _ _ h => h.elim, fun _ _ _ _ h => h.elim, fun _ _ h => h.elim⟩, va_S.rf⟩
  refine r_new X hw0 0 0 id (fs := [.null, .null, .null, .null, .null, .null, .int 0]) k_X5 df_X5 cl_RL_10 ins_RX5 ini_RX5 (Nat.le_of_ble_eq_true rfl) (Nat.le_of_ble_eq_true rfl) dL_law_0 (fun q1 H hq1 hw => ?_)
  have hw1 : gW G A s.heap H [] gL0 (fun _ _ => q1) (fun _ _ => .inr (6, [.null, .null, .null, .null, .null, .null, .int 0])) := by
    refine ⟨⟨fun κ n h => ?_, fun κ n κ' n' h h' _ => ⟨h.1.trans h'.1.symm, h.2.trans h'.2.symm⟩, fun κ n h => X.2.2.2.2 q1 hq1⟩, hw.2⟩
    have h1 := hw.1.1 0 0 (show g2 (fun _ _ => False) 0 0 True 0 0 from by rw [g2_s]; trivial)
    rw [g2_s, g2_s] at h1
    exact h1
  refine lv_dup hx hb dL_law_3 rfl ?_
  refine r_rv X hw1 (r_runI X (c_tool l G (fun _ _ => q1) _ rfl _) cy_X5_init ml_RL_123 ⟨(Nat.le_of_ble_eq_true rfl), (Nat.le_of_ble_eq_true rfl)⟩ gP.blind (gP_call X hw1 _) rfl hl.1 rfl (Nat.le_of_ble_eq_true rfl) dL_law_4 ⟨(Nat.le_of_ble_eq_true rfl), (Nat.le_of_ble_eq_true rfl)⟩) (fun u H locs hp hw => ?_)
  obtain ⟨adC, rfl, hC0⟩ := hp
  have hw : gW G A s.heap H locs (gLvT 4) adC (gF G gC0 adC) := hw
  have hC0 : adC 0 0 = q1 := hC0
  refine lv_astore_n (lv' := [(1, .ref q1), (0, .ref b)]) hx hb dL_law_7 rfl hl (by decide) rfl (fun ls hl => ?_)
  have n22 : ∀ k, ¬ gLvT 4 22 k := fun k h => by rw [gLvT_4] at h; exact h.1 rfl
  refine lv_iconst (v := 4) hx hb dL_law_8 (by decide) ?_
  refine r_newi X hw 22 0 (n22 0) (N := 4) (by decide) (by decide) (by decide) ac_int (Nat.le_of_ble_eq_true rfl) (Nat.le_of_ble_eq_true rfl) dL_law_9 (fun r0 H _ hw => ?_)
  refine lv_astore_n (lv' := [(2, .ref r0), (1, .ref q1), (0, .ref b)]) hx hb dL_law_11 rfl hl (by decide) rfl (fun ls hl => ?_)
  refine lv_iconst (v := 4) hx hb dL_law_12 (by decide) ?_
  refine r_newi X hw 22 1 (by rw [g2_n _ _ (by decide)]; exact n22 1) (N := 4) (by decide) (by decide) (by decide) ac_int (Nat.le_of_ble_eq_true rfl) (Nat.le_of_ble_eq_true rfl) dL_law_13 (fun r1 H _ hw => ?_)
  refine lv_astore_n (lv' := [(3, .ref r1), (2, .ref r0), (1, .ref q1), (0, .ref b)]) hx hb dL_law_15 rfl hl (by decide) rfl (fun ls hl => ?_)
  refine lv_bipush (v := 24) hx hb dL_law_16 (by decide) ?_
  refine r_newi X hw 22 2 (by rw [g2_n _ _ (by decide), g2_n _ _ (by decide)]; exact n22 2) (N := 24) (by decide) (by decide) (by decide) ac_int (Nat.le_of_ble_eq_true rfl) (Nat.le_of_ble_eq_true rfl) dL_law_18 (fun r2 H _ hw => ?_)
  refine lv_astore (lv' := [(4, .ref r2), (3, .ref r1), (2, .ref r0), (1, .ref q1), (0, .ref b)]) hx hb dL_law_20 hl (by decide) rfl (fun ls hl => ?_)
  rw [gLvO_22s, gF_22s G adC r0 r1 r2] at hw
  have hw : tW G A s.heap H locs gC0 q1 (fun n => g2 (g2 (g2 adC 22 0 r0) 22 1 r1) 22 2 r2 22 n) := ⟨_, by rw [g2_n _ _ (by decide), g2_n _ _ (by decide), g2_n _ _ (by decide)]; exact hC0, fun _ _ => rfl, hw⟩
  have hl : lv_has ls 22 [(4, .ref (g2 (g2 (g2 adC 22 0 r0) 22 1 r1) 22 2 r2 22 2)), (3, .ref (g2 (g2 (g2 adC 22 0 r0) 22 1 r1) 22 2 r2 22 1)), (2, .ref (g2 (g2 (g2 adC 22 0 r0) 22 1 r1) 22 2 r2 22 0)), (1, .ref q1), (0, .ref b)] := by
    rw [g2_s, g2_n _ r2 (show ¬ ((22 : Nat) = 22 ∧ (1 : Nat) = 2) by decide), g2_s, g2_n _ r2 (show ¬ ((22 : Nat) = 22 ∧ (0 : Nat) = 2) by decide), g2_n _ r1 (show ¬ ((22 : Nat) = 22 ∧ (0 : Nat) = 1) by decide), g2_s]
    exact hl
  have hI : gInv gC0 := gC0_inv
  refine lv_iconst (v := 0) hx hb dL_law_22 (by decide) ?_
  refine lv_istore (lv' := [(5, .int 0), (4, .ref (g2 (g2 (g2 adC 22 0 r0) 22 1 r1) 22 2 r2 22 2)), (3, .ref (g2 (g2 (g2 adC 22 0 r0) 22 1 r1) 22 2 r2 22 1)), (2, .ref (g2 (g2 (g2 adC 22 0 r0) 22 1 r1) 22 2 r2 22 0)), (1, .ref q1), (0, .ref b)]) hx hb dL_law_23 hl (by decide) rfl (fun ls hl => ?_)
  refine lv_iconst (v := 0) hx hb dL_law_25 (by decide) ?_
  refine lv_istore (lv' := [(6, .int 0), (5, .int 0), (4, .ref (g2 (g2 (g2 adC 22 0 r0) 22 1 r1) 22 2 r2 22 2)), (3, .ref (g2 (g2 (g2 adC 22 0 r0) 22 1 r1) 22 2 r2 22 1)), (2, .ref (g2 (g2 (g2 adC 22 0 r0) 22 1 r1) 22 2 r2 22 0)), (1, .ref q1), (0, .ref b)]) hx hb dL_law_26 hl (by decide) rfl (fun ls hl => ?_)
  refine lv_aload_n hx hb dL_law_28 rfl (lv_at hl 5 rfl) ?_
  refine t_runs X hI hw ml_RL_124 ⟨(Nat.le_of_ble_eq_true rfl), (Nat.le_of_ble_eq_true rfl)⟩ hl.1 (Nat.le_of_ble_eq_true rfl) dL_law_29 (Nat.le_of_ble_eq_true rfl) (Nat.le_of_ble_eq_true rfl) (fun H locs hw => ?_)
  refine lv_if_ne (tgt := 39) hx hb dL_law_32 (by decide) (fun z => False.elim (z rfl)) (fun _ => ?_)
  refine lv_iconst (v := 1) hx hb dL_law_35 (by decide) ?_
  refine lv_goto (tgt := 40) hx hb dL_law_36 (by decide) ?_
  refine lv_istore (lv' := [(7, .int 1), (6, .int 0), (5, .int 0), (4, .ref (g2 (g2 (g2 adC 22 0 r0) 22 1 r1) 22 2 r2 22 2)), (3, .ref (g2 (g2 (g2 adC 22 0 r0) 22 1 r1) 22 2 r2 22 1)), (2, .ref (g2 (g2 (g2 adC 22 0 r0) 22 1 r1) 22 2 r2 22 0)), (1, .ref q1), (0, .ref b)]) hx hb dL_law_40 hl (by decide) rfl (fun ls hl => ?_)
  refine lv_iconst (v := 0) hx hb dL_law_42 (by decide) ?_
  refine lv_istore (lv' := [(8, .int 0), (7, .int 1), (6, .int 0), (5, .int 0), (4, .ref (g2 (g2 (g2 adC 22 0 r0) 22 1 r1) 22 2 r2 22 2)), (3, .ref (g2 (g2 (g2 adC 22 0 r0) 22 1 r1) 22 2 r2 22 1)), (2, .ref (g2 (g2 (g2 adC 22 0 r0) 22 1 r1) 22 2 r2 22 0)), (1, .ref q1), (0, .ref b)]) hx hb dL_law_43 hl (by decide) rfl (fun ls hl => ?_)
  exact law_loop (bb := fun n => g2 (g2 (g2 adC 22 0 r0) 22 1 r1) 22 2 r2 22 n) hst X hL hX hbl hbA hexit 60 0 rfl 0 gC0 H locs _ _ ls (Nat.le_of_ble_eq_true rfl) (Nat.le_of_ble_eq_true rfl) kJ_0 kDr_0 kEn_0 hw (lv_sub hl [0, 1, 2, 3, 4, 5, 6, 7, 8] rfl)
end LO

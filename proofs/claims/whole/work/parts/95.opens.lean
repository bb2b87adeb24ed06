/-! ===== the law, from its entry to its loop ===== -/
theorem df_X6 : ∀ j, j < 36 → defaultValue (tyX6 j) = vp_V (gFl 0 (fun _ _ => 0)) j := by decide
theorem gFl_0 (ad ad' : gAd) : gFl 0 ad = gFl 0 ad' := by
  unfold gFl
  refine List.map_congr_left (fun k _ => ?_)
  unfold gFv
  rw [if_neg (Nat.not_lt_zero k), if_neg (Nat.not_lt_zero k)]
theorem gF_22 (G : gG) (C : gCT) (ad : gAd) (q κ n : Nat) : gF G C (g2 ad 22 0 q) κ n = gF G C ad κ n := by
  unfold gF gB gElem
  split <;> simp [g2]
theorem gLvO_22s : g2 (gLvT 4) 22 0 True = gLvO gC0 := by
  rw [gLvT_4]
  funext κ n
  refine propext ?_
  by_cases h : κ = 22
  · subst h
    show (if 22 = 22 ∧ n = 0 then True else _) ↔ n = 0
    by_cases hn : n = 0
    · rw [if_pos ⟨rfl, hn⟩]; exact ⟨fun _ => hn, fun _ => trivial⟩
    · rw [if_neg (fun z => hn z.2)]; exact ⟨fun z => absurd rfl z.1, fun z => absurd z hn⟩
  · show (if κ = 22 ∧ n = 0 then True else _) ↔ _
    rw [if_neg (fun z => h z.1)]
    exact ⟨fun z => z.2, fun z => ⟨h, z⟩⟩
section LO
variable {p : Program} {l : Launch} {e : Env} {s : State} {m : MethodId} {below : List Frame} {meth : Method} {c : Code} {Q : State → Prop}
variable {G : gG} {A : Nat → Prop} {b : Nat}
set_option maxHeartbeats 4000000 in
set_option maxRecDepth 100000 in
theorem law_opens (hst : l.stackTraces = false) {L : Nat} {xs : Nat → Int32} (hL : L ≤ 2048) (X : gX p s m #[.ref b] c cL_law RL 7 G A) (hX : va_X b L xs s s.heap) (hbl : b < s.heap.size) (hbA : ¬ A b) (hexit : ∀ (H : Heap) (locs : List Loc) (cells slots : Nat) (ls : Array Slot), va_S A s.heap H locs → cells ≤ 601024 → slots ≤ 7293033 → W p l e room_1 s m #[.ref b] below meth c H locs cells slots Q (F0 m 1735 ls [])) {ls : Array Slot} (hl : lv_has ls 7 [(0, .ref b)]) :
    W p l e room_1 s m #[.ref b] below meth c s.heap [] 0 0 Q (F0 m 0 ls []) := by
  have hx := X.1.1
  have hb := X.1.2.1
  have hw0 : gW G A s.heap s.heap [] (fun _ _ => False) (fun _ _ => 0) (fun _ _ => .inr (0, [])) := ⟨⟨fun _ _ h => h.elim, fun _ _ _ _ h => h.elim, fun _ _ h => h.elim⟩, va_S.rf⟩
  refine r_new X hw0 0 0 id (fs := [.null, .null, .null, .null, .null, .null, .int 0]) k_X5 df_X5 cl_RL_8 ins_RX5 ini_RX5 (Nat.le_of_ble_eq_true rfl) (Nat.le_of_ble_eq_true rfl) dL_law_0 (fun q1 H hq1 hw => ?_)
  have hw1 : gW G A s.heap H [] gL0 (fun _ _ => q1) (fun _ _ => .inr (6, [.null, .null, .null, .null, .null, .null, .int 0])) := by
    refine ⟨⟨fun κ n h => ?_, fun κ n κ' n' h h' _ => ⟨h.1.trans h'.1.symm, h.2.trans h'.2.symm⟩, fun κ n h => X.2.2.2.2 q1 hq1⟩, hw.2⟩
    have h1 := hw.1.1 0 0 (show g2 (fun _ _ => False) 0 0 True 0 0 from by rw [g2_s]; trivial)
    rw [g2_s, g2_s] at h1
    exact h1
  refine lv_dup hx hb dL_law_3 rfl ?_
  refine r_rv X hw1 (r_runI X (c_tool l G (fun _ _ => q1) _ rfl _) cy_X5_init ml_RL_95 ⟨(Nat.le_of_ble_eq_true rfl), (Nat.le_of_ble_eq_true rfl)⟩ gP.blind (gP_call X hw1 _) rfl hl.1 rfl (Nat.le_of_ble_eq_true rfl) dL_law_4 ⟨(Nat.le_of_ble_eq_true rfl), (Nat.le_of_ble_eq_true rfl)⟩) (fun u H locs hp hw => ?_)
  obtain ⟨adC, rfl, hC0⟩ := hp
  have hw : gW G A s.heap H locs (gLvT 4) adC (gF G gC0 adC) := hw
  have hC0 : adC 0 0 = q1 := hC0
  refine lv_astore_n (lv' := [(1, .ref q1), (0, .ref b)]) hx hb dL_law_7 rfl hl (by decide) rfl (fun ls hl => ?_)
  have hn20 : ∀ n, ¬ gLvT 4 20 n := fun n h => by
    rw [gLvT_4] at h
    exact h.2
  refine r_new X hw 20 0 (hn20 0) k_X6 df_X6 cl_RL_96 ins_RX6 ini_RX6 (Nat.le_of_ble_eq_true rfl) (Nat.le_of_ble_eq_true rfl) dL_law_8 (fun q2 H hq2 hw => ?_)
  have hw2 : gT2 G A s.heap H locs (gLvT 4) adC (gF G gC0 adC) gM0 (fun _ _ => q2) (fun _ _ => .inr (7, gFl 0 (fun _ _ => q2))) := by
    have h20 : g2 (gLvT 4) 20 0 True 20 0 := by rw [g2_s]; trivial
    have hlv : ∀ κ n, gLvT 4 κ n → ¬ (κ = 20 ∧ n = 0) := fun κ n h z => by rw [z.1] at h; exact hn20 n h
    have hlift : ∀ κ n, gLvT 4 κ n → g2 (gLvT 4) 20 0 True κ n := fun κ n h => by rw [g2_n _ _ (hlv κ n h)]; exact h
    refine ⟨⟨fun κ n h => ?_, fun κ n κ' n' h h' he => ?_, fun κ n h => ?_⟩, ⟨fun κ n h => ?_, fun κ n κ' n' h h' _ => ⟨h.1.trans h'.1.symm, h.2.trans h'.2.symm⟩, fun κ n h => X.2.2.2.2 q2 hq2⟩, fun κ n κ' n' h h' he => ?_, hw.2⟩
    · have h1 := hw.1.1 κ n (hlift κ n h)
      rw [g2_n _ _ (hlv κ n h), g2_n _ _ (hlv κ n h)] at h1
      exact h1
    · exact hw.1.2.1 κ n κ' n' (hlift κ n h) (hlift κ' n' h') (by rw [g2_n _ _ (hlv κ n h), g2_n _ _ (hlv κ' n' h')]; exact he)
    · have h1 := hw.1.2.2 κ n (hlift κ n h)
      rw [g2_n _ _ (hlv κ n h)] at h1
      exact h1
    · have h1 := hw.1.1 20 0 h20
      rw [g2_s, g2_s, gFl_0 _ (fun _ _ => q2)] at h1
      exact h1
    · have h1 := hw.1.2.1 κ n 20 0 (hlift κ n h) h20 (by rw [g2_n _ _ (hlv κ n h), g2_s]; exact he)
      exact hlv κ n h h1
  refine lv_dup hx hb dL_law_11 rfl ?_
  refine t_qn X hw2 (r_runI X (c_ref l G (fun _ _ => q2) _ rfl _) cy_X6_init ml_RL_98 ⟨(Nat.le_of_ble_eq_true rfl), (Nat.le_of_ble_eq_true rfl)⟩ gP.blind (gP_call X hw2.wm _) rfl hl.1 rfl (Nat.le_of_ble_eq_true rfl) dL_law_12 ⟨(Nat.le_of_ble_eq_true rfl), (Nat.le_of_ble_eq_true rfl)⟩) (fun u H locs hp hw => ?_)
  obtain ⟨adM, rfl, hM0⟩ := hp
  have hw : gT2 G A s.heap H locs (gLvT 4) adC (gF G gC0 adC) (gLvR 34) adM (gF G gMz adM) := hw
  have hM0 : adM 20 0 = q2 := hM0
  refine lv_astore_n (lv' := [(2, .ref q2), (1, .ref q1), (0, .ref b)]) hx hb dL_law_15 rfl hl (by decide) rfl (fun ls hl => ?_)
  refine lv_iconst (v := 1) hx hb dL_law_16 (by decide) ?_
  have h22 : ¬ gLvT 4 22 0 := fun h => by rw [gLvT_4] at h; exact h.1 rfl
  refine va_newaK (atype := .long) X.1.1 X.1.2.1 (X.1.2.2.2.2 (.arrayClass .long) (gwl_of (by decide +kernel) rfl)) rfl dL_law_17 rfl (by decide) (show (1 : Int32).toNatClampNeg = 1 by decide) (by decide) (Nat.le_of_ble_eq_true rfl) (Nat.le_of_ble_eq_true rfl) rfl fun H1 cA e1 z1 o1 hAr hNm => ?_
  have hbs : s.heap.size ≤ H.size := hw.2.2.2.1
  have hcA : cA = G.2.2.1 := Option.some.inj (hNm.symm.trans (X.2.1.2 1 _ rfl).2)
  subst hcA
  have hC : gV G A (gLvO gC0) (g2 adC 22 0 H.size) (gF G gC0 (g2 adC 22 0 H.size)) H1 := by
    have h1 := hw.1.push (e := .inl (G.2.2.1, 1, .inr (.inl (fun _ => 0)))) h22 (Nat.le_refl _) e1 o1 (X.2.2.2.2 _ hbs)
    rw [gLvO_22s] at h1
    refine h1.cong (fun κ n hl => ?_)
    rw [gF_22]
    by_cases h : κ = 22 ∧ n = 0
    · obtain ⟨rfl, rfl⟩ := h
      rw [g2_s]
      rfl
    · rw [g2_n _ _ h]
  have hM : gV G A (gLvR 34) adM (gF G gMz adM) H1 := hw.2.1.kept (fun κ n hl => o1 _ (hw.2.1.lt hl))
  have hS : va_S A s.heap H1 locs := ⟨Nat.le_trans hbs (by omega), fun q h1 h2 => (o1 q (Nat.lt_of_lt_of_le h1 hbs)).trans (hw.2.2.2.2.1 q h1 h2), hw.2.2.2.2.2⟩
  have hT : gT2 G A s.heap H1 locs (gLvO gC0) (g2 adC 22 0 H.size) (gF G gC0 (g2 adC 22 0 H.size)) (gLvR 34) adM (gF G gMz adM) := by
    refine ⟨hC, hM, fun κ n κ' n' h h' => ?_, hS⟩
    by_cases hk : κ = 22 ∧ n = 0
    · rw [hk.1, hk.2, g2_s]
      exact fun z => absurd (hw.2.1.lt h') (by rw [← z]; exact Nat.lt_irrefl _)
    · rw [g2_n _ _ hk]
      refine hw.2.2.1 κ n κ' n' ?_ h'
      rw [← gLvO_22s, g2_n _ _ hk] at h
      exact h
  refine lv_astore_n (lv' := [(3, .ref H.size), (2, .ref q2), (1, .ref q1), (0, .ref b)]) hx hb dL_law_19 rfl hl (by decide) rfl (fun ls hl => ?_)
  refine lv_iconst (v := 0) hx hb dL_law_20 (by decide) ?_
  refine lv_istore (lv' := [(4, .int 0), (3, .ref H.size), (2, .ref q2), (1, .ref q1), (0, .ref b)]) hx hb dL_law_21 hl (by decide) rfl (fun ls hl => ?_)
  have hl : lv_has ls 7 [(4, .int (nI (4 * 0))), (0, .ref b), (1, .ref (g2 adC 22 0 H.size 0 0)), (2, .ref (adM 20 0)), (3, .ref (g2 adC 22 0 H.size 22 0))] := by
    rw [g2_s, g2_n _ _ (show ¬ ((0 : Nat) = 22 ∧ (0 : Nat) = 0) by decide), hC0, hM0]
    exact lv_sub hl [0, 4, 3, 2, 1] rfl
  exact law_loop hst hL X hX hbl hbA hexit 513 0 (by omega) gC0 gMz _ H1 locs _ _ ls (by omega) (by decide) (by decide) gC0_inv gMz_I sRel_0 hT hl
end LO

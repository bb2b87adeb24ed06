/-! ===== a new reference ===== -/
def gFv (t : Nat) (ad : gAd) (k : Nat) : Value := if k = 14 ∨ k = 29 ∨ k = 34 ∨ k = 35 then .int 0 else if k < t then .ref (ad 21 k) else .null
def gFl (t : Nat) (ad : gAd) : List Value := (List.range 36).map (gFv t ad)
theorem gFl_len (t : Nat) (ad : gAd) : (gFl t ad).length = 36 := by simp [gFl]
theorem gFl_set (ad : gAd) (q : Nat) {t : Nat} (hi : ¬ (t = 14 ∨ t = 29 ∨ t = 34 ∨ t = 35)) : (gFl t ad).set t (.ref q) = gFl (t + 1) (g2 ad 21 t q) := by
  unfold gFl
  refine List.ext_getElem (by simp) (fun i h1 h2 => ?_)
  rw [List.getElem_set]
  simp only [List.getElem_map, List.getElem_range]
  unfold gFv
  by_cases h : t = i
  · subst h
    rw [if_pos rfl, if_neg hi, if_pos (by omega), g2_s]
  · rw [if_neg h]
    by_cases hz : i = 14 ∨ i = 29 ∨ i = 34 ∨ i = 35
    · rw [if_pos hz, if_pos hz]
    · rw [if_neg hz, if_neg hz]
      by_cases hl : i < t
      · rw [if_pos hl, if_pos (by omega), g2_n _ _ (fun e => h e.2.symm)]
      · rw [if_neg hl, if_neg (by omega)]
def gLvR (t : Nat) : gLv := fun κ n => (κ = 20 ∧ n = 0) ∨ (κ = 21 ∧ n < t ∧ n ≠ 14 ∧ n ≠ 29)
def gM00 : gCT := fun _ _ _ => 0
def gCR (G : gG) (t : Nat) (ad : gAd) : gCn := fun κ n => if κ = 20 then .inr (7, gFl t ad) else gF G gM00 ad κ n
def gM0 : gLv := fun κ n => κ = 20 ∧ n = 0
theorem gLvR_0 : gM0 = gLvR 0 := by
  funext κ n
  refine propext ⟨Or.inl, fun h => h.elim id (fun h => absurd h.2.1 (Nat.not_lt_zero _))⟩
theorem gLvR_n (t : Nat) : ¬ gLvR t 21 t := by
  rintro (h | h)
  · exact absurd h.1 (by decide)
  · exact absurd h.2.1 (Nat.lt_irrefl _)
theorem gLvR_14 : gLvR 14 = gLvR 15 := by
  funext κ n
  refine propext (or_congr Iff.rfl (and_congr_right (fun _ => ?_)))
  omega
theorem gLvR_29 : gLvR 29 = gLvR 30 := by
  funext κ n
  refine propext (or_congr Iff.rfl (and_congr_right (fun _ => ?_)))
  omega
theorem gFl_14 (ad : gAd) : gFl 14 ad = gFl 15 ad := rfl
theorem gFl_29 (ad : gAd) : gFl 29 ad = gFl 30 ad := rfl
theorem gCR_14 (G : gG) (ad : gAd) : gCR G 14 ad = gCR G 15 ad := by unfold gCR; rw [gFl_14]
theorem gCR_29 (G : gG) (ad : gAd) : gCR G 29 ad = gCR G 30 ad := by unfold gCR; rw [gFl_29]
theorem gR_step {G : gG} {A : Nat → Prop} {H0 H : Heap} {locs : List Loc} {ad : gAd} {t q : Nat} (h14 : t ≠ 14) (h29 : t ≠ 29) (h : gW G A H0 H locs (g2 (gLvR t) 21 t True) (g2 ad 21 t q) (g2 (g2 (gCR G t ad) 21 t (.inl (G.2.1, gLen t, .inl (fun _ => 0)))) 20 0 (.inr (7, gFl (t + 1) (g2 ad 21 t q))))) : ∃ ad', ad' 20 0 = ad 20 0 ∧ gW G A H0 H locs (gLvR (t + 1)) ad' (gCR G (t + 1) ad') := by
  refine ⟨g2 ad 21 t q, g2_n _ _ (fun e => absurd e.1 (by decide)), ?_⟩
  have e : gLvR (t + 1) = g2 (gLvR t) 21 t True := by
    funext κ n
    refine propext ?_
    by_cases hc : κ = 21 ∧ n = t
    · obtain ⟨rfl, rfl⟩ := hc
      rw [g2_s]
      exact ⟨fun _ => trivial, fun _ => Or.inr ⟨rfl, by omega, h14, h29⟩⟩
    · rw [g2_n _ _ hc]
      refine or_congr Iff.rfl (and_congr_right (fun hk => ?_))
      have : n ≠ t := fun e => hc ⟨hk, e⟩
      omega
  rw [e]
  refine h.cong (fun κ n hl => ?_)
  by_cases h20 : κ = 20 ∧ n = 0
  · obtain ⟨rfl, rfl⟩ := h20
    rw [g2_s]
    rfl
  · rw [g2_n _ _ h20]
    have h21 : κ = 21 := by
      rw [← e] at hl
      rcases hl with h | h
      · exact absurd h h20
      · exact h.1
    subst h21
    by_cases hc : n = t
    · subst hc
      rw [g2_s]
      rfl
    · rw [g2_n _ _ (fun e => hc e.2)]
      rfl
theorem gCR_34 {G : gG} {A : Nat → Prop} {H0 H : Heap} {locs : List Loc} {ad : gAd} (h : gW G A H0 H locs (gLvR 34) ad (gCR G 34 ad)) : gW G A H0 H locs (gLvR 34) ad (gF G gM00 ad) := by
  refine h.cong (fun κ n hl => ?_)
  rcases hl with ⟨rfl, rfl⟩ | ⟨rfl, -⟩ <;> rfl
theorem gLM_34 : gLM (gLvR 34) := ⟨Or.inl ⟨rfl, rfl⟩, fun _ h1 h2 h3 => Or.inr ⟨rfl, h1, h2, h3⟩⟩
def gMz : gCT := (cs (cs (cs (cs (cs (cs (cs (cs (cs (cs (cs (cs (cs (cs (cs (cs (cs (cs (cs (cs gM00 21 7 0 60) 21 7 1 60) 21 7 2 60) 21 7 3 60) 21 9 0 20) 21 9 1 20) 21 9 2 20) 21 9 3 20) 21 9 4 20) 21 9 5 20) 21 9 6 20) 21 9 7 20) 21 9 8 20) 21 9 9 20) 21 9 10 20) 21 9 11 20) 21 9 12 20) 21 9 13 20) 21 9 14 20) 21 9 15 20)
set_option maxHeartbeats 8000000 in
set_option maxRecDepth 100000 in
theorem c_ref (l : Launch) (G : gG) (ad : gAd) (con : gCn) (hc : con 20 0 = .inr (7, gFl 0 ad)) : gMv l yX6_init cX6_init 2 (gRm 1 12 32 6952) G [.ref (ad 20 0)] gM0 ad con (fun u => ∃ ad', u = (gLvR 34, ad', gF G gMz ad') ∧ ad' 20 0 = ad 20 0) := by
  refine r_met (own := RX6) (by decide) rfl (Nat.le_of_ble_eq_true rfl) ?_
  intro p e s m below meth c ls X hw hr hlk hnm hl
  have hx := X.1.1; have hb := X.1.2.1; have hml := X.1.2.2.1; have hown := X.1.2.2.2.1; have hts := X.1.2.2.2.2
  have hl : lv_has ls 2 [(0, .ref (ad 20 0))] := hl
  refine lv_aload_n hx hb dX6_init_0 rfl (lv_at hl 0 rfl) ?_
  refine r_oi X ml_RX6_1 hl.1 dX6_init_1 (Nat.le_of_ble_eq_true rfl) (Nat.le_of_ble_eq_true rfl) ?_
  obtain ⟨a0, ea0, hw⟩ : ∃ a0, a0 20 0 = ad 20 0 ∧ gW G (gA gM0 ad s.heap.size) s.heap s.heap [] (gLvR 0) a0 (gCR G 0 a0) := by
    refine ⟨ad, rfl, ?_⟩
    rw [← gLvR_0]
    refine hw.cong (fun κ n hl => ?_)
    obtain ⟨rfl, rfl⟩ := hl
    rw [hc]; rfl
  refine lv_aload_n hx hb dX6_init_4 rfl (lv_at hl 0 rfl) ?_
  refine lv_bipush (v := 96) hx hb dX6_init_5 (by decide) ?_
  refine r_newi X hw 21 0 (gLvR_n 0) (z := 96) (N := gLen 0) (by decide) (by decide) (by decide) ac_int (Nat.le_of_ble_eq_true rfl) (Nat.le_of_ble_eq_true rfl) dX6_init_7 (fun q H _ hw => ?_)
  refine W.eq (g2 := F0 m 9 ls [.ref q, .ref ((g2 a0 21 0 q) 20 0)]) (by rw [g2_n _ _ (fun e => absurd e.1 (by decide)), ea0]) ?_
  refine r_putF X (hnm.trans rfl) hw 20 0 0 (Eq.mpr (g2_n _ _ (fun e => absurd e.1 (by decide))) (Or.inl ⟨rfl, rfl⟩)) (ci := 7) (fs := gFl 0 a0) (fs' := gFl (0 + 1) (g2 a0 21 0 q)) ((g2_n _ _ (fun e => absurd e.1 (by decide))).trans rfl) (gFl_set a0 q (by decide)) k_X6 (by decide) (by rw [gFl_len]; decide) fl_RX6_7 rfl rfl rfl rfl dX6_init_9 (fun H locs hw => ?_)
  obtain ⟨a1, ea, hw⟩ := gR_step (by decide) (by decide) hw
  have ea1 := ea.trans ea0; clear ea
  refine lv_aload_n hx hb dX6_init_12 rfl (lv_at hl 0 rfl) ?_
  refine lv_bipush (v := 96) hx hb dX6_init_13 (by decide) ?_
  refine r_newi X hw 21 1 (gLvR_n 1) (z := 96) (N := gLen 1) (by decide) (by decide) (by decide) ac_int (Nat.le_of_ble_eq_true rfl) (Nat.le_of_ble_eq_true rfl) dX6_init_15 (fun q H _ hw => ?_)
  refine W.eq (g2 := F0 m 17 ls [.ref q, .ref ((g2 a1 21 1 q) 20 0)]) (by rw [g2_n _ _ (fun e => absurd e.1 (by decide)), ea1]) ?_
  refine r_putF X (hnm.trans rfl) hw 20 0 1 (Eq.mpr (g2_n _ _ (fun e => absurd e.1 (by decide))) (Or.inl ⟨rfl, rfl⟩)) (ci := 7) (fs := gFl 1 a1) (fs' := gFl (1 + 1) (g2 a1 21 1 q)) ((g2_n _ _ (fun e => absurd e.1 (by decide))).trans rfl) (gFl_set a1 q (by decide)) k_X6 (by decide) (by rw [gFl_len]; decide) fl_RX6_13 rfl rfl rfl rfl dX6_init_17 (fun H locs hw => ?_)
  obtain ⟨a2, ea, hw⟩ := gR_step (by decide) (by decide) hw
  have ea2 := ea.trans ea1; clear ea
  refine lv_aload_n hx hb dX6_init_20 rfl (lv_at hl 0 rfl) ?_
  refine lv_iconst (v := 4) hx hb dX6_init_21 (by decide) ?_
  refine r_newi X hw 21 2 (gLvR_n 2) (z := 4) (N := gLen 2) (by decide) (by decide) (by decide) ac_int (Nat.le_of_ble_eq_true rfl) (Nat.le_of_ble_eq_true rfl) dX6_init_22 (fun q H _ hw => ?_)
  refine W.eq (g2 := F0 m 24 ls [.ref q, .ref ((g2 a2 21 2 q) 20 0)]) (by rw [g2_n _ _ (fun e => absurd e.1 (by decide)), ea2]) ?_
  refine r_putF X (hnm.trans rfl) hw 20 0 2 (Eq.mpr (g2_n _ _ (fun e => absurd e.1 (by decide))) (Or.inl ⟨rfl, rfl⟩)) (ci := 7) (fs := gFl 2 a2) (fs' := gFl (2 + 1) (g2 a2 21 2 q)) ((g2_n _ _ (fun e => absurd e.1 (by decide))).trans rfl) (gFl_set a2 q (by decide)) k_X6 (by decide) (by rw [gFl_len]; decide) fl_RX6_16 rfl rfl rfl rfl dX6_init_24 (fun H locs hw => ?_)
  obtain ⟨a3, ea, hw⟩ := gR_step (by decide) (by decide) hw
  have ea3 := ea.trans ea2; clear ea
  refine lv_aload_n hx hb dX6_init_27 rfl (lv_at hl 0 rfl) ?_
  refine lv_sipush (v := 576) hx hb dX6_init_28 (by decide) ?_
  refine r_newi X hw 21 3 (gLvR_n 3) (z := 576) (N := gLen 3) (by decide) (by decide) (by decide) ac_int (Nat.le_of_ble_eq_true rfl) (Nat.le_of_ble_eq_true rfl) dX6_init_31 (fun q H _ hw => ?_)
  refine W.eq (g2 := F0 m 33 ls [.ref q, .ref ((g2 a3 21 3 q) 20 0)]) (by rw [g2_n _ _ (fun e => absurd e.1 (by decide)), ea3]) ?_
  refine r_putF X (hnm.trans rfl) hw 20 0 3 (Eq.mpr (g2_n _ _ (fun e => absurd e.1 (by decide))) (Or.inl ⟨rfl, rfl⟩)) (ci := 7) (fs := gFl 3 a3) (fs' := gFl (3 + 1) (g2 a3 21 3 q)) ((g2_n _ _ (fun e => absurd e.1 (by decide))).trans rfl) (gFl_set a3 q (by decide)) k_X6 (by decide) (by rw [gFl_len]; decide) fl_RX6_19 rfl rfl rfl rfl dX6_init_33 (fun H locs hw => ?_)
  obtain ⟨a4, ea, hw⟩ := gR_step (by decide) (by decide) hw
  have ea4 := ea.trans ea3; clear ea
  refine lv_aload_n hx hb dX6_init_36 rfl (lv_at hl 0 rfl) ?_
  refine lv_sipush (v := 576) hx hb dX6_init_37 (by decide) ?_
  refine r_newi X hw 21 4 (gLvR_n 4) (z := 576) (N := gLen 4) (by decide) (by decide) (by decide) ac_int (Nat.le_of_ble_eq_true rfl) (Nat.le_of_ble_eq_true rfl) dX6_init_40 (fun q H _ hw => ?_)
  refine W.eq (g2 := F0 m 42 ls [.ref q, .ref ((g2 a4 21 4 q) 20 0)]) (by rw [g2_n _ _ (fun e => absurd e.1 (by decide)), ea4]) ?_
  refine r_putF X (hnm.trans rfl) hw 20 0 4 (Eq.mpr (g2_n _ _ (fun e => absurd e.1 (by decide))) (Or.inl ⟨rfl, rfl⟩)) (ci := 7) (fs := gFl 4 a4) (fs' := gFl (4 + 1) (g2 a4 21 4 q)) ((g2_n _ _ (fun e => absurd e.1 (by decide))).trans rfl) (gFl_set a4 q (by decide)) k_X6 (by decide) (by rw [gFl_len]; decide) fl_RX6_22 rfl rfl rfl rfl dX6_init_42 (fun H locs hw => ?_)
  obtain ⟨a5, ea, hw⟩ := gR_step (by decide) (by decide) hw
  have ea5 := ea.trans ea4; clear ea
  refine lv_aload_n hx hb dX6_init_45 rfl (lv_at hl 0 rfl) ?_
  refine lv_bipush (v := 24) hx hb dX6_init_46 (by decide) ?_
  refine r_newi X hw 21 5 (gLvR_n 5) (z := 24) (N := gLen 5) (by decide) (by decide) (by decide) ac_int (Nat.le_of_ble_eq_true rfl) (Nat.le_of_ble_eq_true rfl) dX6_init_48 (fun q H _ hw => ?_)
  refine W.eq (g2 := F0 m 50 ls [.ref q, .ref ((g2 a5 21 5 q) 20 0)]) (by rw [g2_n _ _ (fun e => absurd e.1 (by decide)), ea5]) ?_
  refine r_putF X (hnm.trans rfl) hw 20 0 5 (Eq.mpr (g2_n _ _ (fun e => absurd e.1 (by decide))) (Or.inl ⟨rfl, rfl⟩)) (ci := 7) (fs := gFl 5 a5) (fs' := gFl (5 + 1) (g2 a5 21 5 q)) ((g2_n _ _ (fun e => absurd e.1 (by decide))).trans rfl) (gFl_set a5 q (by decide)) k_X6 (by decide) (by rw [gFl_len]; decide) fl_RX6_25 rfl rfl rfl rfl dX6_init_50 (fun H locs hw => ?_)
  obtain ⟨a6, ea, hw⟩ := gR_step (by decide) (by decide) hw
  have ea6 := ea.trans ea5; clear ea
  refine lv_aload_n hx hb dX6_init_53 rfl (lv_at hl 0 rfl) ?_
  refine lv_iconst (v := 4) hx hb dX6_init_54 (by decide) ?_
  refine r_newi X hw 21 6 (gLvR_n 6) (z := 4) (N := gLen 6) (by decide) (by decide) (by decide) ac_int (Nat.le_of_ble_eq_true rfl) (Nat.le_of_ble_eq_true rfl) dX6_init_55 (fun q H _ hw => ?_)
  refine W.eq (g2 := F0 m 57 ls [.ref q, .ref ((g2 a6 21 6 q) 20 0)]) (by rw [g2_n _ _ (fun e => absurd e.1 (by decide)), ea6]) ?_
  refine r_putF X (hnm.trans rfl) hw 20 0 6 (Eq.mpr (g2_n _ _ (fun e => absurd e.1 (by decide))) (Or.inl ⟨rfl, rfl⟩)) (ci := 7) (fs := gFl 6 a6) (fs' := gFl (6 + 1) (g2 a6 21 6 q)) ((g2_n _ _ (fun e => absurd e.1 (by decide))).trans rfl) (gFl_set a6 q (by decide)) k_X6 (by decide) (by rw [gFl_len]; decide) fl_RX6_28 rfl rfl rfl rfl dX6_init_57 (fun H locs hw => ?_)
  obtain ⟨a7, ea, hw⟩ := gR_step (by decide) (by decide) hw
  have ea7 := ea.trans ea6; clear ea
  refine lv_aload_n hx hb dX6_init_60 rfl (lv_at hl 0 rfl) ?_
  refine lv_iconst (v := 4) hx hb dX6_init_61 (by decide) ?_
  refine r_newi X hw 21 7 (gLvR_n 7) (z := 4) (N := gLen 7) (by decide) (by decide) (by decide) ac_int (Nat.le_of_ble_eq_true rfl) (Nat.le_of_ble_eq_true rfl) dX6_init_62 (fun q H _ hw => ?_)
  refine W.eq (g2 := F0 m 64 ls [.ref q, .ref ((g2 a7 21 7 q) 20 0)]) (by rw [g2_n _ _ (fun e => absurd e.1 (by decide)), ea7]) ?_
  refine r_putF X (hnm.trans rfl) hw 20 0 7 (Eq.mpr (g2_n _ _ (fun e => absurd e.1 (by decide))) (Or.inl ⟨rfl, rfl⟩)) (ci := 7) (fs := gFl 7 a7) (fs' := gFl (7 + 1) (g2 a7 21 7 q)) ((g2_n _ _ (fun e => absurd e.1 (by decide))).trans rfl) (gFl_set a7 q (by decide)) k_X6 (by decide) (by rw [gFl_len]; decide) fl_RX6_31 rfl rfl rfl rfl dX6_init_64 (fun H locs hw => ?_)
  obtain ⟨a8, ea, hw⟩ := gR_step (by decide) (by decide) hw
  have ea8 := ea.trans ea7; clear ea
  refine lv_aload_n hx hb dX6_init_67 rfl (lv_at hl 0 rfl) ?_
  refine lv_iconst (v := 4) hx hb dX6_init_68 (by decide) ?_
  refine r_newi X hw 21 8 (gLvR_n 8) (z := 4) (N := gLen 8) (by decide) (by decide) (by decide) ac_int (Nat.le_of_ble_eq_true rfl) (Nat.le_of_ble_eq_true rfl) dX6_init_69 (fun q H _ hw => ?_)
  refine W.eq (g2 := F0 m 71 ls [.ref q, .ref ((g2 a8 21 8 q) 20 0)]) (by rw [g2_n _ _ (fun e => absurd e.1 (by decide)), ea8]) ?_
  refine r_putF X (hnm.trans rfl) hw 20 0 8 (Eq.mpr (g2_n _ _ (fun e => absurd e.1 (by decide))) (Or.inl ⟨rfl, rfl⟩)) (ci := 7) (fs := gFl 8 a8) (fs' := gFl (8 + 1) (g2 a8 21 8 q)) ((g2_n _ _ (fun e => absurd e.1 (by decide))).trans rfl) (gFl_set a8 q (by decide)) k_X6 (by decide) (by rw [gFl_len]; decide) fl_RX6_34 rfl rfl rfl rfl dX6_init_71 (fun H locs hw => ?_)
  obtain ⟨a9, ea, hw⟩ := gR_step (by decide) (by decide) hw
  have ea9 := ea.trans ea8; clear ea
  refine lv_aload_n hx hb dX6_init_74 rfl (lv_at hl 0 rfl) ?_
  refine lv_bipush (v := 16) hx hb dX6_init_75 (by decide) ?_
  refine r_newi X hw 21 9 (gLvR_n 9) (z := 16) (N := gLen 9) (by decide) (by decide) (by decide) ac_int (Nat.le_of_ble_eq_true rfl) (Nat.le_of_ble_eq_true rfl) dX6_init_77 (fun q H _ hw => ?_)
  refine W.eq (g2 := F0 m 79 ls [.ref q, .ref ((g2 a9 21 9 q) 20 0)]) (by rw [g2_n _ _ (fun e => absurd e.1 (by decide)), ea9]) ?_
  refine r_putF X (hnm.trans rfl) hw 20 0 9 (Eq.mpr (g2_n _ _ (fun e => absurd e.1 (by decide))) (Or.inl ⟨rfl, rfl⟩)) (ci := 7) (fs := gFl 9 a9) (fs' := gFl (9 + 1) (g2 a9 21 9 q)) ((g2_n _ _ (fun e => absurd e.1 (by decide))).trans rfl) (gFl_set a9 q (by decide)) k_X6 (by decide) (by rw [gFl_len]; decide) fl_RX6_37 rfl rfl rfl rfl dX6_init_79 (fun H locs hw => ?_)
  obtain ⟨a10, ea, hw⟩ := gR_step (by decide) (by decide) hw
  have ea10 := ea.trans ea9; clear ea
  refine lv_aload_n hx hb dX6_init_82 rfl (lv_at hl 0 rfl) ?_
  refine lv_bipush (v := 16) hx hb dX6_init_83 (by decide) ?_
  refine r_newi X hw 21 10 (gLvR_n 10) (z := 16) (N := gLen 10) (by decide) (by decide) (by decide) ac_int (Nat.le_of_ble_eq_true rfl) (Nat.le_of_ble_eq_true rfl) dX6_init_85 (fun q H _ hw => ?_)
  refine W.eq (g2 := F0 m 87 ls [.ref q, .ref ((g2 a10 21 10 q) 20 0)]) (by rw [g2_n _ _ (fun e => absurd e.1 (by decide)), ea10]) ?_
  refine r_putF X (hnm.trans rfl) hw 20 0 10 (Eq.mpr (g2_n _ _ (fun e => absurd e.1 (by decide))) (Or.inl ⟨rfl, rfl⟩)) (ci := 7) (fs := gFl 10 a10) (fs' := gFl (10 + 1) (g2 a10 21 10 q)) ((g2_n _ _ (fun e => absurd e.1 (by decide))).trans rfl) (gFl_set a10 q (by decide)) k_X6 (by decide) (by rw [gFl_len]; decide) fl_RX6_40 rfl rfl rfl rfl dX6_init_87 (fun H locs hw => ?_)
  obtain ⟨a11, ea, hw⟩ := gR_step (by decide) (by decide) hw
  have ea11 := ea.trans ea10; clear ea
  refine lv_aload_n hx hb dX6_init_90 rfl (lv_at hl 0 rfl) ?_
  refine lv_bipush (v := 16) hx hb dX6_init_91 (by decide) ?_
  refine r_newi X hw 21 11 (gLvR_n 11) (z := 16) (N := gLen 11) (by decide) (by decide) (by decide) ac_int (Nat.le_of_ble_eq_true rfl) (Nat.le_of_ble_eq_true rfl) dX6_init_93 (fun q H _ hw => ?_)
  refine W.eq (g2 := F0 m 95 ls [.ref q, .ref ((g2 a11 21 11 q) 20 0)]) (by rw [g2_n _ _ (fun e => absurd e.1 (by decide)), ea11]) ?_
  refine r_putF X (hnm.trans rfl) hw 20 0 11 (Eq.mpr (g2_n _ _ (fun e => absurd e.1 (by decide))) (Or.inl ⟨rfl, rfl⟩)) (ci := 7) (fs := gFl 11 a11) (fs' := gFl (11 + 1) (g2 a11 21 11 q)) ((g2_n _ _ (fun e => absurd e.1 (by decide))).trans rfl) (gFl_set a11 q (by decide)) k_X6 (by decide) (by rw [gFl_len]; decide) fl_RX6_43 rfl rfl rfl rfl dX6_init_95 (fun H locs hw => ?_)
  obtain ⟨a12, ea, hw⟩ := gR_step (by decide) (by decide) hw
  have ea12 := ea.trans ea11; clear ea
  refine lv_aload_n hx hb dX6_init_98 rfl (lv_at hl 0 rfl) ?_
  refine lv_bipush (v := 16) hx hb dX6_init_99 (by decide) ?_
  refine r_newi X hw 21 12 (gLvR_n 12) (z := 16) (N := gLen 12) (by decide) (by decide) (by decide) ac_int (Nat.le_of_ble_eq_true rfl) (Nat.le_of_ble_eq_true rfl) dX6_init_101 (fun q H _ hw => ?_)
  refine W.eq (g2 := F0 m 103 ls [.ref q, .ref ((g2 a12 21 12 q) 20 0)]) (by rw [g2_n _ _ (fun e => absurd e.1 (by decide)), ea12]) ?_
  refine r_putF X (hnm.trans rfl) hw 20 0 12 (Eq.mpr (g2_n _ _ (fun e => absurd e.1 (by decide))) (Or.inl ⟨rfl, rfl⟩)) (ci := 7) (fs := gFl 12 a12) (fs' := gFl (12 + 1) (g2 a12 21 12 q)) ((g2_n _ _ (fun e => absurd e.1 (by decide))).trans rfl) (gFl_set a12 q (by decide)) k_X6 (by decide) (by rw [gFl_len]; decide) fl_RX6_46 rfl rfl rfl rfl dX6_init_103 (fun H locs hw => ?_)
  obtain ⟨a13, ea, hw⟩ := gR_step (by decide) (by decide) hw
  have ea13 := ea.trans ea12; clear ea
  refine lv_aload_n hx hb dX6_init_106 rfl (lv_at hl 0 rfl) ?_
  refine lv_bipush (v := 16) hx hb dX6_init_107 (by decide) ?_
  refine r_newi X hw 21 13 (gLvR_n 13) (z := 16) (N := gLen 13) (by decide) (by decide) (by decide) ac_int (Nat.le_of_ble_eq_true rfl) (Nat.le_of_ble_eq_true rfl) dX6_init_109 (fun q H _ hw => ?_)
  refine W.eq (g2 := F0 m 111 ls [.ref q, .ref ((g2 a13 21 13 q) 20 0)]) (by rw [g2_n _ _ (fun e => absurd e.1 (by decide)), ea13]) ?_
  refine r_putF X (hnm.trans rfl) hw 20 0 13 (Eq.mpr (g2_n _ _ (fun e => absurd e.1 (by decide))) (Or.inl ⟨rfl, rfl⟩)) (ci := 7) (fs := gFl 13 a13) (fs' := gFl (13 + 1) (g2 a13 21 13 q)) ((g2_n _ _ (fun e => absurd e.1 (by decide))).trans rfl) (gFl_set a13 q (by decide)) k_X6 (by decide) (by rw [gFl_len]; decide) fl_RX6_49 rfl rfl rfl rfl dX6_init_111 (fun H locs hw => ?_)
  obtain ⟨a14, ea, hw⟩ := gR_step (by decide) (by decide) hw
  have ea14 := ea.trans ea13; clear ea
  rw [gLvR_14, gCR_14] at hw
  refine lv_aload_n hx hb dX6_init_114 rfl (lv_at hl 0 rfl) ?_
  refine lv_bipush (v := 24) hx hb dX6_init_115 (by decide) ?_
  refine r_newi X hw 21 15 (gLvR_n 15) (z := 24) (N := gLen 15) (by decide) (by decide) (by decide) ac_int (Nat.le_of_ble_eq_true rfl) (Nat.le_of_ble_eq_true rfl) dX6_init_117 (fun q H _ hw => ?_)
  refine W.eq (g2 := F0 m 119 ls [.ref q, .ref ((g2 a14 21 15 q) 20 0)]) (by rw [g2_n _ _ (fun e => absurd e.1 (by decide)), ea14]) ?_
  refine r_putF X (hnm.trans rfl) hw 20 0 15 (Eq.mpr (g2_n _ _ (fun e => absurd e.1 (by decide))) (Or.inl ⟨rfl, rfl⟩)) (ci := 7) (fs := gFl 15 a14) (fs' := gFl (15 + 1) (g2 a14 21 15 q)) ((g2_n _ _ (fun e => absurd e.1 (by decide))).trans rfl) (gFl_set a14 q (by decide)) k_X6 (by decide) (by rw [gFl_len]; decide) fl_RX6_52 rfl rfl rfl rfl dX6_init_119 (fun H locs hw => ?_)
  obtain ⟨a15, ea, hw⟩ := gR_step (by decide) (by decide) hw
  have ea15 := ea.trans ea14; clear ea
  refine lv_aload_n hx hb dX6_init_122 rfl (lv_at hl 0 rfl) ?_
  refine lv_bipush (v := 24) hx hb dX6_init_123 (by decide) ?_
  refine r_newi X hw 21 16 (gLvR_n 16) (z := 24) (N := gLen 16) (by decide) (by decide) (by decide) ac_int (Nat.le_of_ble_eq_true rfl) (Nat.le_of_ble_eq_true rfl) dX6_init_125 (fun q H _ hw => ?_)
  refine W.eq (g2 := F0 m 127 ls [.ref q, .ref ((g2 a15 21 16 q) 20 0)]) (by rw [g2_n _ _ (fun e => absurd e.1 (by decide)), ea15]) ?_
  refine r_putF X (hnm.trans rfl) hw 20 0 16 (Eq.mpr (g2_n _ _ (fun e => absurd e.1 (by decide))) (Or.inl ⟨rfl, rfl⟩)) (ci := 7) (fs := gFl 16 a15) (fs' := gFl (16 + 1) (g2 a15 21 16 q)) ((g2_n _ _ (fun e => absurd e.1 (by decide))).trans rfl) (gFl_set a15 q (by decide)) k_X6 (by decide) (by rw [gFl_len]; decide) fl_RX6_55 rfl rfl rfl rfl dX6_init_127 (fun H locs hw => ?_)
  obtain ⟨a16, ea, hw⟩ := gR_step (by decide) (by decide) hw
  have ea16 := ea.trans ea15; clear ea
  refine lv_aload_n hx hb dX6_init_130 rfl (lv_at hl 0 rfl) ?_
  refine lv_bipush (v := 24) hx hb dX6_init_131 (by decide) ?_
  refine r_newi X hw 21 17 (gLvR_n 17) (z := 24) (N := gLen 17) (by decide) (by decide) (by decide) ac_int (Nat.le_of_ble_eq_true rfl) (Nat.le_of_ble_eq_true rfl) dX6_init_133 (fun q H _ hw => ?_)
  refine W.eq (g2 := F0 m 135 ls [.ref q, .ref ((g2 a16 21 17 q) 20 0)]) (by rw [g2_n _ _ (fun e => absurd e.1 (by decide)), ea16]) ?_
  refine r_putF X (hnm.trans rfl) hw 20 0 17 (Eq.mpr (g2_n _ _ (fun e => absurd e.1 (by decide))) (Or.inl ⟨rfl, rfl⟩)) (ci := 7) (fs := gFl 17 a16) (fs' := gFl (17 + 1) (g2 a16 21 17 q)) ((g2_n _ _ (fun e => absurd e.1 (by decide))).trans rfl) (gFl_set a16 q (by decide)) k_X6 (by decide) (by rw [gFl_len]; decide) fl_RX6_58 rfl rfl rfl rfl dX6_init_135 (fun H locs hw => ?_)
  obtain ⟨a17, ea, hw⟩ := gR_step (by decide) (by decide) hw
  have ea17 := ea.trans ea16; clear ea
  refine lv_aload_n hx hb dX6_init_138 rfl (lv_at hl 0 rfl) ?_
  refine lv_bipush (v := 24) hx hb dX6_init_139 (by decide) ?_
  refine r_newi X hw 21 18 (gLvR_n 18) (z := 24) (N := gLen 18) (by decide) (by decide) (by decide) ac_int (Nat.le_of_ble_eq_true rfl) (Nat.le_of_ble_eq_true rfl) dX6_init_141 (fun q H _ hw => ?_)
  refine W.eq (g2 := F0 m 143 ls [.ref q, .ref ((g2 a17 21 18 q) 20 0)]) (by rw [g2_n _ _ (fun e => absurd e.1 (by decide)), ea17]) ?_
  refine r_putF X (hnm.trans rfl) hw 20 0 18 (Eq.mpr (g2_n _ _ (fun e => absurd e.1 (by decide))) (Or.inl ⟨rfl, rfl⟩)) (ci := 7) (fs := gFl 18 a17) (fs' := gFl (18 + 1) (g2 a17 21 18 q)) ((g2_n _ _ (fun e => absurd e.1 (by decide))).trans rfl) (gFl_set a17 q (by decide)) k_X6 (by decide) (by rw [gFl_len]; decide) fl_RX6_61 rfl rfl rfl rfl dX6_init_143 (fun H locs hw => ?_)
  obtain ⟨a18, ea, hw⟩ := gR_step (by decide) (by decide) hw
  have ea18 := ea.trans ea17; clear ea
  refine lv_aload_n hx hb dX6_init_146 rfl (lv_at hl 0 rfl) ?_
  refine lv_sipush (v := 192) hx hb dX6_init_147 (by decide) ?_
  refine r_newi X hw 21 19 (gLvR_n 19) (z := 192) (N := gLen 19) (by decide) (by decide) (by decide) ac_int (Nat.le_of_ble_eq_true rfl) (Nat.le_of_ble_eq_true rfl) dX6_init_150 (fun q H _ hw => ?_)
  refine W.eq (g2 := F0 m 152 ls [.ref q, .ref ((g2 a18 21 19 q) 20 0)]) (by rw [g2_n _ _ (fun e => absurd e.1 (by decide)), ea18]) ?_
  refine r_putF X (hnm.trans rfl) hw 20 0 19 (Eq.mpr (g2_n _ _ (fun e => absurd e.1 (by decide))) (Or.inl ⟨rfl, rfl⟩)) (ci := 7) (fs := gFl 19 a18) (fs' := gFl (19 + 1) (g2 a18 21 19 q)) ((g2_n _ _ (fun e => absurd e.1 (by decide))).trans rfl) (gFl_set a18 q (by decide)) k_X6 (by decide) (by rw [gFl_len]; decide) fl_RX6_64 rfl rfl rfl rfl dX6_init_152 (fun H locs hw => ?_)
  obtain ⟨a19, ea, hw⟩ := gR_step (by decide) (by decide) hw
  have ea19 := ea.trans ea18; clear ea
  refine lv_aload_n hx hb dX6_init_155 rfl (lv_at hl 0 rfl) ?_
  refine lv_bipush (v := 24) hx hb dX6_init_156 (by decide) ?_
  refine r_newi X hw 21 20 (gLvR_n 20) (z := 24) (N := gLen 20) (by decide) (by decide) (by decide) ac_int (Nat.le_of_ble_eq_true rfl) (Nat.le_of_ble_eq_true rfl) dX6_init_158 (fun q H _ hw => ?_)
  refine W.eq (g2 := F0 m 160 ls [.ref q, .ref ((g2 a19 21 20 q) 20 0)]) (by rw [g2_n _ _ (fun e => absurd e.1 (by decide)), ea19]) ?_
  refine r_putF X (hnm.trans rfl) hw 20 0 20 (Eq.mpr (g2_n _ _ (fun e => absurd e.1 (by decide))) (Or.inl ⟨rfl, rfl⟩)) (ci := 7) (fs := gFl 20 a19) (fs' := gFl (20 + 1) (g2 a19 21 20 q)) ((g2_n _ _ (fun e => absurd e.1 (by decide))).trans rfl) (gFl_set a19 q (by decide)) k_X6 (by decide) (by rw [gFl_len]; decide) fl_RX6_67 rfl rfl rfl rfl dX6_init_160 (fun H locs hw => ?_)
  obtain ⟨a20, ea, hw⟩ := gR_step (by decide) (by decide) hw
  have ea20 := ea.trans ea19; clear ea
  refine lv_aload_n hx hb dX6_init_163 rfl (lv_at hl 0 rfl) ?_
  refine lv_sipush (v := 192) hx hb dX6_init_164 (by decide) ?_
  refine r_newi X hw 21 21 (gLvR_n 21) (z := 192) (N := gLen 21) (by decide) (by decide) (by decide) ac_int (Nat.le_of_ble_eq_true rfl) (Nat.le_of_ble_eq_true rfl) dX6_init_167 (fun q H _ hw => ?_)
  refine W.eq (g2 := F0 m 169 ls [.ref q, .ref ((g2 a20 21 21 q) 20 0)]) (by rw [g2_n _ _ (fun e => absurd e.1 (by decide)), ea20]) ?_
  refine r_putF X (hnm.trans rfl) hw 20 0 21 (Eq.mpr (g2_n _ _ (fun e => absurd e.1 (by decide))) (Or.inl ⟨rfl, rfl⟩)) (ci := 7) (fs := gFl 21 a20) (fs' := gFl (21 + 1) (g2 a20 21 21 q)) ((g2_n _ _ (fun e => absurd e.1 (by decide))).trans rfl) (gFl_set a20 q (by decide)) k_X6 (by decide) (by rw [gFl_len]; decide) fl_RX6_70 rfl rfl rfl rfl dX6_init_169 (fun H locs hw => ?_)
  obtain ⟨a21, ea, hw⟩ := gR_step (by decide) (by decide) hw
  have ea21 := ea.trans ea20; clear ea
  refine lv_aload_n hx hb dX6_init_172 rfl (lv_at hl 0 rfl) ?_
  refine lv_bipush (v := 24) hx hb dX6_init_173 (by decide) ?_
  refine r_newi X hw 21 22 (gLvR_n 22) (z := 24) (N := gLen 22) (by decide) (by decide) (by decide) ac_int (Nat.le_of_ble_eq_true rfl) (Nat.le_of_ble_eq_true rfl) dX6_init_175 (fun q H _ hw => ?_)
  refine W.eq (g2 := F0 m 177 ls [.ref q, .ref ((g2 a21 21 22 q) 20 0)]) (by rw [g2_n _ _ (fun e => absurd e.1 (by decide)), ea21]) ?_
  refine r_putF X (hnm.trans rfl) hw 20 0 22 (Eq.mpr (g2_n _ _ (fun e => absurd e.1 (by decide))) (Or.inl ⟨rfl, rfl⟩)) (ci := 7) (fs := gFl 22 a21) (fs' := gFl (22 + 1) (g2 a21 21 22 q)) ((g2_n _ _ (fun e => absurd e.1 (by decide))).trans rfl) (gFl_set a21 q (by decide)) k_X6 (by decide) (by rw [gFl_len]; decide) fl_RX6_73 rfl rfl rfl rfl dX6_init_177 (fun H locs hw => ?_)
  obtain ⟨a22, ea, hw⟩ := gR_step (by decide) (by decide) hw
  have ea22 := ea.trans ea21; clear ea
  refine lv_aload_n hx hb dX6_init_180 rfl (lv_at hl 0 rfl) ?_
  refine lv_bipush (v := 24) hx hb dX6_init_181 (by decide) ?_
  refine r_newi X hw 21 23 (gLvR_n 23) (z := 24) (N := gLen 23) (by decide) (by decide) (by decide) ac_int (Nat.le_of_ble_eq_true rfl) (Nat.le_of_ble_eq_true rfl) dX6_init_183 (fun q H _ hw => ?_)
  refine W.eq (g2 := F0 m 185 ls [.ref q, .ref ((g2 a22 21 23 q) 20 0)]) (by rw [g2_n _ _ (fun e => absurd e.1 (by decide)), ea22]) ?_
  refine r_putF X (hnm.trans rfl) hw 20 0 23 (Eq.mpr (g2_n _ _ (fun e => absurd e.1 (by decide))) (Or.inl ⟨rfl, rfl⟩)) (ci := 7) (fs := gFl 23 a22) (fs' := gFl (23 + 1) (g2 a22 21 23 q)) ((g2_n _ _ (fun e => absurd e.1 (by decide))).trans rfl) (gFl_set a22 q (by decide)) k_X6 (by decide) (by rw [gFl_len]; decide) fl_RX6_76 rfl rfl rfl rfl dX6_init_185 (fun H locs hw => ?_)
  obtain ⟨a23, ea, hw⟩ := gR_step (by decide) (by decide) hw
  have ea23 := ea.trans ea22; clear ea
  refine lv_aload_n hx hb dX6_init_188 rfl (lv_at hl 0 rfl) ?_
  refine lv_bipush (v := 24) hx hb dX6_init_189 (by decide) ?_
  refine r_newi X hw 21 24 (gLvR_n 24) (z := 24) (N := gLen 24) (by decide) (by decide) (by decide) ac_int (Nat.le_of_ble_eq_true rfl) (Nat.le_of_ble_eq_true rfl) dX6_init_191 (fun q H _ hw => ?_)
  refine W.eq (g2 := F0 m 193 ls [.ref q, .ref ((g2 a23 21 24 q) 20 0)]) (by rw [g2_n _ _ (fun e => absurd e.1 (by decide)), ea23]) ?_
  refine r_putF X (hnm.trans rfl) hw 20 0 24 (Eq.mpr (g2_n _ _ (fun e => absurd e.1 (by decide))) (Or.inl ⟨rfl, rfl⟩)) (ci := 7) (fs := gFl 24 a23) (fs' := gFl (24 + 1) (g2 a23 21 24 q)) ((g2_n _ _ (fun e => absurd e.1 (by decide))).trans rfl) (gFl_set a23 q (by decide)) k_X6 (by decide) (by rw [gFl_len]; decide) fl_RX6_79 rfl rfl rfl rfl dX6_init_193 (fun H locs hw => ?_)
  obtain ⟨a24, ea, hw⟩ := gR_step (by decide) (by decide) hw
  have ea24 := ea.trans ea23; clear ea
  refine lv_aload_n hx hb dX6_init_196 rfl (lv_at hl 0 rfl) ?_
  refine lv_bipush (v := 24) hx hb dX6_init_197 (by decide) ?_
  refine r_newi X hw 21 25 (gLvR_n 25) (z := 24) (N := gLen 25) (by decide) (by decide) (by decide) ac_int (Nat.le_of_ble_eq_true rfl) (Nat.le_of_ble_eq_true rfl) dX6_init_199 (fun q H _ hw => ?_)
  refine W.eq (g2 := F0 m 201 ls [.ref q, .ref ((g2 a24 21 25 q) 20 0)]) (by rw [g2_n _ _ (fun e => absurd e.1 (by decide)), ea24]) ?_
  refine r_putF X (hnm.trans rfl) hw 20 0 25 (Eq.mpr (g2_n _ _ (fun e => absurd e.1 (by decide))) (Or.inl ⟨rfl, rfl⟩)) (ci := 7) (fs := gFl 25 a24) (fs' := gFl (25 + 1) (g2 a24 21 25 q)) ((g2_n _ _ (fun e => absurd e.1 (by decide))).trans rfl) (gFl_set a24 q (by decide)) k_X6 (by decide) (by rw [gFl_len]; decide) fl_RX6_82 rfl rfl rfl rfl dX6_init_201 (fun H locs hw => ?_)
  obtain ⟨a25, ea, hw⟩ := gR_step (by decide) (by decide) hw
  have ea25 := ea.trans ea24; clear ea
  refine lv_aload_n hx hb dX6_init_204 rfl (lv_at hl 0 rfl) ?_
  refine lv_bipush (v := 24) hx hb dX6_init_205 (by decide) ?_
  refine r_newi X hw 21 26 (gLvR_n 26) (z := 24) (N := gLen 26) (by decide) (by decide) (by decide) ac_int (Nat.le_of_ble_eq_true rfl) (Nat.le_of_ble_eq_true rfl) dX6_init_207 (fun q H _ hw => ?_)
  refine W.eq (g2 := F0 m 209 ls [.ref q, .ref ((g2 a25 21 26 q) 20 0)]) (by rw [g2_n _ _ (fun e => absurd e.1 (by decide)), ea25]) ?_
  refine r_putF X (hnm.trans rfl) hw 20 0 26 (Eq.mpr (g2_n _ _ (fun e => absurd e.1 (by decide))) (Or.inl ⟨rfl, rfl⟩)) (ci := 7) (fs := gFl 26 a25) (fs' := gFl (26 + 1) (g2 a25 21 26 q)) ((g2_n _ _ (fun e => absurd e.1 (by decide))).trans rfl) (gFl_set a25 q (by decide)) k_X6 (by decide) (by rw [gFl_len]; decide) fl_RX6_85 rfl rfl rfl rfl dX6_init_209 (fun H locs hw => ?_)
  obtain ⟨a26, ea, hw⟩ := gR_step (by decide) (by decide) hw
  have ea26 := ea.trans ea25; clear ea
  refine lv_aload_n hx hb dX6_init_212 rfl (lv_at hl 0 rfl) ?_
  refine lv_sipush (v := 384) hx hb dX6_init_213 (by decide) ?_
  refine r_newi X hw 21 27 (gLvR_n 27) (z := 384) (N := gLen 27) (by decide) (by decide) (by decide) ac_int (Nat.le_of_ble_eq_true rfl) (Nat.le_of_ble_eq_true rfl) dX6_init_216 (fun q H _ hw => ?_)
  refine W.eq (g2 := F0 m 218 ls [.ref q, .ref ((g2 a26 21 27 q) 20 0)]) (by rw [g2_n _ _ (fun e => absurd e.1 (by decide)), ea26]) ?_
  refine r_putF X (hnm.trans rfl) hw 20 0 27 (Eq.mpr (g2_n _ _ (fun e => absurd e.1 (by decide))) (Or.inl ⟨rfl, rfl⟩)) (ci := 7) (fs := gFl 27 a26) (fs' := gFl (27 + 1) (g2 a26 21 27 q)) ((g2_n _ _ (fun e => absurd e.1 (by decide))).trans rfl) (gFl_set a26 q (by decide)) k_X6 (by decide) (by rw [gFl_len]; decide) fl_RX6_88 rfl rfl rfl rfl dX6_init_218 (fun H locs hw => ?_)
  obtain ⟨a27, ea, hw⟩ := gR_step (by decide) (by decide) hw
  have ea27 := ea.trans ea26; clear ea
  refine lv_aload_n hx hb dX6_init_221 rfl (lv_at hl 0 rfl) ?_
  refine lv_sipush (v := 384) hx hb dX6_init_222 (by decide) ?_
  refine r_newi X hw 21 28 (gLvR_n 28) (z := 384) (N := gLen 28) (by decide) (by decide) (by decide) ac_int (Nat.le_of_ble_eq_true rfl) (Nat.le_of_ble_eq_true rfl) dX6_init_225 (fun q H _ hw => ?_)
  refine W.eq (g2 := F0 m 227 ls [.ref q, .ref ((g2 a27 21 28 q) 20 0)]) (by rw [g2_n _ _ (fun e => absurd e.1 (by decide)), ea27]) ?_
  refine r_putF X (hnm.trans rfl) hw 20 0 28 (Eq.mpr (g2_n _ _ (fun e => absurd e.1 (by decide))) (Or.inl ⟨rfl, rfl⟩)) (ci := 7) (fs := gFl 28 a27) (fs' := gFl (28 + 1) (g2 a27 21 28 q)) ((g2_n _ _ (fun e => absurd e.1 (by decide))).trans rfl) (gFl_set a27 q (by decide)) k_X6 (by decide) (by rw [gFl_len]; decide) fl_RX6_91 rfl rfl rfl rfl dX6_init_227 (fun H locs hw => ?_)
  obtain ⟨a28, ea, hw⟩ := gR_step (by decide) (by decide) hw
  have ea28 := ea.trans ea27; clear ea
  rw [gLvR_29, gCR_29] at hw
  refine lv_aload_n hx hb dX6_init_230 rfl (lv_at hl 0 rfl) ?_
  refine lv_sipush (v := 1024) hx hb dX6_init_231 (by decide) ?_
  refine r_newi X hw 21 30 (gLvR_n 30) (z := 1024) (N := gLen 30) (by decide) (by decide) (by decide) ac_int (Nat.le_of_ble_eq_true rfl) (Nat.le_of_ble_eq_true rfl) dX6_init_234 (fun q H _ hw => ?_)
  refine W.eq (g2 := F0 m 236 ls [.ref q, .ref ((g2 a28 21 30 q) 20 0)]) (by rw [g2_n _ _ (fun e => absurd e.1 (by decide)), ea28]) ?_
  refine r_putF X (hnm.trans rfl) hw 20 0 30 (Eq.mpr (g2_n _ _ (fun e => absurd e.1 (by decide))) (Or.inl ⟨rfl, rfl⟩)) (ci := 7) (fs := gFl 30 a28) (fs' := gFl (30 + 1) (g2 a28 21 30 q)) ((g2_n _ _ (fun e => absurd e.1 (by decide))).trans rfl) (gFl_set a28 q (by decide)) k_X6 (by decide) (by rw [gFl_len]; decide) fl_RX6_94 rfl rfl rfl rfl dX6_init_236 (fun H locs hw => ?_)
  obtain ⟨a29, ea, hw⟩ := gR_step (by decide) (by decide) hw
  have ea29 := ea.trans ea28; clear ea
  refine lv_aload_n hx hb dX6_init_239 rfl (lv_at hl 0 rfl) ?_
  refine lv_sipush (v := 1024) hx hb dX6_init_240 (by decide) ?_
  refine r_newi X hw 21 31 (gLvR_n 31) (z := 1024) (N := gLen 31) (by decide) (by decide) (by decide) ac_int (Nat.le_of_ble_eq_true rfl) (Nat.le_of_ble_eq_true rfl) dX6_init_243 (fun q H _ hw => ?_)
  refine W.eq (g2 := F0 m 245 ls [.ref q, .ref ((g2 a29 21 31 q) 20 0)]) (by rw [g2_n _ _ (fun e => absurd e.1 (by decide)), ea29]) ?_
  refine r_putF X (hnm.trans rfl) hw 20 0 31 (Eq.mpr (g2_n _ _ (fun e => absurd e.1 (by decide))) (Or.inl ⟨rfl, rfl⟩)) (ci := 7) (fs := gFl 31 a29) (fs' := gFl (31 + 1) (g2 a29 21 31 q)) ((g2_n _ _ (fun e => absurd e.1 (by decide))).trans rfl) (gFl_set a29 q (by decide)) k_X6 (by decide) (by rw [gFl_len]; decide) fl_RX6_97 rfl rfl rfl rfl dX6_init_245 (fun H locs hw => ?_)
  obtain ⟨a30, ea, hw⟩ := gR_step (by decide) (by decide) hw
  have ea30 := ea.trans ea29; clear ea
  refine lv_aload_n hx hb dX6_init_248 rfl (lv_at hl 0 rfl) ?_
  refine lv_sipush (v := 1024) hx hb dX6_init_249 (by decide) ?_
  refine r_newi X hw 21 32 (gLvR_n 32) (z := 1024) (N := gLen 32) (by decide) (by decide) (by decide) ac_int (Nat.le_of_ble_eq_true rfl) (Nat.le_of_ble_eq_true rfl) dX6_init_252 (fun q H _ hw => ?_)
  refine W.eq (g2 := F0 m 254 ls [.ref q, .ref ((g2 a30 21 32 q) 20 0)]) (by rw [g2_n _ _ (fun e => absurd e.1 (by decide)), ea30]) ?_
  refine r_putF X (hnm.trans rfl) hw 20 0 32 (Eq.mpr (g2_n _ _ (fun e => absurd e.1 (by decide))) (Or.inl ⟨rfl, rfl⟩)) (ci := 7) (fs := gFl 32 a30) (fs' := gFl (32 + 1) (g2 a30 21 32 q)) ((g2_n _ _ (fun e => absurd e.1 (by decide))).trans rfl) (gFl_set a30 q (by decide)) k_X6 (by decide) (by rw [gFl_len]; decide) fl_RX6_100 rfl rfl rfl rfl dX6_init_254 (fun H locs hw => ?_)
  obtain ⟨a31, ea, hw⟩ := gR_step (by decide) (by decide) hw
  have ea31 := ea.trans ea30; clear ea
  refine lv_aload_n hx hb dX6_init_257 rfl (lv_at hl 0 rfl) ?_
  refine lv_sipush (v := 1024) hx hb dX6_init_258 (by decide) ?_
  refine r_newi X hw 21 33 (gLvR_n 33) (z := 1024) (N := gLen 33) (by decide) (by decide) (by decide) ac_int (Nat.le_of_ble_eq_true rfl) (Nat.le_of_ble_eq_true rfl) dX6_init_261 (fun q H _ hw => ?_)
  refine W.eq (g2 := F0 m 263 ls [.ref q, .ref ((g2 a31 21 33 q) 20 0)]) (by rw [g2_n _ _ (fun e => absurd e.1 (by decide)), ea31]) ?_
  refine r_putF X (hnm.trans rfl) hw 20 0 33 (Eq.mpr (g2_n _ _ (fun e => absurd e.1 (by decide))) (Or.inl ⟨rfl, rfl⟩)) (ci := 7) (fs := gFl 33 a31) (fs' := gFl (33 + 1) (g2 a31 21 33 q)) ((g2_n _ _ (fun e => absurd e.1 (by decide))).trans rfl) (gFl_set a31 q (by decide)) k_X6 (by decide) (by rw [gFl_len]; decide) fl_RX6_103 rfl rfl rfl rfl dX6_init_263 (fun H locs hw => ?_)
  obtain ⟨a32, ea, hw⟩ := gR_step (by decide) (by decide) hw
  have ea32 := ea.trans ea31; clear ea
  have hw := gCR_34 hw
  have hl : lv_has ls 2 [(0, .ref (a32 20 0))] := by rw [ea32]; exact hl
  refine lv_iconst (v := 0) hx hb dX6_init_266 (by decide) ?_
  refine lv_istore_n (lv' := [(1, .int 0), (0, .ref (a32 20 0))]) hx hb dX6_init_267 rfl hl (by decide) rfl (fun ls hl => ?_)
  refine lv_iload_n hx hb dX6_init_268 rfl (lv_at hl 0 rfl) ?_
  refine lv_iconst (v := 4) hx hb dX6_init_269 (by decide) ?_
  refine lv_icmp_ge (tgt := 287) hx hb dX6_init_270 (by decide) (fun q => absurd q (by decide)) (fun _ => ?_)
  refine lv_aload_n hx hb dX6_init_273 rfl (lv_at hl 1 rfl) ?_
  refine r_get X hw 20 0 7 (Or.inl ⟨rfl, rfl⟩) rfl rfl k_X6 (by decide) fl_RX6_31 dX6_init_274 ?_
  refine lv_iload_n hx hb dX6_init_277 rfl (lv_at hl 0 rfl) ?_
  refine lv_bipush (v := 60) hx hb dX6_init_278 (by decide) ?_
  refine q_iast X hw 7 (gLM_34.2 7 (by decide) (by decide) (by decide)) (j := 0) rfl (by decide) dX6_init_280 (fun H locs hw => ?_)
  refine lv_iinc (v := 1) (lv' := [(1, .int 1), (0, .ref (a32 20 0))]) hx hb dX6_init_281 hl (k := 0) rfl (by decide) (by decide) rfl (fun ls hl => ?_)
  refine lv_goto (tgt := 268) hx hb dX6_init_284 (by decide) ?_
  refine lv_iload_n hx hb dX6_init_268 rfl (lv_at hl 0 rfl) ?_
  refine lv_iconst (v := 4) hx hb dX6_init_269 (by decide) ?_
  refine lv_icmp_ge (tgt := 287) hx hb dX6_init_270 (by decide) (fun q => absurd q (by decide)) (fun _ => ?_)
  refine lv_aload_n hx hb dX6_init_273 rfl (lv_at hl 1 rfl) ?_
  refine r_get X hw 20 0 7 (Or.inl ⟨rfl, rfl⟩) rfl rfl k_X6 (by decide) fl_RX6_31 dX6_init_274 ?_
  refine lv_iload_n hx hb dX6_init_277 rfl (lv_at hl 0 rfl) ?_
  refine lv_bipush (v := 60) hx hb dX6_init_278 (by decide) ?_
  refine q_iast X hw 7 (gLM_34.2 7 (by decide) (by decide) (by decide)) (j := 1) rfl (by decide) dX6_init_280 (fun H locs hw => ?_)
  refine lv_iinc (v := 2) (lv' := [(1, .int 2), (0, .ref (a32 20 0))]) hx hb dX6_init_281 hl (k := 0) rfl (by decide) (by decide) rfl (fun ls hl => ?_)
  refine lv_goto (tgt := 268) hx hb dX6_init_284 (by decide) ?_
  refine lv_iload_n hx hb dX6_init_268 rfl (lv_at hl 0 rfl) ?_
  refine lv_iconst (v := 4) hx hb dX6_init_269 (by decide) ?_
  refine lv_icmp_ge (tgt := 287) hx hb dX6_init_270 (by decide) (fun q => absurd q (by decide)) (fun _ => ?_)
  refine lv_aload_n hx hb dX6_init_273 rfl (lv_at hl 1 rfl) ?_
  refine r_get X hw 20 0 7 (Or.inl ⟨rfl, rfl⟩) rfl rfl k_X6 (by decide) fl_RX6_31 dX6_init_274 ?_
  refine lv_iload_n hx hb dX6_init_277 rfl (lv_at hl 0 rfl) ?_
  refine lv_bipush (v := 60) hx hb dX6_init_278 (by decide) ?_
  refine q_iast X hw 7 (gLM_34.2 7 (by decide) (by decide) (by decide)) (j := 2) rfl (by decide) dX6_init_280 (fun H locs hw => ?_)
  refine lv_iinc (v := 3) (lv' := [(1, .int 3), (0, .ref (a32 20 0))]) hx hb dX6_init_281 hl (k := 0) rfl (by decide) (by decide) rfl (fun ls hl => ?_)
  refine lv_goto (tgt := 268) hx hb dX6_init_284 (by decide) ?_
  refine lv_iload_n hx hb dX6_init_268 rfl (lv_at hl 0 rfl) ?_
  refine lv_iconst (v := 4) hx hb dX6_init_269 (by decide) ?_
  refine lv_icmp_ge (tgt := 287) hx hb dX6_init_270 (by decide) (fun q => absurd q (by decide)) (fun _ => ?_)
  refine lv_aload_n hx hb dX6_init_273 rfl (lv_at hl 1 rfl) ?_
  refine r_get X hw 20 0 7 (Or.inl ⟨rfl, rfl⟩) rfl rfl k_X6 (by decide) fl_RX6_31 dX6_init_274 ?_
  refine lv_iload_n hx hb dX6_init_277 rfl (lv_at hl 0 rfl) ?_
  refine lv_bipush (v := 60) hx hb dX6_init_278 (by decide) ?_
  refine q_iast X hw 7 (gLM_34.2 7 (by decide) (by decide) (by decide)) (j := 3) rfl (by decide) dX6_init_280 (fun H locs hw => ?_)
  refine lv_iinc (v := 4) (lv' := [(1, .int 4), (0, .ref (a32 20 0))]) hx hb dX6_init_281 hl (k := 0) rfl (by decide) (by decide) rfl (fun ls hl => ?_)
  refine lv_goto (tgt := 268) hx hb dX6_init_284 (by decide) ?_
  refine lv_iload_n hx hb dX6_init_268 rfl (lv_at hl 0 rfl) ?_
  refine lv_iconst (v := 4) hx hb dX6_init_269 (by decide) ?_
  refine lv_icmp_ge (tgt := 287) hx hb dX6_init_270 (by decide) (fun _ => ?_) (fun q => absurd (by decide) q)
  refine lv_iconst (v := 0) hx hb dX6_init_287 (by decide) ?_
  refine lv_istore_n (lv' := [(1, .int 0), (0, .ref (a32 20 0))]) hx hb dX6_init_288 rfl hl (by decide) rfl (fun ls hl => ?_)
  refine lv_iload_n hx hb dX6_init_289 rfl (lv_at hl 0 rfl) ?_
  refine lv_bipush (v := 16) hx hb dX6_init_290 (by decide) ?_
  refine lv_icmp_ge (tgt := 309) hx hb dX6_init_292 (by decide) (fun q => absurd q (by decide)) (fun _ => ?_)
  refine lv_aload_n hx hb dX6_init_295 rfl (lv_at hl 1 rfl) ?_
  refine r_get X hw 20 0 9 (Or.inl ⟨rfl, rfl⟩) rfl rfl k_X6 (by decide) fl_RX6_37 dX6_init_296 ?_
  refine lv_iload_n hx hb dX6_init_299 rfl (lv_at hl 0 rfl) ?_
  refine lv_bipush (v := 20) hx hb dX6_init_300 (by decide) ?_
  refine q_iast X hw 9 (gLM_34.2 9 (by decide) (by decide) (by decide)) (j := 0) rfl (by decide) dX6_init_302 (fun H locs hw => ?_)
  refine lv_iinc (v := 1) (lv' := [(1, .int 1), (0, .ref (a32 20 0))]) hx hb dX6_init_303 hl (k := 0) rfl (by decide) (by decide) rfl (fun ls hl => ?_)
  refine lv_goto (tgt := 289) hx hb dX6_init_306 (by decide) ?_
  refine lv_iload_n hx hb dX6_init_289 rfl (lv_at hl 0 rfl) ?_
  refine lv_bipush (v := 16) hx hb dX6_init_290 (by decide) ?_
  refine lv_icmp_ge (tgt := 309) hx hb dX6_init_292 (by decide) (fun q => absurd q (by decide)) (fun _ => ?_)
  refine lv_aload_n hx hb dX6_init_295 rfl (lv_at hl 1 rfl) ?_
  refine r_get X hw 20 0 9 (Or.inl ⟨rfl, rfl⟩) rfl rfl k_X6 (by decide) fl_RX6_37 dX6_init_296 ?_
  refine lv_iload_n hx hb dX6_init_299 rfl (lv_at hl 0 rfl) ?_
  refine lv_bipush (v := 20) hx hb dX6_init_300 (by decide) ?_
  refine q_iast X hw 9 (gLM_34.2 9 (by decide) (by decide) (by decide)) (j := 1) rfl (by decide) dX6_init_302 (fun H locs hw => ?_)
  refine lv_iinc (v := 2) (lv' := [(1, .int 2), (0, .ref (a32 20 0))]) hx hb dX6_init_303 hl (k := 0) rfl (by decide) (by decide) rfl (fun ls hl => ?_)
  refine lv_goto (tgt := 289) hx hb dX6_init_306 (by decide) ?_
  refine lv_iload_n hx hb dX6_init_289 rfl (lv_at hl 0 rfl) ?_
  refine lv_bipush (v := 16) hx hb dX6_init_290 (by decide) ?_
  refine lv_icmp_ge (tgt := 309) hx hb dX6_init_292 (by decide) (fun q => absurd q (by decide)) (fun _ => ?_)
  refine lv_aload_n hx hb dX6_init_295 rfl (lv_at hl 1 rfl) ?_
  refine r_get X hw 20 0 9 (Or.inl ⟨rfl, rfl⟩) rfl rfl k_X6 (by decide) fl_RX6_37 dX6_init_296 ?_
  refine lv_iload_n hx hb dX6_init_299 rfl (lv_at hl 0 rfl) ?_
  refine lv_bipush (v := 20) hx hb dX6_init_300 (by decide) ?_
  refine q_iast X hw 9 (gLM_34.2 9 (by decide) (by decide) (by decide)) (j := 2) rfl (by decide) dX6_init_302 (fun H locs hw => ?_)
  refine lv_iinc (v := 3) (lv' := [(1, .int 3), (0, .ref (a32 20 0))]) hx hb dX6_init_303 hl (k := 0) rfl (by decide) (by decide) rfl (fun ls hl => ?_)
  refine lv_goto (tgt := 289) hx hb dX6_init_306 (by decide) ?_
  refine lv_iload_n hx hb dX6_init_289 rfl (lv_at hl 0 rfl) ?_
  refine lv_bipush (v := 16) hx hb dX6_init_290 (by decide) ?_
  refine lv_icmp_ge (tgt := 309) hx hb dX6_init_292 (by decide) (fun q => absurd q (by decide)) (fun _ => ?_)
  refine lv_aload_n hx hb dX6_init_295 rfl (lv_at hl 1 rfl) ?_
  refine r_get X hw 20 0 9 (Or.inl ⟨rfl, rfl⟩) rfl rfl k_X6 (by decide) fl_RX6_37 dX6_init_296 ?_
  refine lv_iload_n hx hb dX6_init_299 rfl (lv_at hl 0 rfl) ?_
  refine lv_bipush (v := 20) hx hb dX6_init_300 (by decide) ?_
  refine q_iast X hw 9 (gLM_34.2 9 (by decide) (by decide) (by decide)) (j := 3) rfl (by decide) dX6_init_302 (fun H locs hw => ?_)
  refine lv_iinc (v := 4) (lv' := [(1, .int 4), (0, .ref (a32 20 0))]) hx hb dX6_init_303 hl (k := 0) rfl (by decide) (by decide) rfl (fun ls hl => ?_)
  refine lv_goto (tgt := 289) hx hb dX6_init_306 (by decide) ?_
  refine lv_iload_n hx hb dX6_init_289 rfl (lv_at hl 0 rfl) ?_
  refine lv_bipush (v := 16) hx hb dX6_init_290 (by decide) ?_
  refine lv_icmp_ge (tgt := 309) hx hb dX6_init_292 (by decide) (fun q => absurd q (by decide)) (fun _ => ?_)
  refine lv_aload_n hx hb dX6_init_295 rfl (lv_at hl 1 rfl) ?_
  refine r_get X hw 20 0 9 (Or.inl ⟨rfl, rfl⟩) rfl rfl k_X6 (by decide) fl_RX6_37 dX6_init_296 ?_
  refine lv_iload_n hx hb dX6_init_299 rfl (lv_at hl 0 rfl) ?_
  refine lv_bipush (v := 20) hx hb dX6_init_300 (by decide) ?_
  refine q_iast X hw 9 (gLM_34.2 9 (by decide) (by decide) (by decide)) (j := 4) rfl (by decide) dX6_init_302 (fun H locs hw => ?_)
  refine lv_iinc (v := 5) (lv' := [(1, .int 5), (0, .ref (a32 20 0))]) hx hb dX6_init_303 hl (k := 0) rfl (by decide) (by decide) rfl (fun ls hl => ?_)
  refine lv_goto (tgt := 289) hx hb dX6_init_306 (by decide) ?_
  refine lv_iload_n hx hb dX6_init_289 rfl (lv_at hl 0 rfl) ?_
  refine lv_bipush (v := 16) hx hb dX6_init_290 (by decide) ?_
  refine lv_icmp_ge (tgt := 309) hx hb dX6_init_292 (by decide) (fun q => absurd q (by decide)) (fun _ => ?_)
  refine lv_aload_n hx hb dX6_init_295 rfl (lv_at hl 1 rfl) ?_
  refine r_get X hw 20 0 9 (Or.inl ⟨rfl, rfl⟩) rfl rfl k_X6 (by decide) fl_RX6_37 dX6_init_296 ?_
  refine lv_iload_n hx hb dX6_init_299 rfl (lv_at hl 0 rfl) ?_
  refine lv_bipush (v := 20) hx hb dX6_init_300 (by decide) ?_
  refine q_iast X hw 9 (gLM_34.2 9 (by decide) (by decide) (by decide)) (j := 5) rfl (by decide) dX6_init_302 (fun H locs hw => ?_)
  refine lv_iinc (v := 6) (lv' := [(1, .int 6), (0, .ref (a32 20 0))]) hx hb dX6_init_303 hl (k := 0) rfl (by decide) (by decide) rfl (fun ls hl => ?_)
  refine lv_goto (tgt := 289) hx hb dX6_init_306 (by decide) ?_
  refine lv_iload_n hx hb dX6_init_289 rfl (lv_at hl 0 rfl) ?_
  refine lv_bipush (v := 16) hx hb dX6_init_290 (by decide) ?_
  refine lv_icmp_ge (tgt := 309) hx hb dX6_init_292 (by decide) (fun q => absurd q (by decide)) (fun _ => ?_)
  refine lv_aload_n hx hb dX6_init_295 rfl (lv_at hl 1 rfl) ?_
  refine r_get X hw 20 0 9 (Or.inl ⟨rfl, rfl⟩) rfl rfl k_X6 (by decide) fl_RX6_37 dX6_init_296 ?_
  refine lv_iload_n hx hb dX6_init_299 rfl (lv_at hl 0 rfl) ?_
  refine lv_bipush (v := 20) hx hb dX6_init_300 (by decide) ?_
  refine q_iast X hw 9 (gLM_34.2 9 (by decide) (by decide) (by decide)) (j := 6) rfl (by decide) dX6_init_302 (fun H locs hw => ?_)
  refine lv_iinc (v := 7) (lv' := [(1, .int 7), (0, .ref (a32 20 0))]) hx hb dX6_init_303 hl (k := 0) rfl (by decide) (by decide) rfl (fun ls hl => ?_)
  refine lv_goto (tgt := 289) hx hb dX6_init_306 (by decide) ?_
  refine lv_iload_n hx hb dX6_init_289 rfl (lv_at hl 0 rfl) ?_
  refine lv_bipush (v := 16) hx hb dX6_init_290 (by decide) ?_
  refine lv_icmp_ge (tgt := 309) hx hb dX6_init_292 (by decide) (fun q => absurd q (by decide)) (fun _ => ?_)
  refine lv_aload_n hx hb dX6_init_295 rfl (lv_at hl 1 rfl) ?_
  refine r_get X hw 20 0 9 (Or.inl ⟨rfl, rfl⟩) rfl rfl k_X6 (by decide) fl_RX6_37 dX6_init_296 ?_
  refine lv_iload_n hx hb dX6_init_299 rfl (lv_at hl 0 rfl) ?_
  refine lv_bipush (v := 20) hx hb dX6_init_300 (by decide) ?_
  refine q_iast X hw 9 (gLM_34.2 9 (by decide) (by decide) (by decide)) (j := 7) rfl (by decide) dX6_init_302 (fun H locs hw => ?_)
  refine lv_iinc (v := 8) (lv' := [(1, .int 8), (0, .ref (a32 20 0))]) hx hb dX6_init_303 hl (k := 0) rfl (by decide) (by decide) rfl (fun ls hl => ?_)
  refine lv_goto (tgt := 289) hx hb dX6_init_306 (by decide) ?_
  refine lv_iload_n hx hb dX6_init_289 rfl (lv_at hl 0 rfl) ?_
  refine lv_bipush (v := 16) hx hb dX6_init_290 (by decide) ?_
  refine lv_icmp_ge (tgt := 309) hx hb dX6_init_292 (by decide) (fun q => absurd q (by decide)) (fun _ => ?_)
  refine lv_aload_n hx hb dX6_init_295 rfl (lv_at hl 1 rfl) ?_
  refine r_get X hw 20 0 9 (Or.inl ⟨rfl, rfl⟩) rfl rfl k_X6 (by decide) fl_RX6_37 dX6_init_296 ?_
  refine lv_iload_n hx hb dX6_init_299 rfl (lv_at hl 0 rfl) ?_
  refine lv_bipush (v := 20) hx hb dX6_init_300 (by decide) ?_
  refine q_iast X hw 9 (gLM_34.2 9 (by decide) (by decide) (by decide)) (j := 8) rfl (by decide) dX6_init_302 (fun H locs hw => ?_)
  refine lv_iinc (v := 9) (lv' := [(1, .int 9), (0, .ref (a32 20 0))]) hx hb dX6_init_303 hl (k := 0) rfl (by decide) (by decide) rfl (fun ls hl => ?_)
  refine lv_goto (tgt := 289) hx hb dX6_init_306 (by decide) ?_
  refine lv_iload_n hx hb dX6_init_289 rfl (lv_at hl 0 rfl) ?_
  refine lv_bipush (v := 16) hx hb dX6_init_290 (by decide) ?_
  refine lv_icmp_ge (tgt := 309) hx hb dX6_init_292 (by decide) (fun q => absurd q (by decide)) (fun _ => ?_)
  refine lv_aload_n hx hb dX6_init_295 rfl (lv_at hl 1 rfl) ?_
  refine r_get X hw 20 0 9 (Or.inl ⟨rfl, rfl⟩) rfl rfl k_X6 (by decide) fl_RX6_37 dX6_init_296 ?_
  refine lv_iload_n hx hb dX6_init_299 rfl (lv_at hl 0 rfl) ?_
  refine lv_bipush (v := 20) hx hb dX6_init_300 (by decide) ?_
  refine q_iast X hw 9 (gLM_34.2 9 (by decide) (by decide) (by decide)) (j := 9) rfl (by decide) dX6_init_302 (fun H locs hw => ?_)
  refine lv_iinc (v := 10) (lv' := [(1, .int 10), (0, .ref (a32 20 0))]) hx hb dX6_init_303 hl (k := 0) rfl (by decide) (by decide) rfl (fun ls hl => ?_)
  refine lv_goto (tgt := 289) hx hb dX6_init_306 (by decide) ?_
  refine lv_iload_n hx hb dX6_init_289 rfl (lv_at hl 0 rfl) ?_
  refine lv_bipush (v := 16) hx hb dX6_init_290 (by decide) ?_
  refine lv_icmp_ge (tgt := 309) hx hb dX6_init_292 (by decide) (fun q => absurd q (by decide)) (fun _ => ?_)
  refine lv_aload_n hx hb dX6_init_295 rfl (lv_at hl 1 rfl) ?_
  refine r_get X hw 20 0 9 (Or.inl ⟨rfl, rfl⟩) rfl rfl k_X6 (by decide) fl_RX6_37 dX6_init_296 ?_
  refine lv_iload_n hx hb dX6_init_299 rfl (lv_at hl 0 rfl) ?_
  refine lv_bipush (v := 20) hx hb dX6_init_300 (by decide) ?_
  refine q_iast X hw 9 (gLM_34.2 9 (by decide) (by decide) (by decide)) (j := 10) rfl (by decide) dX6_init_302 (fun H locs hw => ?_)
  refine lv_iinc (v := 11) (lv' := [(1, .int 11), (0, .ref (a32 20 0))]) hx hb dX6_init_303 hl (k := 0) rfl (by decide) (by decide) rfl (fun ls hl => ?_)
  refine lv_goto (tgt := 289) hx hb dX6_init_306 (by decide) ?_
  refine lv_iload_n hx hb dX6_init_289 rfl (lv_at hl 0 rfl) ?_
  refine lv_bipush (v := 16) hx hb dX6_init_290 (by decide) ?_
  refine lv_icmp_ge (tgt := 309) hx hb dX6_init_292 (by decide) (fun q => absurd q (by decide)) (fun _ => ?_)
  refine lv_aload_n hx hb dX6_init_295 rfl (lv_at hl 1 rfl) ?_
  refine r_get X hw 20 0 9 (Or.inl ⟨rfl, rfl⟩) rfl rfl k_X6 (by decide) fl_RX6_37 dX6_init_296 ?_
  refine lv_iload_n hx hb dX6_init_299 rfl (lv_at hl 0 rfl) ?_
  refine lv_bipush (v := 20) hx hb dX6_init_300 (by decide) ?_
  refine q_iast X hw 9 (gLM_34.2 9 (by decide) (by decide) (by decide)) (j := 11) rfl (by decide) dX6_init_302 (fun H locs hw => ?_)
  refine lv_iinc (v := 12) (lv' := [(1, .int 12), (0, .ref (a32 20 0))]) hx hb dX6_init_303 hl (k := 0) rfl (by decide) (by decide) rfl (fun ls hl => ?_)
  refine lv_goto (tgt := 289) hx hb dX6_init_306 (by decide) ?_
  refine lv_iload_n hx hb dX6_init_289 rfl (lv_at hl 0 rfl) ?_
  refine lv_bipush (v := 16) hx hb dX6_init_290 (by decide) ?_
  refine lv_icmp_ge (tgt := 309) hx hb dX6_init_292 (by decide) (fun q => absurd q (by decide)) (fun _ => ?_)
  refine lv_aload_n hx hb dX6_init_295 rfl (lv_at hl 1 rfl) ?_
  refine r_get X hw 20 0 9 (Or.inl ⟨rfl, rfl⟩) rfl rfl k_X6 (by decide) fl_RX6_37 dX6_init_296 ?_
  refine lv_iload_n hx hb dX6_init_299 rfl (lv_at hl 0 rfl) ?_
  refine lv_bipush (v := 20) hx hb dX6_init_300 (by decide) ?_
  refine q_iast X hw 9 (gLM_34.2 9 (by decide) (by decide) (by decide)) (j := 12) rfl (by decide) dX6_init_302 (fun H locs hw => ?_)
  refine lv_iinc (v := 13) (lv' := [(1, .int 13), (0, .ref (a32 20 0))]) hx hb dX6_init_303 hl (k := 0) rfl (by decide) (by decide) rfl (fun ls hl => ?_)
  refine lv_goto (tgt := 289) hx hb dX6_init_306 (by decide) ?_
  refine lv_iload_n hx hb dX6_init_289 rfl (lv_at hl 0 rfl) ?_
  refine lv_bipush (v := 16) hx hb dX6_init_290 (by decide) ?_
  refine lv_icmp_ge (tgt := 309) hx hb dX6_init_292 (by decide) (fun q => absurd q (by decide)) (fun _ => ?_)
  refine lv_aload_n hx hb dX6_init_295 rfl (lv_at hl 1 rfl) ?_
  refine r_get X hw 20 0 9 (Or.inl ⟨rfl, rfl⟩) rfl rfl k_X6 (by decide) fl_RX6_37 dX6_init_296 ?_
  refine lv_iload_n hx hb dX6_init_299 rfl (lv_at hl 0 rfl) ?_
  refine lv_bipush (v := 20) hx hb dX6_init_300 (by decide) ?_
  refine q_iast X hw 9 (gLM_34.2 9 (by decide) (by decide) (by decide)) (j := 13) rfl (by decide) dX6_init_302 (fun H locs hw => ?_)
  refine lv_iinc (v := 14) (lv' := [(1, .int 14), (0, .ref (a32 20 0))]) hx hb dX6_init_303 hl (k := 0) rfl (by decide) (by decide) rfl (fun ls hl => ?_)
  refine lv_goto (tgt := 289) hx hb dX6_init_306 (by decide) ?_
  refine lv_iload_n hx hb dX6_init_289 rfl (lv_at hl 0 rfl) ?_
  refine lv_bipush (v := 16) hx hb dX6_init_290 (by decide) ?_
  refine lv_icmp_ge (tgt := 309) hx hb dX6_init_292 (by decide) (fun q => absurd q (by decide)) (fun _ => ?_)
  refine lv_aload_n hx hb dX6_init_295 rfl (lv_at hl 1 rfl) ?_
  refine r_get X hw 20 0 9 (Or.inl ⟨rfl, rfl⟩) rfl rfl k_X6 (by decide) fl_RX6_37 dX6_init_296 ?_
  refine lv_iload_n hx hb dX6_init_299 rfl (lv_at hl 0 rfl) ?_
  refine lv_bipush (v := 20) hx hb dX6_init_300 (by decide) ?_
  refine q_iast X hw 9 (gLM_34.2 9 (by decide) (by decide) (by decide)) (j := 14) rfl (by decide) dX6_init_302 (fun H locs hw => ?_)
  refine lv_iinc (v := 15) (lv' := [(1, .int 15), (0, .ref (a32 20 0))]) hx hb dX6_init_303 hl (k := 0) rfl (by decide) (by decide) rfl (fun ls hl => ?_)
  refine lv_goto (tgt := 289) hx hb dX6_init_306 (by decide) ?_
  refine lv_iload_n hx hb dX6_init_289 rfl (lv_at hl 0 rfl) ?_
  refine lv_bipush (v := 16) hx hb dX6_init_290 (by decide) ?_
  refine lv_icmp_ge (tgt := 309) hx hb dX6_init_292 (by decide) (fun q => absurd q (by decide)) (fun _ => ?_)
  refine lv_aload_n hx hb dX6_init_295 rfl (lv_at hl 1 rfl) ?_
  refine r_get X hw 20 0 9 (Or.inl ⟨rfl, rfl⟩) rfl rfl k_X6 (by decide) fl_RX6_37 dX6_init_296 ?_
  refine lv_iload_n hx hb dX6_init_299 rfl (lv_at hl 0 rfl) ?_
  refine lv_bipush (v := 20) hx hb dX6_init_300 (by decide) ?_
  refine q_iast X hw 9 (gLM_34.2 9 (by decide) (by decide) (by decide)) (j := 15) rfl (by decide) dX6_init_302 (fun H locs hw => ?_)
  refine lv_iinc (v := 16) (lv' := [(1, .int 16), (0, .ref (a32 20 0))]) hx hb dX6_init_303 hl (k := 0) rfl (by decide) (by decide) rfl (fun ls hl => ?_)
  refine lv_goto (tgt := 289) hx hb dX6_init_306 (by decide) ?_
  refine lv_iload_n hx hb dX6_init_289 rfl (lv_at hl 0 rfl) ?_
  refine lv_bipush (v := 16) hx hb dX6_init_290 (by decide) ?_
  refine lv_icmp_ge (tgt := 309) hx hb dX6_init_292 (by decide) (fun _ => ?_) (fun q => absurd (by decide) q)
  exact r_vret X hw hr hlk (Nat.le_of_ble_eq_true rfl) (Nat.le_of_ble_eq_true rfl) ⟨a32, rfl, ea32⟩ dX6_init_309
theorem gMz_0 (κ n j : Nat) (h : ¬ (κ = 21 ∧ (n = 7 ∨ n = 9))) : gMz κ n j = 0 := by
  have h7 : ∀ C i v, cs C 21 7 i v κ n = C κ n := fun C i v => g2_n _ _ (fun e => h ⟨e.1, Or.inl e.2⟩)
  have h9 : ∀ C i v, cs C 21 9 i v κ n = C κ n := fun C i v => g2_n _ _ (fun e => h ⟨e.1, Or.inr e.2⟩)
  unfold gMz
  simp only [h7, h9]
  rfl
theorem gMz_7 : ∀ j, j < 4 → gMz 21 7 j = nI 60 := by decide
theorem gMz_9 : ∀ j, j < 16 → gMz 21 9 j = nI 20 := by decide
theorem gMz_I : MBI gMz := by
  refine ⟨fun k j hj hk => ?_, ⟨0, by decide, gMz_0 _ _ _ (by decide)⟩, ⟨0, by decide, gMz_0 _ _ _ (by decide)⟩, fun j _ => ?_, fun j _ => ?_⟩
  · by_cases h7 : k = 7
    · subst h7
      exact ⟨60, by decide, gMz_7 j hj⟩
    · by_cases h9 : k = 9
      · subst h9
        exact absurd rfl hk
      · exact ⟨0, Nat.pos_of_ne_zero hk, gMz_0 _ _ _ (by omega)⟩
  · rw [gMz_0 _ _ _ (by decide), gMz_0 _ _ _ (by decide)]
    exact ⟨⟨0, by decide, rfl⟩, fun _ => ⟨0, by decide, rfl⟩, fun _ => ⟨0, by decide, rfl⟩, fun _ => ⟨0, by decide, rfl⟩⟩
  · rw [gMz_0 _ _ _ (by decide), gMz_0 _ _ _ (by decide)]
    exact ⟨⟨0, by decide, rfl⟩, fun _ => ⟨0, by decide, rfl⟩, fun _ => ⟨0, by decide, rfl⟩, fun _ => ⟨0, by decide, rfl⟩⟩

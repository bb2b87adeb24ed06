/-! ===== publish ===== -/
def m_makeVersion (C : gCT) (f : Nat) : gCT := fun κ n => if κ = 4 ∧ n = f then upd (C 4 f) 0 (C 4 f 0 + 1) else if (κ = 14 ∨ κ = 15 ∨ κ = 16) ∧ n = 8 * f + gVn C f + 2 then (fun _ => 0) else C κ n
theorem m_mv_4 (C : gCT) (f : Nat) : m_makeVersion C f 4 f = upd (C 4 f) 0 (C 4 f 0 + 1) := if_pos ⟨rfl, rfl⟩
theorem m_mv_d (C : gCT) (f : Nat) {κ : Nat} (h : κ = 14 ∨ κ = 15 ∨ κ = 16) : m_makeVersion C f κ (8 * f + gVn C f + 2) = fun _ => 0 := by
  unfold m_makeVersion
  rw [if_neg (by omega), if_pos ⟨h, rfl⟩]
theorem m_mv_n (C : gCT) (f : Nat) {κ n : Nat} (h4 : ¬ (κ = 4 ∧ n = f)) (h : ¬ ((κ = 14 ∨ κ = 15 ∨ κ = 16) ∧ n = 8 * f + gVn C f + 2)) : m_makeVersion C f κ n = C κ n := by
  unfold m_makeVersion
  rw [if_neg h4, if_neg h]
theorem m_mv_k (C : gCT) (f : Nat) {κ : Nat} (h4 : κ ≠ 4) (h14 : κ ≠ 14) (h15 : κ ≠ 15) (h16 : κ ≠ 16) : m_makeVersion C f κ = C κ := by
  funext n
  exact m_mv_n C f (by omega) (by omega)
theorem m_mv_vn {C : gCT} {f : Nat} (hI : gInv C) (hf : f < 4) (n : Nat) : gVn (m_makeVersion C f) n = if n = f then gVn C f + 1 else gVn C n := by
  unfold gVn
  by_cases h : n = f
  · subst h
    rw [if_pos rfl, m_mv_4]
    show (upd (C 4 n) 0 (C 4 n 0 + 1) 0).toNatClampNeg = _
    have hv := hI.vn hf
    rw [show upd (C 4 n) 0 (C 4 n 0 + 1) 0 = C 4 n 0 + 1 from by simp [upd], hv.2.1, nI_1, nI_clamp (by omega), nI_clamp (by omega)]
  · rw [if_neg h, m_mv_n C f (by omega) (by omega)]
theorem m_mv_rc (C : gCT) (f : Nat) : gRc (m_makeVersion C f) = gRc C := by unfold gRc; rw [m_mv_k C f (by decide) (by decide) (by decide) (by decide)]
theorem m_mv_inv {C : gCT} {f : Nat} (hI : gInv C) (hf : f < 4) (hv6 : gVn C f < 6) : gInv (m_makeVersion C f) := by
  have hv := hI.vn hf
  refine ⟨by rw [m_mv_rc]; exact hI.1, ?_, ?_, ?_⟩
  · unfold gList
    rw [m_mv_rc, m_mv_k C f (κ := 2) (by decide) (by decide) (by decide) (by decide), m_mv_k C f (κ := 3) (by decide) (by decide) (by decide) (by decide)]
    exact hI.2.1
  · intro g hg
    by_cases h : g = f
    · subst h
      refine ⟨gVn C g + 1, by omega, ?_, 0, by omega, ?_⟩
      · rw [m_mv_4, show upd (C 4 g) 0 (C 4 g 0 + 1) 0 = C 4 g 0 + 1 from by simp [upd], hv.2.1, nI_1]
      · rw [show 8 * g + (gVn C g + 1) + 1 = 8 * g + gVn C g + 2 by omega, m_mv_d C g (Or.inl rfl)]
        exact nI_0.symm
    · obtain ⟨v, z1, z2, z3⟩ := hI.2.2.1 g hg
      refine ⟨v, z1, ?_, ?_⟩
      · rw [m_mv_n C f (by omega) (by omega)]; exact z2
      · rw [m_mv_n C f (by omega) (by omega)]; exact z3
  · rw [m_mv_rc, m_mv_k C f (κ := 11) (by decide) (by decide) (by decide) (by decide)]
    intro r hr
    obtain ⟨g, d, z1, z2, z3, z4, z5⟩ := hI.2.2.2 r hr
    refine ⟨g, d, z1, z2, z3, ?_, z5⟩
    rw [m_mv_vn hI hf]
    split
    · rename_i h; rw [h] at z4; omega
    · exact z4
theorem m_mv_lv {C : gCT} {f : Nat} (hI : gInv C) (hf : f < 4) (hv6 : gVn C f < 6) : (g2 (g2 (g2 (gLvO C) 14 (8 * f + gVn C f + 2) True) 15 (8 * f + gVn C f + 2) True) 16 (8 * f + gVn C f + 2) True) = gLvO (m_makeVersion C f) := by
  have e1 := m_mv_rc C f
  funext κ n
  refine propext ?_
  have hcode : ∀ P : Prop, (n / 8 < 4 ∧ n % 8 ≤ gVn (m_makeVersion C f) (n / 8) + 1) ↔ (n = 8 * f + gVn C f + 2 ∨ (n / 8 < 4 ∧ n % 8 ≤ gVn C (n / 8) + 1)) := by
    intro _
    rw [m_mv_vn hI hf]
    by_cases h : n / 8 = f
    · rw [if_pos h, h]
      omega
    · rw [if_neg h]
      omega
  by_cases hd : (κ = 14 ∨ κ = 15 ∨ κ = 16)
  · rcases hd with rfl | rfl | rfl
    · show (g2 (g2 (g2 (gLvO C) 14 (8 * f + gVn C f + 2) True) 15 (8 * f + gVn C f + 2) True) 16 (8 * f + gVn C f + 2) True) 14 n ↔ (n / 8 < 4 ∧ n % 8 ≤ gVn (m_makeVersion C f) (n / 8) + 1)
      rw [hcode True]
      by_cases hn : n = 8 * f + gVn C f + 2 <;> simp [g2, hn, gLvO]
    · show (g2 (g2 (g2 (gLvO C) 14 (8 * f + gVn C f + 2) True) 15 (8 * f + gVn C f + 2) True) 16 (8 * f + gVn C f + 2) True) 15 n ↔ (n / 8 < 4 ∧ n % 8 ≤ gVn (m_makeVersion C f) (n / 8) + 1)
      rw [hcode True]
      by_cases hn : n = 8 * f + gVn C f + 2 <;> simp [g2, hn, gLvO]
    · show (g2 (g2 (g2 (gLvO C) 14 (8 * f + gVn C f + 2) True) 15 (8 * f + gVn C f + 2) True) 16 (8 * f + gVn C f + 2) True) 16 n ↔ (n / 8 < 4 ∧ n % 8 ≤ gVn (m_makeVersion C f) (n / 8) + 1)
      rw [hcode True]
      by_cases hn : n = 8 * f + gVn C f + 2 <;> simp [g2, hn, gLvO]
  · have hz : (g2 (g2 (g2 (gLvO C) 14 (8 * f + gVn C f + 2) True) 15 (8 * f + gVn C f + 2) True) 16 (8 * f + gVn C f + 2) True) κ n = gLvO C κ n := by
      simp only [g2, if_neg (show ¬ (κ = 14 ∧ n = 8 * f + gVn C f + 2) from by omega), if_neg (show ¬ (κ = 15 ∧ n = 8 * f + gVn C f + 2) from by omega), if_neg (show ¬ (κ = 16 ∧ n = 8 * f + gVn C f + 2) from by omega)]
    rw [hz]
    have e2 : gCnt (m_makeVersion C f) = gCnt C := by funext k; unfold gCnt; rw [m_mv_k C f (by decide) (by decide) (by decide) (by decide)]
    have e3 : m_makeVersion C f 2 = C 2 := m_mv_k C f (by decide) (by decide) (by decide) (by decide)
    unfold gLvO
    split <;> (try simp only [e1, e2, e3]) <;> omega
theorem mv_not {C : gCT} {f : Nat} (hI : gInv C) (hf : f < 4) (hv6 : gVn C f < 6) : ∀ κ, κ ∈ [14, 15, 16] → ¬ gLvO C κ (8 * f + gVn C f + 2) := by
  intro κ hk
  simp only [List.mem_cons, List.not_mem_nil, or_false] at hk
  have e : (8 * f + gVn C f + 2) / 8 = f := by omega
  rcases hk with rfl | rfl | rfl <;> (intro h; simp only [gLvO, e] at h; omega)
set_option maxHeartbeats 8000000 in
theorem c_makeVersion (l : Launch) (G : gG) (ad : gAd) (C : gCT) (f : Nat) (hI : gInv C) (hf : f < 4) (hv6 : gVn C f < 6) : gMv l yX2_makeVersion cX2_makeVersion 1 (gRm 2 32 3 60) G [.ref (ad 4 f)] (gLvO C) ad (gF G C ad) (fun u => ∃ ad', u = (gLvO (m_makeVersion C f), ad', gF G (m_makeVersion C f) ad') ∧ ∀ κ n, gLvO C κ n → ad' κ n = ad κ n) := by
  refine r_met (own := RX2) (by decide) rfl (Nat.le_of_ble_eq_true rfl) ?_
  intro p e s m below meth c ls X hw hr hlk hnm hl
  have hx := X.1.1; have hb := X.1.2.1; have hml := X.1.2.2.1; have hown := X.1.2.2.2.1; have hts := X.1.2.2.2.2
  have hl : lv_has ls 1 [(0, .ref (ad 4 f))] := hl
  have hN := mv_not hI hf hv6
  have hv := hI.vn hf
  refine lv_aload_n hx hb dX2_makeVersion_0 rfl (lv_at hl 0 rfl) ?_
  refine lv_aload_n hx hb dX2_makeVersion_1 rfl (lv_at hl 0 rfl) ?_
  refine r_get X hw 4 f 0 hf (ci := 3) (fs := [.ref (ad 14 (8 * f + gVn C f + 1)), .ref (ad 14 (8 * f + gVn C f)), .int (C 4 f 0), .int (C 4 f 1), .int (C 4 f 2), .ref (ad 5 f), .ref (ad 6 f)]) (rfl) rfl k_X2 (by decide) fl_RX2_12 dX2_makeVersion_2 ?_
  refine r_put X hw 4 f 1 hf (ci := 3) (fs := [.ref (ad 14 (8 * f + gVn C f + 1)), .ref (ad 14 (8 * f + gVn C f)), .int (C 4 f 0), .int (C 4 f 1), .int (C 4 f 2), .ref (ad 5 f), .ref (ad 6 f)]) (fs' := [.ref (ad 14 (8 * f + gVn C f + 1)), .ref (ad 14 (8 * f + gVn C f + 1)), .int (C 4 f 0), .int (C 4 f 1), .int (C 4 f 2), .ref (ad 5 f), .ref (ad 6 f)]) (rfl) rfl k_X2 (by decide) (Nat.le_of_ble_eq_true rfl) fl_RX2_18 rfl rfl rfl dX2_makeVersion_5 (fun H locs hw => ?_)
  refine lv_aload_n hx hb dX2_makeVersion_8 rfl (lv_at hl 0 rfl) ?_
  refine r_new X hw 14 (8 * f + gVn C f + 2) (hN 14 (by decide)) (fs := [.null, .null, .int 0]) k_X1 df_X1 cl_RX2_9 ins_RX1 ini_RX1 (Nat.le_of_ble_eq_true rfl) (Nat.le_of_ble_eq_true rfl) dX2_makeVersion_9 (fun q1 H _ hw => ?_)
  refine lv_dup hx hb dX2_makeVersion_12 rfl ?_
  refine W.eq (g2 := F0 m 13 ls [.ref ((g2 ad 14 (8 * f + gVn C f + 2) q1) 14 (8 * f + gVn C f + 2)), .ref q1, .ref (ad 4 f)]) (by rw [show (g2 ad 14 (8 * f + gVn C f + 2) q1) 14 (8 * f + gVn C f + 2) = q1 from g2_s _ _ _ _]) ?_
  refine r_rv X hw (r_runIN X (c_iX1 l G _ _ _ (8 * f + gVn C f + 2) (Eq.mpr (g2_s _ _ _ _) trivial) (fun h => (hN 15 (by decide)) (Eq.mp ((g2_n _ _ (fun e => absurd e.1 (by decide)))) h)) (fun h => (hN 16 (by decide)) (Eq.mp ((g2_n _ _ (fun e => absurd e.1 (by decide)))) h)) (g2_s _ _ _ _) _) cy_X1_init mn_RX2_11 ⟨(Nat.le_of_ble_eq_true rfl), (Nat.le_of_ble_eq_true rfl)⟩ gP.blind (gP_call X hw _) rfl hl.1 rfl (Nat.le_of_ble_eq_true rfl) dX2_makeVersion_13 ⟨(Nat.le_of_ble_eq_true rfl), (Nat.le_of_ble_eq_true rfl)⟩) (fun u H locs hp hw => ?_)
  obtain ⟨q2, q3, rfl⟩ := hp
  have hw : gW G (gA (gLvO C) ad s.heap.size) s.heap H locs (g2 (g2 (g2 (gLvO C) 14 (8 * f + gVn C f + 2) True) 15 (8 * f + gVn C f + 2) True) 16 (8 * f + gVn C f + 2) True) (g2 (g2 (g2 ad 14 (8 * f + gVn C f + 2) q1) 15 (8 * f + gVn C f + 2) q2) 16 (8 * f + gVn C f + 2) q3) (g2 (g2 (g2 (g2 (g2 (gF G C ad) 4 f (.inr (3, [.ref (ad 14 (8 * f + gVn C f + 1)), .ref (ad 14 (8 * f + gVn C f + 1)), .int (C 4 f 0), .int (C 4 f 1), .int (C 4 f 2), .ref (ad 5 f), .ref (ad 6 f)]))) 14 (8 * f + gVn C f + 2) (.inr (2, [.null, .null, .int 0]))) 15 (8 * f + gVn C f + 2) (.inl (G.2.1, 24, .inl (fun _ => 0)))) 14 (8 * f + gVn C f + 2) (.inr (2, [.ref q2, .ref q3, .int 0]))) 16 (8 * f + gVn C f + 2) (.inl (G.2.1, 24, .inl (fun _ => 0)))) := hw
  refine W.eq (g2 := F0 m 16 ls [.ref q1, .ref ((g2 (g2 (g2 ad 14 (8 * f + gVn C f + 2) q1) 15 (8 * f + gVn C f + 2) q2) 16 (8 * f + gVn C f + 2) q3) 4 f)]) (by rw [show (g2 (g2 (g2 ad 14 (8 * f + gVn C f + 2) q1) 15 (8 * f + gVn C f + 2) q2) 16 (8 * f + gVn C f + 2) q3) 4 f = (ad 4 f) from (g2_n _ _ (fun e => absurd e.1 (by decide))).trans ((g2_n _ _ (fun e => absurd e.1 (by decide))).trans ((g2_n _ _ (fun e => absurd e.1 (by decide)))))]) ?_
  refine r_put X hw 4 f 0 (Eq.mpr ((g2_n _ _ (fun e => absurd e.1 (by decide))).trans ((g2_n _ _ (fun e => absurd e.1 (by decide))).trans ((g2_n _ _ (fun e => absurd e.1 (by decide)))))) (hf)) (ci := 3) (fs := [.ref (ad 14 (8 * f + gVn C f + 1)), .ref (ad 14 (8 * f + gVn C f + 1)), .int (C 4 f 0), .int (C 4 f 1), .int (C 4 f 2), .ref (ad 5 f), .ref (ad 6 f)]) (fs' := [.ref q1, .ref (ad 14 (8 * f + gVn C f + 1)), .int (C 4 f 0), .int (C 4 f 1), .int (C 4 f 2), .ref (ad 5 f), .ref (ad 6 f)]) ((g2_n _ _ (fun e => absurd e.1 (by decide))).trans ((g2_n _ _ (fun e => absurd e.1 (by decide))).trans ((g2_n _ _ (fun e => absurd e.1 (by decide))).trans ((g2_n _ _ (fun e => absurd e.1 (by decide))).trans (g2_s _ _ _ _))))) rfl k_X2 (by decide) (Nat.le_of_ble_eq_true rfl) fl_RX2_12 rfl rfl rfl dX2_makeVersion_16 (fun H locs hw => ?_)
  refine lv_aload_n hx hb dX2_makeVersion_19 rfl (lv_at hl 0 rfl) ?_
  refine lv_dup hx hb dX2_makeVersion_20 rfl ?_
  refine W.eq (g2 := F0 m 21 ls [.ref ((g2 (g2 (g2 ad 14 (8 * f + gVn C f + 2) q1) 15 (8 * f + gVn C f + 2) q2) 16 (8 * f + gVn C f + 2) q3) 4 f), .ref (ad 4 f)]) (by rw [show (g2 (g2 (g2 ad 14 (8 * f + gVn C f + 2) q1) 15 (8 * f + gVn C f + 2) q2) 16 (8 * f + gVn C f + 2) q3) 4 f = (ad 4 f) from (g2_n _ _ (fun e => absurd e.1 (by decide))).trans ((g2_n _ _ (fun e => absurd e.1 (by decide))).trans ((g2_n _ _ (fun e => absurd e.1 (by decide)))))]) ?_
  refine r_get X hw 4 f 2 (Eq.mpr ((g2_n _ _ (fun e => absurd e.1 (by decide))).trans ((g2_n _ _ (fun e => absurd e.1 (by decide))).trans ((g2_n _ _ (fun e => absurd e.1 (by decide)))))) (hf)) (ci := 3) (fs := [.ref q1, .ref (ad 14 (8 * f + gVn C f + 1)), .int (C 4 f 0), .int (C 4 f 1), .int (C 4 f 2), .ref (ad 5 f), .ref (ad 6 f)]) (g2_s _ _ _ _) rfl k_X2 (by decide) fl_RX2_32 dX2_makeVersion_21 ?_
  refine lv_iconst (v := 1) hx hb dX2_makeVersion_24 (by decide) ?_
  refine lv_iadd hx hb dX2_makeVersion_25 ?_
  refine W.eq (g2 := F0 m 26 ls [.int ((C 4 f 0) + 1), .ref ((g2 (g2 (g2 ad 14 (8 * f + gVn C f + 2) q1) 15 (8 * f + gVn C f + 2) q2) 16 (8 * f + gVn C f + 2) q3) 4 f)]) (by rw [show (g2 (g2 (g2 ad 14 (8 * f + gVn C f + 2) q1) 15 (8 * f + gVn C f + 2) q2) 16 (8 * f + gVn C f + 2) q3) 4 f = (ad 4 f) from (g2_n _ _ (fun e => absurd e.1 (by decide))).trans ((g2_n _ _ (fun e => absurd e.1 (by decide))).trans ((g2_n _ _ (fun e => absurd e.1 (by decide)))))]) ?_
  refine r_put X hw 4 f 2 (Eq.mpr ((g2_n _ _ (fun e => absurd e.1 (by decide))).trans ((g2_n _ _ (fun e => absurd e.1 (by decide))).trans ((g2_n _ _ (fun e => absurd e.1 (by decide)))))) (hf)) (ci := 3) (fs := [.ref q1, .ref (ad 14 (8 * f + gVn C f + 1)), .int (C 4 f 0), .int (C 4 f 1), .int (C 4 f 2), .ref (ad 5 f), .ref (ad 6 f)]) (fs' := [.ref q1, .ref (ad 14 (8 * f + gVn C f + 1)), .int ((C 4 f 0) + 1), .int (C 4 f 1), .int (C 4 f 2), .ref (ad 5 f), .ref (ad 6 f)]) (g2_s _ _ _ _) rfl k_X2 (by decide) (Nat.le_of_ble_eq_true rfl) fl_RX2_32 rfl rfl rfl dX2_makeVersion_26 (fun H locs hw => ?_)
  have hE : (g2 (g2 (g2 (g2 (g2 (g2 (g2 (gF G C ad) 4 f (.inr (3, [.ref (ad 14 (8 * f + gVn C f + 1)), .ref (ad 14 (8 * f + gVn C f + 1)), .int (C 4 f 0), .int (C 4 f 1), .int (C 4 f 2), .ref (ad 5 f), .ref (ad 6 f)]))) 14 (8 * f + gVn C f + 2) (.inr (2, [.null, .null, .int 0]))) 15 (8 * f + gVn C f + 2) (.inl (G.2.1, 24, .inl (fun _ => 0)))) 14 (8 * f + gVn C f + 2) (.inr (2, [.ref q2, .ref q3, .int 0]))) 16 (8 * f + gVn C f + 2) (.inl (G.2.1, 24, .inl (fun _ => 0)))) 4 f (.inr (3, [.ref q1, .ref (ad 14 (8 * f + gVn C f + 1)), .int (C 4 f 0), .int (C 4 f 1), .int (C 4 f 2), .ref (ad 5 f), .ref (ad 6 f)]))) 4 f (.inr (3, [.ref q1, .ref (ad 14 (8 * f + gVn C f + 1)), .int ((C 4 f 0) + 1), .int (C 4 f 1), .int (C 4 f 2), .ref (ad 5 f), .ref (ad 6 f)]))) = (g2 (g2 (g2 (g2 (gF G C ad) 4 f (.inr (3, [.ref q1, .ref (ad 14 (8 * f + gVn C f + 1)), .int ((C 4 f 0) + 1), .int (C 4 f 1), .int (C 4 f 2), .ref (ad 5 f), .ref (ad 6 f)]))) 14 (8 * f + gVn C f + 2) (.inr (2, [.ref q2, .ref q3, .int 0]))) 15 (8 * f + gVn C f + 2) (.inl (G.2.1, 24, .inl (fun _ => 0)))) 16 (8 * f + gVn C f + 2) (.inl (G.2.1, 24, .inl (fun _ => 0)))) := by
    funext a b
    simp only [g2]
    by_cases k1 : a = 4 ∧ b = f
    · simp only [if_pos k1, if_neg (show ¬ (a = 14 ∧ b = 8 * f + gVn C f + 2) from by omega), if_neg (show ¬ (a = 15 ∧ b = 8 * f + gVn C f + 2) from by omega), if_neg (show ¬ (a = 16 ∧ b = 8 * f + gVn C f + 2) from by omega)]
    by_cases k2 : a = 14 ∧ b = 8 * f + gVn C f + 2
    · simp only [if_pos k2, if_neg (show ¬ (a = 4 ∧ b = f) from by omega), if_neg (show ¬ (a = 15 ∧ b = 8 * f + gVn C f + 2) from by omega), if_neg (show ¬ (a = 16 ∧ b = 8 * f + gVn C f + 2) from by omega)]
    by_cases k3 : a = 15 ∧ b = 8 * f + gVn C f + 2
    · simp only [if_pos k3, if_neg (show ¬ (a = 4 ∧ b = f) from by omega), if_neg (show ¬ (a = 14 ∧ b = 8 * f + gVn C f + 2) from by omega), if_neg (show ¬ (a = 16 ∧ b = 8 * f + gVn C f + 2) from by omega)]
    by_cases k4 : a = 16 ∧ b = 8 * f + gVn C f + 2
    · simp only [if_pos k4, if_neg (show ¬ (a = 4 ∧ b = f) from by omega), if_neg (show ¬ (a = 14 ∧ b = 8 * f + gVn C f + 2) from by omega), if_neg (show ¬ (a = 15 ∧ b = 8 * f + gVn C f + 2) from by omega)]
    simp only [if_neg k1, if_neg k2, if_neg k3, if_neg k4]
  rw [hE] at hw
  have hK : ∀ κ n, gLvO C κ n → (g2 (g2 (g2 ad 14 (8 * f + gVn C f + 2) q1) 15 (8 * f + gVn C f + 2) q2) 16 (8 * f + gVn C f + 2) q3) κ n = ad κ n := by
    intro κ n h
    simp only [g2, if_neg (show ¬ (κ = 14 ∧ n = 8 * f + gVn C f + 2) from fun e => hN 14 (by decide) (by rw [← e.1, ← e.2]; exact h)), if_neg (show ¬ (κ = 15 ∧ n = 8 * f + gVn C f + 2) from fun e => hN 15 (by decide) (by rw [← e.1, ← e.2]; exact h)), if_neg (show ¬ (κ = 16 ∧ n = 8 * f + gVn C f + 2) from fun e => hN 16 (by decide) (by rw [← e.1, ← e.2]; exact h))]
  have hw : gW G (gA (gLvO C) ad s.heap.size) s.heap H locs (g2 (g2 (g2 (gLvO C) 14 (8 * f + gVn C f + 2) True) 15 (8 * f + gVn C f + 2) True) 16 (8 * f + gVn C f + 2) True) (g2 (g2 (g2 ad 14 (8 * f + gVn C f + 2) q1) 15 (8 * f + gVn C f + 2) q2) 16 (8 * f + gVn C f + 2) q3) (gF G (m_makeVersion C f) (g2 (g2 (g2 ad 14 (8 * f + gVn C f + 2) q1) 15 (8 * f + gVn C f + 2) q2) 16 (8 * f + gVn C f + 2) q3)) := by
    refine hw.cong (fun a b hab => ?_)
    have ev : (m_makeVersion C f 4 f 0).toNatClampNeg = gVn C f + 1 := by have := m_mv_vn hI hf f; rw [if_pos rfl] at this; exact this
    by_cases k1 : a = 4 ∧ b = f
    · rw [k1.1, k1.2]
      refine (show _ = (.inr (3, [.ref q1, .ref (ad 14 (8 * f + gVn C f + 1)), .int ((C 4 f 0) + 1), .int (C 4 f 1), .int (C 4 f 2), .ref (ad 5 f), .ref (ad 6 f)]) : va_E) from (g2_n _ _ (fun e => absurd e.1 (by decide))).trans ((g2_n _ _ (fun e => absurd e.1 (by decide))).trans ((g2_n _ _ (fun e => absurd e.1 (by decide))).trans (g2_s _ _ _ _)))).trans ?_
      show _ = gB G 4 f (m_makeVersion C f 4 f) _
      unfold gB
      simp only [ev]
      rw [show 8 * f + (gVn C f + 1) + 1 = 8 * f + gVn C f + 2 by omega, show 8 * f + (gVn C f + 1) = 8 * f + gVn C f + 1 by omega, show (g2 (g2 (g2 ad 14 (8 * f + gVn C f + 2) q1) 15 (8 * f + gVn C f + 2) q2) 16 (8 * f + gVn C f + 2) q3) 14 (8 * f + gVn C f + 2) = q1 from (g2_n _ _ (fun e => absurd e.1 (by decide))).trans ((g2_n _ _ (fun e => absurd e.1 (by decide))).trans (g2_s _ _ _ _)), show (g2 (g2 (g2 ad 14 (8 * f + gVn C f + 2) q1) 15 (8 * f + gVn C f + 2) q2) 16 (8 * f + gVn C f + 2) q3) 14 (8 * f + gVn C f + 1) = (ad 14 (8 * f + gVn C f + 1)) from (g2_n _ _ (fun e => absurd e.1 (by decide))).trans ((g2_n _ _ (fun e => absurd e.1 (by decide))).trans ((g2_n _ _ (fun e => absurd e.2 (by omega))))), show (g2 (g2 (g2 ad 14 (8 * f + gVn C f + 2) q1) 15 (8 * f + gVn C f + 2) q2) 16 (8 * f + gVn C f + 2) q3) 5 f = (ad 5 f) from (g2_n _ _ (fun e => absurd e.1 (by decide))).trans ((g2_n _ _ (fun e => absurd e.1 (by decide))).trans ((g2_n _ _ (fun e => absurd e.1 (by decide))))), show (g2 (g2 (g2 ad 14 (8 * f + gVn C f + 2) q1) 15 (8 * f + gVn C f + 2) q2) 16 (8 * f + gVn C f + 2) q3) 6 f = (ad 6 f) from (g2_n _ _ (fun e => absurd e.1 (by decide))).trans ((g2_n _ _ (fun e => absurd e.1 (by decide))).trans ((g2_n _ _ (fun e => absurd e.1 (by decide))))), m_mv_4]
      simp [upd]
    by_cases k2 : a = 14 ∧ b = 8 * f + gVn C f + 2
    · rw [k2.1, k2.2]
      refine (show _ = (.inr (2, [.ref q2, .ref q3, .int 0]) : va_E) from (g2_n _ _ (fun e => absurd e.1 (by decide))).trans ((g2_n _ _ (fun e => absurd e.1 (by decide))).trans (g2_s _ _ _ _))).trans ?_
      show _ = gB G 14 (8 * f + gVn C f + 2) (m_makeVersion C f 14 (8 * f + gVn C f + 2)) _
      rw [m_mv_d C f (Or.inl rfl)]
      simp only [gB, show (g2 (g2 (g2 ad 14 (8 * f + gVn C f + 2) q1) 15 (8 * f + gVn C f + 2) q2) 16 (8 * f + gVn C f + 2) q3) 15 (8 * f + gVn C f + 2) = q2 from (g2_n _ _ (fun e => absurd e.1 (by decide))).trans (g2_s _ _ _ _), show (g2 (g2 (g2 ad 14 (8 * f + gVn C f + 2) q1) 15 (8 * f + gVn C f + 2) q2) 16 (8 * f + gVn C f + 2) q3) 16 (8 * f + gVn C f + 2) = q3 from g2_s _ _ _ _]
    by_cases k3 : a = 15 ∧ b = 8 * f + gVn C f + 2
    · rw [k3.1, k3.2]
      refine (show _ = (.inl (G.2.1, 24, .inl (fun _ => 0)) : va_E) from (g2_n _ _ (fun e => absurd e.1 (by decide))).trans (g2_s _ _ _ _)).trans ?_
      show _ = gB G 15 (8 * f + gVn C f + 2) (m_makeVersion C f 15 (8 * f + gVn C f + 2)) _
      rw [m_mv_d C f (by decide)]
      rfl
    by_cases k4 : a = 16 ∧ b = 8 * f + gVn C f + 2
    · rw [k4.1, k4.2]
      refine (show _ = (.inl (G.2.1, 24, .inl (fun _ => 0)) : va_E) from g2_s _ _ _ _).trans ?_
      show _ = gB G 16 (8 * f + gVn C f + 2) (m_makeVersion C f 16 (8 * f + gVn C f + 2)) _
      rw [m_mv_d C f (by decide)]
      rfl
    have hl : gLvO C a b := by
      have hz : (g2 (g2 (g2 (gLvO C) 14 (8 * f + gVn C f + 2) True) 15 (8 * f + gVn C f + 2) True) 16 (8 * f + gVn C f + 2) True) a b = gLvO C a b := by simp only [g2, if_neg k2, if_neg k3, if_neg k4]
      exact Eq.mp hz hab
    have hz : (g2 (g2 (g2 (g2 (gF G C ad) 4 f (.inr (3, [.ref q1, .ref (ad 14 (8 * f + gVn C f + 1)), .int ((C 4 f 0) + 1), .int (C 4 f 1), .int (C 4 f 2), .ref (ad 5 f), .ref (ad 6 f)]))) 14 (8 * f + gVn C f + 2) (.inr (2, [.ref q2, .ref q3, .int 0]))) 15 (8 * f + gVn C f + 2) (.inl (G.2.1, 24, .inl (fun _ => 0)))) 16 (8 * f + gVn C f + 2) (.inl (G.2.1, 24, .inl (fun _ => 0)))) a b = gF G C ad a b := by simp only [g2, if_neg k1, if_neg k2, if_neg k3, if_neg k4]
    rw [hz, ← gF_ad hI hK a b hl]
    show gB G a b (C a b) _ = gB G a b (m_makeVersion C f a b) _
    rw [m_mv_n C f k1 (by omega)]
  rw [m_mv_lv hI hf hv6] at hw
  exact r_vret X hw hr hlk (Nat.le_of_ble_eq_true rfl) (Nat.le_of_ble_eq_true rfl) ⟨_, rfl, hK⟩ dX2_makeVersion_29

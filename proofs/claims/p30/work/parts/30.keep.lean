/-! ===== keepAnswer ===== -/
def m_ans (C : gCT) (r : Nat) (v : Int32) : Nat → Int32 := fun j => if j = 0 then C 7 r 5 else if j = 1 then m_at (C 12 r) 16 (C 7 r 5) else v
def m_keepA (C : gCT) (r : Nat) (v : Int32) : gCT := g2 C 13 (1024 * r + gCnt C r) (m_ans C r v)
def m_keepAnswer (C : gCT) (r : Nat) (v : Int32) : gCT := m_ladd (m_keepA C r v) r
theorem g2_k {α : Type} (f : Nat → Nat → α) {κ n κ' : Nat} (x : α) (h : κ' ≠ κ) : g2 f κ n x κ' = f κ' := by funext b; exact g2_n _ _ (fun e => h e.1)
theorem gLvO_of {C D : gCT} (e1 : gRc D = gRc C) (e4 : ∀ f, gVn D f = gVn C f) : ∀ κ n, κ ≠ 3 → κ ≠ 13 → (gLvO D κ n ↔ gLvO C κ n) := by
  intro κ n h3 h13
  unfold gLvO
  split <;> simp only [e1, e4]
  · exact absurd rfl h3
  · exact absurd rfl h13
theorem m_keepA_k (C : gCT) (r : Nat) (v : Int32) {κ : Nat} (h : κ ≠ 13) : m_keepA C r v κ = C κ := g2_k _ _ h
theorem m_keepA_cnt (C : gCT) (r : Nat) (v : Int32) : gCnt (m_keepA C r v) = gCnt C := by funext n; unfold gCnt; rw [m_keepA_k _ _ _ (by decide)]
theorem m_keepA_cap (C : gCT) (r : Nat) (v : Int32) : gCap (m_keepA C r v) = gCap C := by funext n; unfold gCap; rw [m_keepA_k _ _ _ (by decide)]
theorem m_keepAnswer_k (C : gCT) (r : Nat) (v : Int32) {κ : Nat} (h2 : κ ≠ 2) (h3 : κ ≠ 3) (h13 : κ ≠ 13) : m_keepAnswer C r v κ = C κ := by
  unfold m_keepAnswer
  rw [m_ladd_k _ _ h2 h3, m_keepA_k _ _ _ h13]
theorem m_keepAnswer_13 (C : gCT) (r : Nat) (v : Int32) : m_keepAnswer C r v 13 = g2 C 13 (1024 * r + gCnt C r) (m_ans C r v) 13 := by
  unfold m_keepAnswer
  rw [m_ladd_k _ _ (by decide) (by decide)]
  rfl
theorem m_keepAnswer_2 (C : gCT) (r : Nat) (v : Int32) : m_keepAnswer C r v 2 r 1 = nI (gCnt C r + 1) ∧ m_keepAnswer C r v 2 r 2 = nI (lCap (gCap C r) (gCnt C r)) := by
  have h := m_ladd_2 (m_keepA C r v) r
  rw [m_keepA_cnt, m_keepA_cap] at h
  exact h
theorem m_keepAnswer_2n (C : gCT) (r : Nat) (v : Int32) {k : Nat} (h : k ≠ r) : m_keepAnswer C r v 2 k = C 2 k := by
  unfold m_keepAnswer
  rw [m_ladd_2n _ _ h, m_keepA_k _ _ _ (by decide)]
theorem m_keepAnswer_3 (C : gCT) (r : Nat) (v : Int32) : m_keepAnswer C r v 3 r = lRow (lCap (gCap C r) (gCnt C r)) (gCnt C r + 1) := by
  have h := m_ladd_3 (m_keepA C r v) r
  rw [m_keepA_cnt, m_keepA_cap] at h
  exact h
theorem m_keepAnswer_3n (C : gCT) (r : Nat) (v : Int32) {k : Nat} (h : k ≠ r) : m_keepAnswer C r v 3 k = C 3 k := by
  unfold m_keepAnswer
  rw [m_ladd_3n _ _ h, m_keepA_k _ _ _ (by decide)]
theorem m_keepAnswer_rc (C : gCT) (r : Nat) (v : Int32) (hr : r ≠ 24) : gRc (m_keepAnswer C r v) = gRc C := by
  unfold gRc
  rw [m_keepAnswer_2n _ _ _ (Ne.symm hr)]
theorem m_keepAnswer_vn (C : gCT) (r : Nat) (v : Int32) (f : Nat) : gVn (m_keepAnswer C r v) f = gVn C f := by
  unfold gVn
  rw [m_keepAnswer_k _ _ _ (by decide) (by decide) (by decide)]
theorem m_keepAnswer_cnt (C : gCT) (r : Nat) (v : Int32) (h : gCnt C r < 1400) (n : Nat) : gCnt (m_keepAnswer C r v) n = if n = r then gCnt C r + 1 else gCnt C n := by
  by_cases hn : n = r
  · subst hn
    rw [if_pos rfl]
    show (m_keepAnswer C n v 2 n 1).toNatClampNeg = _
    rw [(m_keepAnswer_2 C n v).1, nI_clamp (by omega)]
  · rw [if_neg hn]
    unfold gCnt
    rw [m_keepAnswer_2n _ _ _ hn]
theorem m_keepAnswer_lv {C : gCT} {r : Nat} (v : Int32) (hI : gInv C) (hr : r < gRc C) (hc : gCnt C r ≤ 511) : g2 (g2 (gLvO C) 13 (1024 * r + gCnt C r) True) 3 r True = gLvO (m_keepAnswer C r v) := by
  have h24 : r ≠ 24 := by have := hI.1; omega
  have e1 := m_keepAnswer_rc C r v h24
  have hcap := (hI.cnt (Or.inl hr))
  have hl := lCap_le (by omega) hcap.2.2.1 hcap.2.2.2.1 hcap.2.2.2.2.1
  funext κ n
  refine propext ?_
  by_cases h3 : κ = 3
  · subst h3
    by_cases hn : n = r
    · subst hn
      rw [g2_s]
      refine ⟨fun _ => ⟨Or.inl (by rw [e1]; exact hr), ?_⟩, fun _ => trivial⟩
      rw [(m_keepAnswer_2 C n v).2]
      exact nI_ne0 (by omega) (by omega)
    · rw [g2_n _ _ (fun e => hn e.2), g2_n _ _ (fun e => absurd e.1 (by decide))]
      show ((n < gRc C ∨ n = 24) ∧ C 2 n 2 ≠ 0) ↔ ((n < gRc (m_keepAnswer C r v) ∨ n = 24) ∧ m_keepAnswer C r v 2 n 2 ≠ 0)
      rw [e1, m_keepAnswer_2n _ _ _ hn]
  · rw [g2_n _ _ (fun e => h3 e.1)]
    by_cases h13 : κ = 13
    · subst h13
      show _ ↔ (n / 1024 < gRc (m_keepAnswer C r v) ∧ n % 1024 < gCnt (m_keepAnswer C r v) (n / 1024))
      rw [e1, m_keepAnswer_cnt C r v (by omega)]
      by_cases hn : n = 1024 * r + gCnt C r
      · subst hn
        rw [g2_s, show (1024 * r + gCnt C r) / 1024 = r by omega, if_pos rfl]
        exact ⟨fun _ => ⟨hr, by omega⟩, fun _ => trivial⟩
      · rw [g2_n _ _ (fun e => hn e.2)]
        show (n / 1024 < gRc C ∧ n % 1024 < gCnt C (n / 1024)) ↔ _
        by_cases hq : n / 1024 = r
        · rw [if_pos hq, hq]
          omega
        · rw [if_neg hq]
    · rw [g2_n _ _ (fun e => h13 e.1)]
      exact (gLvO_of e1 (m_keepAnswer_vn C r v) κ n h3 h13).symm
theorem m_keepAnswer_inv {C : gCT} {r : Nat} (v : Int32) (hI : gInv C) (hr : r < gRc C) (hc : gCnt C r ≤ 511) : gInv (m_keepAnswer C r v) := by
  have h24 : r ≠ 24 := by have := hI.1; omega
  have e1 := m_keepAnswer_rc C r v h24
  have hcap := (hI.cnt (Or.inl hr))
  have hl := lCap_le (by omega) hcap.2.2.1 hcap.2.2.2.1 hcap.2.2.2.2.1
  refine ⟨by rw [e1]; exact hI.1, fun n hn => ?_, ?_, ?_⟩
  · rw [e1] at hn
    by_cases hnr : n = r
    · subst hnr
      refine ⟨gCnt C n + 1, lCap (gCap C n) (gCnt C n), (m_keepAnswer_2 C n v).1, (m_keepAnswer_2 C n v).2, hl.1, hl.2, by omega, fun _ => ?_⟩
      rw [m_keepAnswer_3]
      exact ⟨rfl, rfl⟩
    · unfold gList
      rw [m_keepAnswer_2n _ _ _ hnr, m_keepAnswer_3n _ _ _ hnr]
      exact hI.2.1 n hn
  · rw [m_keepAnswer_k _ _ _ (by decide) (by decide) (by decide), m_keepAnswer_k _ _ _ (by decide) (by decide) (by decide)]
    exact hI.2.2.1
  · rw [e1, m_keepAnswer_k _ _ _ (by decide) (by decide) (by decide)]
    simp only [m_keepAnswer_vn]
    exact hI.2.2.2
set_option maxHeartbeats 8000000 in
theorem c_keepAnswer (l : Launch) (G : gG) (ad : gAd) (C : gCT) (r : Nat) (v : Int32) (hI : gInv C) (hr : r < gRc C) (hc : gCnt C r ≤ 511) :
    gMv l yX4_keepAnswer cX4_keepAnswer 3 (gRm 7 149 2 2103) G [.ref (ad 11 r), .int v] (gLvO C) ad (gF G C ad) (fun u => ∃ ad', u = (gLvO (m_keepAnswer C r v), ad', gF G (m_keepAnswer C r v) ad') ∧ ∀ κ n, κ ≠ 3 → gLvO C κ n → ad' κ n = ad κ n) := by
  refine r_met (own := RX4) (by decide) rfl (Nat.le_of_ble_eq_true rfl) ?_
  intro p e s m below meth c ls X hw hr' hlk _ hl
  have hx := X.1.1; have hb := X.1.2.1; have hml := X.1.2.2.1; have hown := X.1.2.2.2.1; have hts := X.1.2.2.2.2
  have hl : lv_has ls 3 [(0, .ref (ad 11 r)), (1, .int v)] := hl
  have h24 : r ≠ 24 := by have := hI.1; omega
  have hdiv : (1024 * r + gCnt C r) / 1024 = r := by omega
  have hmod : (1024 * r + gCnt C r) % 1024 = gCnt C r := by omega
  have hN13 : ¬ gLvO C 13 (1024 * r + gCnt C r) := fun h => by
    have h : (1024 * r + gCnt C r) / 1024 < gRc C ∧ (1024 * r + gCnt C r) % 1024 < gCnt C ((1024 * r + gCnt C r) / 1024) := h
    rw [hdiv, hmod] at h
    omega
  have hL := hI.gl (Or.inl hr)
  refine lv_aload_n hx hb dX4_keepAnswer_0 rfl (lv_at hl 0 rfl) ?_
  refine r_get X hw 11 r 3 hr rfl rfl k_X4 (by decide) fl_RX4_12 dX4_keepAnswer_1 ?_
  refine r_get X hw 7 r 8 (Or.inl hr) rfl rfl k_X3 (by decide) fl_RX4_68 dX4_keepAnswer_4 ?_
  refine lv_istore_n (lv' := [(2, .int (C 7 r 5)), (0, .ref (ad 11 r)), (1, .int v)]) hx hb dX4_keepAnswer_7 rfl hl (by decide) rfl (fun ls hl => ?_)
  refine lv_aload_n hx hb dX4_keepAnswer_8 rfl (lv_at hl 1 rfl) ?_
  refine r_get X hw 11 r 4 hr rfl rfl k_X4 (by decide) fl_RX4_21 dX4_keepAnswer_9 ?_
  refine r_new X hw 13 (1024 * r + gCnt C r) hN13 (fs := [.int 0, .int 0, .int 0]) k_X0 df_X0 cl_RX4_71 ins_RX0 ini_RX0 (Nat.le_of_ble_eq_true rfl) (Nat.le_of_ble_eq_true rfl) dX4_keepAnswer_12 (fun q H _ hw => ?_)
  have a11 : g2 ad 13 (1024 * r + gCnt C r) q 11 r = ad 11 r := g2_n _ _ (fun e => absurd e.1 (by decide))
  have a12 : g2 ad 13 (1024 * r + gCnt C r) q 12 r = ad 12 r := g2_n _ _ (fun e => absurd e.1 (by decide))
  have a2 : g2 ad 13 (1024 * r + gCnt C r) q 2 r = ad 2 r := g2_n _ _ (fun e => absurd e.1 (by decide))
  have a13 : g2 ad 13 (1024 * r + gCnt C r) q 13 (1024 * r + gCnt C r) = q := g2_s _ _ _ _
  have l11 : g2 (gLvO C) 13 (1024 * r + gCnt C r) True 11 r := by rw [g2_n _ _ (fun e => absurd e.1 (by decide))]; exact hr
  have l12 : g2 (gLvO C) 13 (1024 * r + gCnt C r) True 12 r := by rw [g2_n _ _ (fun e => absurd e.1 (by decide))]; exact hr
  have l13 : g2 (gLvO C) 13 (1024 * r + gCnt C r) True 13 (1024 * r + gCnt C r) := by rw [g2_s]; trivial
  have l2 : g2 (gLvO C) 13 (1024 * r + gCnt C r) True 2 r := by rw [g2_n _ _ (fun e => absurd e.1 (by decide))]; exact Or.inl hr
  refine lv_dup hx hb dX4_keepAnswer_15 rfl ?_
  refine lv_iload_n hx hb dX4_keepAnswer_16 rfl (lv_at hl 0 rfl) ?_
  refine lv_aload_n hx hb dX4_keepAnswer_17 rfl (lv_at hl 1 rfl) ?_
  refine W.eq (g2 := F0 m 18 ls [.ref (g2 ad 13 (1024 * r + gCnt C r) q 11 r), .int (C 7 r 5), .ref q, .ref q, .ref (ad 2 r)]) (by rw [a11]) ?_
  refine r_get X hw 11 r 5 l11 (g2_n _ _ (fun e => absurd e.1 (by decide))) (v := .ref (ad 12 r)) rfl k_X4 (by decide) fl_RX4_25 dX4_keepAnswer_18 ?_
  refine lv_iload_n hx hb dX4_keepAnswer_21 rfl (lv_at hl 0 rfl) ?_
  refine W.eq (g2 := F0 m 22 ls [.int (C 7 r 5), .ref (g2 ad 13 (1024 * r + gCnt C r) q 12 r), .int (C 7 r 5), .ref q, .ref q, .ref (ad 2 r)]) (by rw [a12]) ?_
  refine r_rp (r_runSN X (c_m_at l (g2 ad 13 (1024 * r + gCnt C r) q 12 r) 16 (C 12 r) (C 7 r 5) (by decide)) cy_X5_at mn_RX4_73 ⟨Nat.le_of_ble_eq_true rfl, Nat.le_of_ble_eq_true rfl⟩ gArr_blind (fun U hU hW => ⟨rfl, gArr_call X hw 12 r l12 (g2_n _ _ (fun e => absurd e.1 (by decide))) U hU hW⟩) rfl hl.1 rfl (Nat.le_of_ble_eq_true rfl) dX4_keepAnswer_22 ⟨Nat.le_of_ble_eq_true rfl, Nat.le_of_ble_eq_true rfl⟩) ?_
  refine lv_iload_n hx hb dX4_keepAnswer_25 rfl (lv_at hl 2 rfl) ?_
  refine W.eq (g2 := F0 m 26 ls [.int v, .int (m_at (C 12 r) 16 (C 7 r 5)), .int (C 7 r 5), .ref (g2 ad 13 (1024 * r + gCnt C r) q 13 (1024 * r + gCnt C r)), .ref q, .ref (ad 2 r)]) (by rw [a13]) ?_
  refine r_rv X hw (r_runI X (c_iX0 l G _ _ _ (1024 * r + gCnt C r) (C 7 r 5) (m_at (C 12 r) 16 (C 7 r 5)) v l13 (g2_s _ _ _ _) _) cy_X0_init ml_RX4_77 ⟨Nat.le_of_ble_eq_true rfl, Nat.le_of_ble_eq_true rfl⟩ gP.blind (gP_call X hw _) rfl hl.1 rfl (Nat.le_of_ble_eq_true rfl) dX4_keepAnswer_26 ⟨Nat.le_of_ble_eq_true rfl, Nat.le_of_ble_eq_true rfl⟩) (fun u H locs hp hw => ?_)
  subst hp
  have hw : gW G (gA (gLvO C) ad s.heap.size) s.heap H locs (g2 (gLvO C) 13 (1024 * r + gCnt C r) True) (g2 ad 13 (1024 * r + gCnt C r) q) (g2 (g2 (gF G C ad) 13 (1024 * r + gCnt C r) (.inr (1, [.int 0, .int 0, .int 0]))) 13 (1024 * r + gCnt C r) (.inr (1, [.int (C 7 r 5), .int (m_at (C 12 r) 16 (C 7 r 5)), .int v]))) := hw
  have hlv : ∀ κ n, g2 (gLvO C) 13 (1024 * r + gCnt C r) True κ n → ¬ (κ = 13 ∧ n = 1024 * r + gCnt C r) → gLvO C κ n := fun κ n h h' => by rwa [g2_n _ _ h'] at h
  have hw : gW G (gA (gLvO C) ad s.heap.size) s.heap H locs (g2 (gLvO C) 13 (1024 * r + gCnt C r) True) (g2 ad 13 (1024 * r + gCnt C r) q) (gF G (m_keepA C r v) (g2 ad 13 (1024 * r + gCnt C r) q)) := by
    refine gW.cong hw (fun κ n hn => ?_)
    by_cases hk : κ = 13 ∧ n = 1024 * r + gCnt C r
    · obtain ⟨rfl, rfl⟩ := hk
      rw [g2_s]
      show _ = gB G 13 _ (m_keepA C r v 13 (1024 * r + gCnt C r)) _
      unfold m_keepA
      rw [g2_s]
      rfl
    · rw [g2_n _ _ hk, g2_n _ _ hk, ← gF_ad hI (ad := ad) (ad' := g2 ad 13 (1024 * r + gCnt C r) q) (fun κ' n' h' => g2_n _ _ (fun e => hN13 (by rw [← e.1, ← e.2]; exact h'))) κ n (hlv κ n hn hk)]
      show gB G κ n (C κ n) _ = gB G κ n (m_keepA C r v κ n) _
      unfold m_keepA
      rw [g2_n _ _ hk]
  have hE : gElem (g2 ad 13 (1024 * r + gCnt C r) q) r (gCnt C r) = q := by rw [gElem_ne h24]; exact a13
  refine W.eq (g2 := F0 m 29 ls [.ref (gElem (g2 ad 13 (1024 * r + gCnt C r) q) r (gCnt C r)), .ref (g2 ad 13 (1024 * r + gCnt C r) q 2 r)]) (by rw [hE, a2]) ?_
  have hK : ∀ j, gElK r j = (13, 1024 * r + j) := fun j => if_neg h24
  refine r_ri X hw (r_runV X (c_lAdd l G _ _ (m_keepA C r v) r (gCnt C r) (gCap C r) ?_ (by omega) ?_ ?_ _) cy_Jx4a65c_add_9ea2d ml_RX4_80 ⟨Nat.le_of_ble_eq_true rfl, Nat.le_of_ble_eq_true rfl⟩ gP.blind (g_recv X hw 2 r l2 rfl rfl) (gP_call X hw _) rfl hl.1 rfl (Nat.le_of_ble_eq_true rfl) dX4_keepAnswer_29 ⟨Nat.le_of_ble_eq_true rfl, Nat.le_of_ble_eq_true rfl⟩) (fun z u H locs hp hw => ?_)
  · obtain ⟨z1, z2, z3, z4, z5, z6⟩ := hL
    unfold gL
    rw [m_keepA_k C r v (κ := 2) (by decide), m_keepA_k C r v (κ := 3) (by decide)]
    refine ⟨l2, ?_, ?_, z4, z5, fun h0 => ⟨?_, ?_, ?_⟩⟩
    · exact z2
    · exact z3
    · rw [g2_n _ _ (fun e => absurd e.1 (by decide))]; exact (z6 h0).1
    · exact (z6 h0).2.1
    · exact (z6 h0).2.2
  · rw [g2_n _ _ (fun e => absurd e.1 (by decide))]
    exact fun h => h
  · intro j hj
    rw [hK j]
    show g2 (gLvO C) 13 (1024 * r + gCnt C r) True 13 (1024 * r + j)
    by_cases hjc : j = gCnt C r
    · rw [hjc]; exact l13
    · rw [g2_n _ _ (fun e => hjc (by omega))]
      show (1024 * r + j) / 1024 < gRc C ∧ (1024 * r + j) % 1024 < gCnt C ((1024 * r + j) / 1024)
      rw [show (1024 * r + j) / 1024 = r by omega]
      exact ⟨hr, by omega⟩
  · refine lv_pop hx hb dX4_keepAnswer_32 rfl ?_
    obtain ⟨-, q', rfl⟩ := hp
    refine r_vret X hw hr' hlk (Nat.le_of_ble_eq_true rfl) (Nat.le_of_ble_eq_true rfl) ?_ dX4_keepAnswer_33
    refine ⟨g2 (g2 ad 13 (1024 * r + gCnt C r) q) 3 r q', ?_, fun κ n h3 hn => ?_⟩
    · have e2 : lAdd (cs (m_keepA C r v) 2 r 0 (m_keepA C r v 2 r 0 + 1)) r (lCap (gCap C r) (gCnt C r)) (gCnt C r) = m_keepAnswer C r v := by
        unfold m_keepAnswer m_ladd
        rw [m_keepA_cnt, m_keepA_cap]
      rw [← m_keepAnswer_lv v hI hr hc, e2]
    · rw [g2_n _ _ (fun e => h3 e.1), g2_n _ _ (fun e => hN13 (by rw [← e.1, ← e.2]; exact hn))]

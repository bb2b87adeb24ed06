/-! ===== what is read ===== -/
theorem rd_state {C : gCT} (hI : gInv C) {r : Nat} (hr : r < gRc C) : m_state C (nI r) = (0, C 11 r 4, C) := by
  have h24 := hI.1
  unfold m_state; dsimp only
  rw [ru_ok hI hr, if_pos rfl, nI_clamp (by omega)]
theorem rd_version {C : gCT} (hI : gInv C) {r : Nat} (hr : r < gRc C) : m_version C (nI r) = (0, C 11 r 2, C) := by
  have h24 := hI.1
  unfold m_version; dsimp only
  rw [ru_ok hI hr, if_pos rfl, nI_clamp (by omega)]
theorem rd_fuel {C : gCT} (hI : gInv C) {r : Nat} (hr : r < gRc C) : m_fuel C (nI r) = (0, C 7 r 2, C) := by
  have h24 := hI.1
  unfold m_fuel; dsimp only
  rw [ru_ok hI hr, if_pos rfl, nI_clamp (by omega)]
theorem rd_depth {C : gCT} (hI : gInv C) {r : Nat} (hr : r < gRc C) : m_depth C (nI r) = (0, C 7 r 0, C) := by
  have h24 := hI.1
  unfold m_depth; dsimp only
  rw [ru_ok hI hr, if_pos rfl, nI_clamp (by omega)]
theorem rd_answers {C : gCT} (hI : gInv C) {r : Nat} (hr : r < gRc C) : m_answers C (nI r) = (0, nI (gCnt C r), C) := by
  have h24 := hI.1
  unfold m_answers; dsimp only
  rw [ru_ok hI hr, if_pos rfl, nI_clamp (by omega), (hI.cnt (Or.inl hr)).1]
theorem rd_question {C : gCT} (hI : gInv C) {r : Nat} (hr : r < gRc C) : m_question C (nI r) = (0, if C 11 r 4 = 0 ∨ C 11 r 4 = 1 ∨ C 11 r 4 = 6 then C 7 r 5 else -1, C) := by
  have h24 := hI.1
  unfold m_question; dsimp only
  rw [ru_ok hI hr, if_pos rfl, nI_clamp (by omega)]
  by_cases c0 : C 11 r 4 = 0
  · rw [if_pos c0, if_neg one_ne, if_pos (Or.inl c0)]
  rw [if_neg c0]
  by_cases c1 : C 11 r 4 = 1
  · rw [if_pos c1, if_neg one_ne, if_pos (Or.inr (Or.inl c1))]
  rw [if_neg c1]
  by_cases c6 : C 11 r 4 = 6
  · rw [if_pos c6, if_neg one_ne, if_pos (Or.inr (Or.inr c6))]
  rw [if_neg c6, if_pos rfl, if_neg (fun z => z.elim c0 (fun z => z.elim c1 c6))]
theorem rd_slot {C : gCT} (hI : gInv C) {r k : Nat} (hr : r < gRc C) (hk : k < 8) : m_slot C (nI r) (nI k) = (0, C 9 r k, C) := by
  have h24 := hI.1
  unfold m_slot; dsimp only
  rw [ru_ok hI hr, if_pos rfl, show m_isWithin (nI k) 0 7 = 1 from isW_lo (b := 7) (by omega) (by decide), if_neg one_ne, nI_clamp (by omega), nI_clamp (by omega)]
theorem rd_slot8 {C : gCT} (hI : gInv C) {r : Nat} (hr : r < gRc C) : m_slot C (nI r) 8 = (1, 0, C) := by
  unfold m_slot; dsimp only
  rw [ru_ok hI hr, if_pos rfl, if_pos (show m_isWithin 8 0 7 = 0 by decide)]
theorem rd_at {C : gCT} {n q w v : Nat} (hI : gInv C) {r k : Nat} (hr : r < gRc C) (hk : k < gCnt C r) (hn : n ≤ 2000) (hq : q < 16) (hw : w ≤ n) (hv : v < 10) (hT : cT C r k = (nI q, nI w, nI v)) : m_answerAt C (nI r) (nI k) = (0, nI (1000 * w + 10 * q + v), C) := by
  have h24 := hI.1
  have hcn := hI.cnt (Or.inl hr)
  have e0 : C 13 (1024 * r + k) 0 = nI q := congrArg Prod.fst hT
  have e1 : C 13 (1024 * r + k) 1 = nI w := congrArg (fun z => z.2.1) hT
  have e2 : C 13 (1024 * r + k) 2 = nI v := congrArg (fun z => z.2.2) hT
  have m1 : (1000 : Int32) * nI w = nI (1000 * w) := (Int32.ofNat_mul 1000 w).symm
  have m2 : (10 : Int32) * nI q = nI (10 * q) := (Int32.ofNat_mul 10 q).symm
  unfold m_answerAt; dsimp only
  rw [ru_ok hI hr, if_pos rfl, nI_clamp (by omega), hcn.1, show nI (gCnt C r) - 1 = nI (gCnt C r - 1) from nat_sub rfl (show (1 : Int32) = nI 1 from rfl) (by omega), isW_lo (by omega) (by omega), if_neg one_ne, nI_clamp (by omega), e0, e1, e2, m1, m2, nI_add, nI_add]
theorem rd_end {C : gCT} (hI : gInv C) {r : Nat} (hr : r < gRc C) : m_answerAt C (nI r) (nI (gCnt C r)) = (1, 0, C) := by
  have h24 := hI.1
  have hcn := hI.cnt (Or.inl hr)
  unfold m_answerAt; dsimp only
  rw [ru_ok hI hr, if_pos rfl, nI_clamp (by omega), hcn.1]
  by_cases c : gCnt C r = 0
  · rw [c, if_pos (show m_isWithin (nI 0) 0 (nI 0 - 1) = 0 by decide)]
  · rw [show nI (gCnt C r) - 1 = nI (gCnt C r - 1) from nat_sub rfl (show (1 : Int32) = nI 1 from rfl) (by omega), isW_hi (by omega) (by omega), if_pos rfl]
theorem rd_reward (C : gCT) {k : Nat} (hk : k < 16) : m_reward C (nI k) = (0, C 19 0 k, C) := by
  unfold m_reward; dsimp only
  rw [show m_isWithin (nI k) 0 15 = 1 from isW_lo (b := 15) (by omega) (by decide), if_neg one_ne, nI_clamp (by omega)]
theorem rd_budget (C : gCT) {f : Nat} (hf : f < 4) : m_budget C (nI f) = (0, C 4 f 2, C) := by
  unfold m_budget; dsimp only
  rw [fm_ok C hf, if_pos rfl, nI_clamp (by omega)]
theorem rd_done (C : gCT) {f p : Nat} (hf : f < 4) (hp : p < 4) : m_done C (nI f) (nI p) = (0, C 6 f p, C) := by
  unfold m_done; dsimp only
  rw [fm_ok C hf, if_pos rfl, show m_isWithin (nI p) 0 3 = 1 from isW_lo (b := 3) (by omega) (by decide), if_neg one_ne, nI_clamp (by omega), nI_clamp (by omega)]
/-! ===== the spare machine ===== -/
theorem sp_x (C : gCT) (z : aM) : gSx C (aPut C 24 z) := ⟨aPut_k _ _ _ (by decide), aPut_k _ _ _ (by decide), fun g => by rw [aPut_k _ _ _ (by decide)], fun s => by rw [aPut_k _ _ _ (by decide)]; exact ⟨rfl, rfl⟩, aPut_k _ _ _ (by decide)⟩
theorem sp_J {n : Nat} {fd : Int32} {C : gCT} (z : aM) (h : kJ n fd C) : kJ n fd (aPut C 24 z) := by
  have e : ∀ {κ : Nat}, (κ < 7 ∨ 10 < κ) → aPut C 24 z κ = C κ := fun h => aPut_k C 24 z h
  obtain ⟨h1, h2, h3, h4, h5, h6⟩ := h
  refine ⟨(sp_x C z).inv h1, kF_same (fun f => by rw [e (by decide)]; exact ⟨rfl, rfl⟩) (e (by decide)) (e (by decide)) (e (by decide)) (e (by decide)) h2, kQ_same (e (by decide)) (e (by decide)) h3, kU_form h1 (fun κ hk => e (by omega)) (fun κ r _ hr => aPut_n C 24 z hr κ) (fun f => by rw [e (by decide)]) h4, kM_same (by rw [e (by decide)]) (fun g => by rw [e (by decide)]) (by rw [e (by decide)]) h5, kD_same (by rw [e (by decide)]) (e (by decide)) (fun s _ => by rw [e (by decide)]) h6⟩
theorem again_k {n : Nat} {fd : Int32} {C : gCT} (h : kJ n fd C) {r : Nat} (hr : r < gRc C) : ∃ z : aM, m_doAgain C r = aPut C 24 z ∧ z.1 2 = C 7 r 2 ∧ ∀ j, j < 8 → z.2.2.1 j = C 9 r j := by
  obtain ⟨hI, -, -, hU, -⟩ := h
  obtain ⟨-, hs, -, F, f1, f2, f3⟩ := hU r hr
  have hr24 : r ≠ 24 := by have := hI.1; omega
  have h7 : (aGet C r).1 4 ≠ 7 := by
    show C 7 r 4 ≠ 7
    rcases hs with ⟨-, h7⟩ | ⟨-, h7 | h7 | h7 | h7⟩ <;> rw [h7] <;> decide
  obtain ⟨k1, k2⟩ := reach_fin f3 h7 (aGet C 24)
  refine ⟨_, ?_, k1, k2⟩
  unfold m_doAgain
  dsimp only
  have e1 : m_reset C 24 (C 11 r 3) = aPut C 24 (a_reset (aGet C 24) (nI F)) := by
    rw [f2]
    have := A_reset C 24 (aGet C 24) (nI F)
    rwa [aPut_aGet] at this
  rw [e1, aPut_n C 24 _ hr24 7, A_goOn]
  rfl
theorem rd_again {n : Nat} {fd : Int32} {C : gCT} (h : kJ n fd C) {r : Nat} (hr : r < gRc C) : ∃ z : aM, m_fuelAgain C (nI r) = (0, C 7 r 2, aPut C 24 z) := by
  have h24 := h.1.1
  obtain ⟨z, e1, e2, -⟩ := again_k h hr
  refine ⟨z, ?_⟩
  unfold m_fuelAgain; dsimp only
  rw [ru_ok h.1 hr, if_pos rfl, nI_clamp (by omega), e1, aPut_7, e2]
theorem rd_slotAgain {n : Nat} {fd : Int32} {C : gCT} (h : kJ n fd C) {r k : Nat} (hr : r < gRc C) (hk : k < 8) : ∃ z : aM, m_slotAgain C (nI r) (nI k) = (0, C 9 r k, aPut C 24 z) := by
  have h24 := h.1.1
  obtain ⟨z, e1, -, e3⟩ := again_k h hr
  refine ⟨z, ?_⟩
  unfold m_slotAgain; dsimp only
  rw [ru_ok h.1 hr, if_pos rfl, show m_isWithin (nI k) 0 7 = 1 from isW_lo (b := 7) (by omega) (by decide), if_neg one_ne, nI_clamp (by omega), nI_clamp (by omega), e1, aPut_9, e3 k hk]

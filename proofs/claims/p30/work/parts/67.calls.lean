/-! ===== the calls, with numbers that are taken ===== -/
theorem isW_in {x a b : Nat} (h1 : a ≤ x) (h2 : x ≤ b) (hb : b < 2 ^ 31) : m_isWithin (nI x) (nI a) (nI b) = 1 := by
  unfold m_isWithin
  rw [if_neg (fun e => absurd ((nat_lt rfl rfl (by omega) (by omega)).mp e) (by omega)), if_neg (fun e => absurd ((nat_lt rfl rfl (by omega) (by omega)).mp e) (by omega))]
theorem isW_lo {x b : Nat} (h2 : x ≤ b) (hb : b < 2 ^ 31) : m_isWithin (nI x) 0 (nI b) = 1 := isW_in (a := 0) (Nat.zero_le _) h2 hb
theorem isW_hi {x b : Nat} (h2 : b < x) (hb : x < 2 ^ 31) : m_isWithin (nI x) 0 (nI b) = 0 := by
  unfold m_isWithin
  rw [if_neg (fun e => absurd ((nat_lt rfl (show (0 : Int32) = nI 0 from rfl) (by omega) (by decide)).mp e) (by omega)), if_pos ((nat_lt rfl rfl (by omega) (by omega)).mpr h2)]
theorem fm_ok (C : gCT) {f : Nat} (hf : f < 4) : m_formAt C (nI f) = 0 := by
  unfold m_formAt
  dsimp only
  rw [show m_isWithin (nI f) 0 3 = 1 from isW_lo (b := 3) (by omega) (by decide), if_neg one_ne]
theorem ru_ok {C : gCT} (hI : gInv C) {r : Nat} (hr : r < gRc C) : m_runAt C (nI r) = 0 := by
  have h24 := hI.1
  have hc : C 2 24 1 = nI (gRc C) := (hI.cnt (Or.inr rfl)).1
  unfold m_runAt
  dsimp only
  rw [hc, show nI (gRc C) - 1 = nI (gRc C - 1) from nat_sub rfl (show (1 : Int32) = nI 1 from rfl) (by omega), isW_lo (by omega) (by omega), if_neg one_ne]
/-- what most calls leave: the law's rows, the drafts, the versions, and what has ended -/
def kX (C D : gCT) : Prop := D 22 = C 22 ∧ D 14 = C 14 ∧ (∀ f, D 4 f 0 = C 4 f 0) ∧ gRc C ≤ gRc D ∧ ∀ r, r < gRc C → 1 < C 11 r 4 → D 11 r 4 = C 11 r 4
theorem kX.rf {C : gCT} : kX C C := ⟨rfl, rfl, fun _ => rfl, Nat.le_refl _, fun _ _ _ => rfl⟩
theorem kX.tr {C D E : gCT} (h : kX C D) (g : kX D E) : kX C E := ⟨g.1.trans h.1, g.2.1.trans h.2.1, fun f => (g.2.2.1 f).trans (h.2.2.1 f), Nat.le_trans h.2.2.2.1 g.2.2.2.1, fun r hr h1 => by
  have e := h.2.2.2.2 r hr h1
  rw [g.2.2.2.2 r (Nat.lt_of_lt_of_le hr h.2.2.2.1) (by rw [e]; exact h1), e]⟩
theorem kX.of {C D : gCT} (h22 : D 22 = C 22) (h14 : D 14 = C 14) (h4 : ∀ f, D 4 f 0 = C 4 f 0) (h2 : D 2 24 1 = C 2 24 1) (h11 : D 11 = C 11) : kX C D := ⟨h22, h14, h4, by unfold gRc; rw [h2]; exact Nat.le_refl _, fun r _ _ => by rw [h11]⟩
theorem kX.cs {C : gCT} {κ n j : Nat} {v : Int32} (h : κ = 17 ∨ κ = 18 ∨ κ = 5 ∨ (κ = 4 ∧ j ≠ 0)) : kX C (cs C κ n j v) := by
  refine kX.of (cs_k _ _ _ _ (by omega)) (cs_k _ _ _ _ (by omega)) (fun f => ?_) (by rw [cs_k _ _ _ _ (by omega)]) (cs_k _ _ _ _ (by omega))
  rw [cs_rd, if_neg (by omega)]
/-! prices, quotas, fuel, words, money -/
theorem f_price (C : gCT) {q c : Nat} (hq : q < 16) (hc : c ≤ 1000) : m_setPrice C (nI q) (nI c) = (0, C 17 0 q, cs C 17 0 q (nI c)) := by
  unfold m_setPrice
  dsimp only
  rw [show m_isWithin (nI q) 0 15 = 1 from isW_lo (b := 15) (by omega) (by decide), if_neg one_ne, show m_isWithin (nI c) 0 1000 = 1 from isW_lo (b := 1000) (by omega) (by decide), if_neg one_ne, nI_clamp (by omega)]
theorem f_fund (C : gCT) {f c : Nat} (hf : f < 4) (h1 : 1 ≤ c) (hc : c ≤ 100000) : m_fund C (nI f) (nI c) = (0, C 4 f 2 + nI c, cs C 4 f 2 (C 4 f 2 + nI c)) := by
  unfold m_fund
  dsimp only
  rw [fm_ok C hf, if_pos rfl, show m_isWithin (nI c) 1 100000 = 1 from isW_in (a := 1) (b := 100000) h1 hc (by decide), if_neg one_ne, nI_clamp (by omega), cs_s]
theorem f_quota (C : gCT) {f p q : Nat} (hf : f < 4) (hp : p < 4) (hq : q ≤ 20) : m_setQuota C (nI f) (nI p) (nI q) = (0, C 5 f p, cs C 5 f p (nI q)) := by
  unfold m_setQuota
  dsimp only
  rw [fm_ok C hf, if_pos rfl, show m_isWithin (nI p) 0 3 = 1 from isW_lo (b := 3) (by omega) (by decide), if_neg one_ne, show m_isWithin (nI q) 0 20 = 1 from isW_lo (b := 20) (by omega) (by decide), if_neg one_ne, nI_clamp (by omega), nI_clamp (by omega)]
theorem f_fuels (C : gCT) {f F : Nat} (hf : f < 4) (h1 : 1 ≤ F) (hF : F ≤ 200) : m_setFuel C (nI f) (nI F) = (0, C 4 f 1, cs C 4 f 1 (nI F)) := by
  unfold m_setFuel
  dsimp only
  rw [fm_ok C hf, if_pos rfl, show m_isWithin (nI F) 1 200 = 1 from isW_in (a := 1) (b := 200) h1 hF (by decide), if_neg one_ne, nI_clamp (by omega)]
theorem f_reword (C : gCT) {q : Nat} (hq : q < 16) : m_reword C (nI q) = (0, C 18 0 q + 1, cs C 18 0 q (C 18 0 q + 1)) := by
  unfold m_reword
  dsimp only
  rw [show m_isWithin (nI q) 0 15 = 1 from isW_lo (b := 15) (by omega) (by decide), if_neg one_ne, nI_clamp (by omega), cs_s]
theorem kJ_cs {n : Nat} {fd : Int32} {C : gCT} {κ i j : Nat} {v : Int32} (hk : κ = 17 ∨ κ = 18 ∨ κ = 5 ∨ (κ = 4 ∧ j = 1)) (hF : kF (cs C κ i j v)) (hQ : kQ (n + 1) (cs C κ i j v)) (h : kJ n fd C) : kJ (n + 1) fd (cs C κ i j v) := by
  obtain ⟨h1, h2, h3, h4, h5, h6⟩ := h
  have hx : gSx C (cs C κ i j v) := gSx.rf.cs1 (by rcases hk with rfl | rfl | rfl | ⟨rfl, rfl⟩ <;> rfl)
  have e : ∀ {k : Nat}, k ≠ 17 → k ≠ 18 → k ≠ 5 → k ≠ 4 → cs C κ i j v k = C k := fun a b c d => cs_k _ _ _ _ (by omega)
  refine ⟨hx.inv h1, hF, hQ, kU_form h1 (fun k hk => e (by omega) (by omega) (by omega) (by omega)) (fun k r hk _ => by rw [e (by omega) (by omega) (by omega) (by omega)]) (fun f => by rw [cs_rd, if_neg (by omega)]) (fun r hr => (h4 r hr).up (Nat.le_succ n)), (kM_same (by rw [e (by decide) (by decide) (by decide) (by decide)]) (fun f => by rw [cs_rd, if_neg (by omega)]) (by rw [e (by decide) (by decide) (by decide) (by decide)]) h5).up (Nat.le_succ n), kD_same (by rw [e (by decide) (by decide) (by decide) (by decide)]) (e (by decide) (by decide) (by decide) (by decide)) (fun r _ => by rw [e (by decide) (by decide) (by decide) (by decide)]) h6⟩
theorem j_price {n : Nat} {fd : Int32} {C : gCT} {q c : Nat} (hc : c ≤ 1000) (h : kJ n fd C) : kJ (n + 1) fd (cs C 17 0 q (nI c)) := by
  refine kJ_cs (Or.inl rfl) (kF_same (fun f => by rw [cs_k _ _ _ _ (by decide)]; exact ⟨rfl, rfl⟩) (cs_k _ _ _ _ (by decide)) (cs_k _ _ _ _ (by decide)) (cs_k _ _ _ _ (by decide)) (cs_k _ _ _ _ (by decide)) h.2.1) (fun k hk => ?_) h
  obtain ⟨a1, w, a2, a3⟩ := h.2.2.1 k hk
  refine ⟨?_, w, by omega, by rw [cs_k _ _ _ _ (by decide)]; exact a3⟩
  by_cases e : k = q
  · subst e; exact ⟨c, hc, cs_s _ _ _ _ _⟩
  · rw [cs_o _ _ _ _ e]; exact a1
theorem j_reword {n : Nat} {fd : Int32} {C : gCT} {q : Nat} (h : kJ n fd C) : kJ (n + 1) fd (cs C 18 0 q (C 18 0 q + 1)) := by
  refine kJ_cs (Or.inr (Or.inl rfl)) (kF_same (fun f => by rw [cs_k _ _ _ _ (by decide)]; exact ⟨rfl, rfl⟩) (cs_k _ _ _ _ (by decide)) (cs_k _ _ _ _ (by decide)) (cs_k _ _ _ _ (by decide)) (cs_k _ _ _ _ (by decide)) h.2.1) (fun k hk => ?_) h
  obtain ⟨a1, w, a2, a3⟩ := h.2.2.1 k hk
  refine ⟨by rw [cs_k _ _ _ _ (by decide)]; exact a1, ?_⟩
  by_cases e : k = q
  · subst e; rw [cs_s, a3, nI_1]; exact ⟨w + 1, by omega, rfl⟩
  · rw [cs_o _ _ _ _ e]; exact ⟨w, by omega, a3⟩
theorem j_quota {n : Nat} {fd : Int32} {C : gCT} {f p q : Nat} (hq : q ≤ 20) (h : kJ n fd C) : kJ (n + 1) fd (cs C 5 f p (nI q)) := by
  refine kJ_cs (Or.inr (Or.inr (Or.inl rfl))) (fun g hg => ?_) ((kQ_same (cs_k _ _ _ _ (by decide)) (cs_k _ _ _ _ (by decide)) h.2.2.1).up (Nat.le_succ n)) h
  obtain ⟨a1, a2, a3⟩ := h.2.1 g hg
  have eV : gVn (cs C 5 f p (nI q)) = gVn C := by funext k; unfold gVn; rw [cs_k _ _ _ _ (by decide)]
  refine ⟨by rw [cs_k _ _ _ _ (by decide)]; exact a1, fun i hi => ?_, ?_⟩
  · by_cases e : g = f ∧ i = p
    · obtain ⟨rfl, rfl⟩ := e; exact ⟨q, hq, cs_s _ _ _ _ _⟩
    · rw [cs_rd, if_neg (fun z => e z.2)]; exact a2 i hi
  · unfold kC at a3 ⊢
    rw [eV, cs_k _ _ _ _ (show (14 : Nat) ≠ 5 by decide), cs_k _ _ _ _ (show (15 : Nat) ≠ 5 by decide), cs_k _ _ _ _ (show (16 : Nat) ≠ 5 by decide)]
    exact a3
theorem j_fuels {n : Nat} {fd : Int32} {C : gCT} {f F : Nat} (h1 : 1 ≤ F) (hF : F ≤ 200) (h : kJ n fd C) : kJ (n + 1) fd (cs C 4 f 1 (nI F)) := by
  refine kJ_cs (Or.inr (Or.inr (Or.inr ⟨rfl, rfl⟩))) (fun g hg => ?_) ((kQ_same (cs_k _ _ _ _ (by decide)) (cs_k _ _ _ _ (by decide)) h.2.2.1).up (Nat.le_succ n)) h
  obtain ⟨a1, a2, a3⟩ := h.2.1 g hg
  have eV : gVn (cs C 4 f 1 (nI F)) = gVn C := by funext k; unfold gVn; rw [cs_rd, if_neg (by omega)]
  refine ⟨?_, by rw [cs_k _ _ _ _ (by decide)]; exact a2, ?_⟩
  · by_cases e : g = f
    · subst e; exact ⟨F, h1, hF, cs_s _ _ _ _ _⟩
    · rw [cs_n _ _ _ _ e]; exact a1
  · unfold kC at a3 ⊢
    rw [eV, cs_k _ _ _ _ (show (14 : Nat) ≠ 4 by decide), cs_k _ _ _ _ (show (15 : Nat) ≠ 4 by decide), cs_k _ _ _ _ (show (16 : Nat) ≠ 4 by decide)]
    exact a3
theorem j_fund {n : Nat} {fd : Int32} {C : gCT} {f c : Nat} (hn : n ≤ 700) (hf : f < 4) (hc : c ≤ 100000) (h : kJ n fd C) : kJ (n + 1) (fd + nI c) (cs C 4 f 2 (C 4 f 2 + nI c)) := by
  obtain ⟨h1, h2, h3, h4, ⟨m1, m2, m3⟩, h6⟩ := h
  have hx : gSx C (cs C 4 f 2 (C 4 f 2 + nI c)) := gSx.rf.cs1 rfl
  have e : ∀ {k : Nat}, k ≠ 4 → cs C 4 f 2 (C 4 f 2 + nI c) k = C k := fun a => cs_k _ _ _ _ a
  have e4 : ∀ g j, j ≠ 2 → cs C 4 f 2 (C 4 f 2 + nI c) 4 g j = C 4 g j := fun g j hj => by rw [cs_rd, if_neg (by omega)]
  refine ⟨hx.inv h1, kF_same (fun g => ⟨e4 g 0 (by decide), e4 g 1 (by decide)⟩) (e (by decide)) (e (by decide)) (e (by decide)) (e (by decide)) h2, (kQ_same (e (by decide)) (e (by decide)) h3).up (Nat.le_succ n), kU_form h1 (fun k hk => e (by omega)) (fun k r hk _ => by rw [e (by omega)]) (fun g => e4 g 0 (by decide)) (fun r hr => (h4 r hr).up (Nat.le_succ n)), ⟨fun q hq => ?_, fun g hg => ?_, ?_⟩, kD_same (by rw [e (by decide)]) (e (by decide)) (fun r _ => by rw [e (by decide)]) h6⟩
  · obtain ⟨m, k1, k2⟩ := m1 q hq
    rw [e (by decide)]; exact ⟨m, by omega, k2⟩
  · obtain ⟨b, k1, k2⟩ := m2 g hg
    by_cases eg : g = f
    · subst eg; rw [cs_s, k2, nI_add]; exact ⟨b + c, by omega, rfl⟩
    · rw [cs_n _ _ _ _ eg]; exact ⟨b, by omega, k2⟩
  · have s2 : sm (fun g => cs C 4 f 2 (C 4 f 2 + nI c) 4 g 2) 4 = sm (fun g => C 4 g 2) 4 + nI c := sm_one (i := f) hf (fun j _ hj => by
      show cs C 4 f 2 (C 4 f 2 + nI c) 4 j 2 = C 4 j 2
      rw [cs_n _ _ _ _ hj]) (cs_s _ _ _ _ _)
    rw [s2, e (by decide), e (by decide), ← Int32.add_assoc, m3, Int32.add_assoc, Int32.add_comm (C 0 0 0), ← Int32.add_assoc]

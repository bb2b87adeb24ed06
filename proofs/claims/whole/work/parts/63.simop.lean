/-! ===== the reference's steps, against the machine alone ===== -/
theorem aS.qm {M0 : gCT} {r : Nat} {x : aM} {M : gCT} (h : aS M0 r x M) (hl : x.1 4 = 7 ∨ x.1 4 = 0 ∨ x.1 4 = 3) : M 20 0 0 = M0 20 0 0 ∧ M 21 8 = M0 21 8 ∧ M 21 10 = M0 21 10 ∧ M 21 13 = M0 21 13 := by
  have e := h.2
  rw [aMon_live M0 r _ hl] at e
  exact ⟨congrArg Prod.fst e, congrArg (fun z => z.2.1) e, congrArg (fun z => z.2.2.1) e, congrArg (fun z => z.2.2.2) e⟩
theorem aS.mk {M0 : gCT} {r : Nat} {x : aM} {M : gCT} (h : aR M0 r x M) (hl : x.1 4 = 7 ∨ x.1 4 = 0 ∨ x.1 4 = 3) (hm : M 20 0 0 = M0 20 0 0 ∧ M 21 8 = M0 21 8 ∧ M 21 10 = M0 21 10 ∧ M 21 13 = M0 21 13) : aS M0 r x M := by
  refine ⟨h, ?_⟩
  rw [aMon_live M0 r _ hl, hm.1, hm.2.1, hm.2.2.1, hm.2.2.2]
theorem qm_cs {M0 M : gCT} (hm : M 20 0 0 = M0 20 0 0 ∧ M 21 8 = M0 21 8 ∧ M 21 10 = M0 21 10 ∧ M 21 13 = M0 21 13) {n : Nat} (j : Nat) (v : Int32) (hn : n ≠ 8 ∧ n ≠ 10 ∧ n ≠ 13) : cs M 21 n j v 20 0 0 = M0 20 0 0 ∧ cs M 21 n j v 21 8 = M0 21 8 ∧ cs M 21 n j v 21 10 = M0 21 10 ∧ cs M 21 n j v 21 13 = M0 21 13 := by
  rw [cs_n _ _ _ _ (Ne.symm hn.1), cs_n _ _ _ _ (Ne.symm hn.2.1), cs_n _ _ _ _ (Ne.symm hn.2.2), cs_rd, if_neg (by omega)]
  exact hm
/-- what stays in the reference, in a run's steps -/
theorem aR.fr {M0 : gCT} {r : Nat} {x : aM} {M : gCT} (h : aR M0 r x M) {κ n j : Nat} (h1 : ¬ mach r κ n j) (h2 : ¬ mony κ n j) : M κ n j = M0 κ n j := h.2.2.2.2.2 κ n j h1 h2
theorem aR.fr21 {M0 : gCT} {r : Nat} {x : aM} {M : gCT} (h : aR M0 r x M) {n : Nat} (hn : n ≠ 8 ∧ n ≠ 10 ∧ n ≠ 13 ∧ n ≠ 18 ∧ n ≠ 19 ∧ n ≠ 20 ∧ n ≠ 21 ∧ n ≠ 22 ∧ n ≠ 23 ∧ n ≠ 24 ∧ n ≠ 25 ∧ n ≠ 28) : M 21 n = M0 21 n := by
  funext j
  exact h.fr (by unfold mach; omega) (by unfold mony; omega)
theorem S_end {M0 : gCT} {r : Nat} {x : aM} {M : gCT} (h : aS M0 r x M) (h7 : x.1 4 = 7) {w : Int32} (hw : w = 5 ∨ w = 4 ∨ w = 3) : aS M0 r (a_st x w) (q_ends M r w) := by
  have hm := h.qm (Or.inl h7)
  have hw0 : w ≠ 0 := by rcases hw with rfl | rfl | rfl <;> decide
  have hR := h.1.state w hw0
  have e26 : M 21 26 = M0 21 26 := h.1.fr21 (by decide)
  have e16 : M 21 16 = M0 21 16 := h.1.fr21 (by decide)
  have m1 := qm_cs hm (n := 24) r w (by decide)
  have hst : (a_st x w).1 4 = w := sr_s x 4 w
  rcases hw with rfl | rfl | rfl
  · have hq : q_ends M r 5 = cs (cs (cs M 21 24 r 5) 20 0 0 (M 20 0 0 + M 21 26 r)) 21 8 (M 21 16 r).toNatClampNeg (M 21 8 (M 21 16 r).toNatClampNeg + M 21 26 r) := by unfold q_ends; rw [if_pos rfl]
    rw [hq]
    refine ⟨(hR.mny _ (Or.inl ⟨rfl, rfl, rfl⟩)).mny _ (Or.inr ⟨rfl, Or.inl rfl⟩), ?_⟩
    rw [hst]
    unfold aMon
    rw [if_pos (Or.inl rfl)]
    refine Prod.ext ?_ (Prod.ext ?_ (Prod.ext ?_ ?_))
    · dsimp only
      rw [cs_rd, if_neg (by omega), cs_s, hm.1, e26]
    · dsimp only
      funext k
      rw [cs_rd, e16, e26, hm.2.1]
      by_cases hk : k = (M0 21 16 r).toNatClampNeg
      · rw [if_pos ⟨rfl, rfl, hk⟩, hk, upd_s]
      · rw [if_neg (fun e => hk e.2.2), upd_o _ _ hk, cs_rd, if_neg (by omega)]
        exact congrFun m1.2.1 k
    · dsimp only
      rw [cs_n _ _ _ _ (by decide), congrFun (cs_k _ _ _ _ (show (21 : Nat) ≠ 20 by decide)) 10]
      exact m1.2.2.1
    · dsimp only
      rw [cs_n _ _ _ _ (by decide), congrFun (cs_k _ _ _ _ (show (21 : Nat) ≠ 20 by decide)) 13]
      exact m1.2.2.2
  · have hq : q_ends M r 4 = cs (cs (cs M 21 24 r 4) 20 0 0 (M 20 0 0 + M 21 26 r)) 21 8 (M 21 16 r).toNatClampNeg (M 21 8 (M 21 16 r).toNatClampNeg + M 21 26 r) := by unfold q_ends; rw [if_neg (by decide), if_pos rfl]
    rw [hq]
    refine ⟨(hR.mny _ (Or.inl ⟨rfl, rfl, rfl⟩)).mny _ (Or.inr ⟨rfl, Or.inl rfl⟩), ?_⟩
    rw [hst]
    unfold aMon
    rw [if_pos (Or.inr rfl)]
    refine Prod.ext ?_ (Prod.ext ?_ (Prod.ext ?_ ?_))
    · dsimp only
      rw [cs_rd, if_neg (by omega), cs_s, hm.1, e26]
    · dsimp only
      funext k
      rw [cs_rd, e16, e26, hm.2.1]
      by_cases hk : k = (M0 21 16 r).toNatClampNeg
      · rw [if_pos ⟨rfl, rfl, hk⟩, hk, upd_s]
      · rw [if_neg (fun e => hk e.2.2), upd_o _ _ hk, cs_rd, if_neg (by omega)]
        exact congrFun m1.2.1 k
    · dsimp only
      rw [cs_n _ _ _ _ (by decide), congrFun (cs_k _ _ _ _ (show (21 : Nat) ≠ 20 by decide)) 10]
      exact m1.2.2.1
    · dsimp only
      rw [cs_n _ _ _ _ (by decide), congrFun (cs_k _ _ _ _ (show (21 : Nat) ≠ 20 by decide)) 13]
      exact m1.2.2.2
  · have hq : q_ends M r 3 = cs M 21 24 r 3 := by unfold q_ends; rw [if_neg (by decide), if_neg (by decide)]
    rw [hq]
    exact aS.mk hR (Or.inr (Or.inr hst)) m1
theorem S_put {M0 : gCT} {r : Nat} {x : aM} {M : gCT} (h : aS M0 r x M) (h7 : x.1 4 = 7) (hI : aI x) (v : Int32) : aS M0 r (a_put x v) (q_puts M r v) := by
  obtain ⟨k, hk, ek⟩ := hI.1
  have hm := h.qm (Or.inl h7)
  have e20 := h.1.1.1
  have hq : q_puts M r v = if M 21 20 r = 8 then q_ends M r 5 else cs (cs M 21 19 (8 * r + (M 21 20 r).toNatClampNeg) v) 21 20 r (M 21 20 r + 1) := rfl
  rw [hq, e20, ek]
  unfold a_put
  rw [ek]
  by_cases h8 : k = 8
  · rw [if_pos ((isW_put hk).mpr h8), if_pos (by rw [h8]; rfl)]
    exact S_end h h7 (Or.inl rfl)
  · rw [if_neg (fun e => h8 ((isW_put hk).mp e)), if_neg (show ¬ nI k = (8 : Int32) from fun e => h8 ((nI_eq (b := 8) (by omega) (by decide)).mp e)), nI_clamp (by omega), nI_1]
    refine aS.mk (h.1.push (by omega) ek v) (Or.inl ?_) (qm_cs (qm_cs hm _ _ (by decide)) _ _ (by decide))
    exact (upd_o x.1 (nI (k + 1)) (show (4 : Nat) ≠ 0 by decide)).trans h7
theorem S_take {M0 : gCT} {r : Nat} {x : aM} {M : gCT} (h : aS M0 r x M) (h7 : x.1 4 = 7) (hI : aI x) : aS M0 r (a_take x).2 (q_takes M r).2 ∧ (q_takes M r).1 = (a_take x).1 := by
  obtain ⟨k, hk, ek⟩ := hI.1
  have hm := h.qm (Or.inl h7)
  have e20 := h.1.1.1
  have hq : q_takes M r = if M 21 20 r = 0 then (0, q_ends M r 5) else (M 21 19 (8 * r + ((M 21 20 r).toNatClampNeg - 1)), cs M 21 20 r (M 21 20 r - 1)) := rfl
  rw [hq, e20, ek]
  unfold a_take
  rw [ek]
  by_cases h0 : k = 0
  · rw [if_pos ((isW_take hk).mpr h0), if_pos (by rw [h0]; rfl)]
    exact ⟨S_end h h7 (Or.inl rfl), rfl⟩
  · have es : nI k - 1 = nI (k - 1) := nat_sub rfl (show (1 : Int32) = nI 1 from rfl) (by omega)
    rw [if_neg (fun e => h0 ((isW_take hk).mp e)), if_neg (show ¬ nI k = (0 : Int32) from fun e => h0 ((nI_eq (b := 0) (by omega) (by decide)).mp e)), nI_clamp (by omega), es, nI_clamp (by omega)]
    refine ⟨aS.mk (h.1.pop hk ek) (Or.inl ?_) (qm_cs hm (n := 20) r (nI (k - 1)) (by decide)), ?_⟩
    · exact (upd_o x.1 (nI (k - 1)) (show (4 : Nat) ≠ 0 by decide)).trans h7
    · exact h.1.2.2.2.2.1 (k - 1) (by omega) (by rw [ek, nI_clamp (by omega)]; omega)
theorem q_held_eq (n : Int32) : q_held n = m_held n := by
  unfold q_held m_held
  dsimp only
  by_cases h1 : n ≤ 9999
  · rw [if_pos h1]
    by_cases h2 : n < 9999
    · rw [if_pos h2]
      by_cases h3 : -9999 ≤ n
      · rw [if_pos h3]
        by_cases h4 : -9999 < n
        · rw [if_pos h4]
        · rw [if_neg h4]
          exact Int32.le_antisymm (Int32.not_lt.mp h4) h3
      · rw [if_neg h3, if_neg (fun z => h3 (Int32.le_of_lt z))]
    · have e : n = 9999 := Int32.le_antisymm h1 (Int32.not_lt.mp h2)
      rw [if_neg h2, e]
      decide
  · rw [if_neg h1, if_neg (fun z => h1 (Int32.le_of_lt z))]
    decide

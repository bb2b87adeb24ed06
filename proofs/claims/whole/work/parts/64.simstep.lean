/-! ===== the reference's instructions ===== -/
theorem aM_eta (x : aM) : (x.1, x.2.1, x.2.2.1, x.2.2.2) = x := rfl
theorem S_reckon {M0 : gCT} {r : Nat} {x : aM} {M : gCT} (h : aS M0 r x M) (h7 : x.1 4 = 7) (hI : aI x) (w : Int32) : aS M0 r (a_comb x w) (q_reckons M r w) := by
  obtain ⟨h1, v1⟩ := S_take h h7 hI
  have hI1 := hI.take
  have e1 := h1.1.1.2.2.2.2
  have hq : q_reckons M r w = if (q_takes M r).2 21 24 r = 7 then (if (q_takes (q_takes M r).2 r).2 21 24 r = 7 then q_puts (q_takes (q_takes M r).2 r).2 r (if w = 4 then q_held ((q_takes (q_takes M r).2 r).1 + (q_takes M r).1) else if w = 5 then q_held ((q_takes (q_takes M r).2 r).1 - (q_takes M r).1) else if w = 6 then (if (q_takes M r).1 ≤ (q_takes (q_takes M r).2 r).1 then 0 else 1) else if (q_takes (q_takes M r).2 r).1 = (q_takes M r).1 then 1 else 0) else (q_takes (q_takes M r).2 r).2) else (q_takes M r).2 := by
    unfold q_reckons
    dsimp only
    by_cases c : (q_takes M r).2 21 24 r = 7
    · rw [if_pos c, if_pos c]
    · rw [if_neg c, if_neg c, if_neg c]
  rw [hq, e1]
  unfold a_comb
  by_cases c : (a_take x).2.1 4 = 7
  · rw [if_pos c]
    obtain ⟨h2, v2⟩ := S_take h1 c hI1
    have e2 := h2.1.1.2.2.2.2
    rw [e2]
    by_cases c2 : (a_take (a_take x).2).2.1 4 = 7
    · rw [if_pos c2, if_pos c2, v1, v2]
      have em : m_combined w (a_take (a_take x).2).1 (a_take x).1 = (if w = 4 then q_held ((a_take (a_take x).2).1 + (a_take x).1) else if w = 5 then q_held ((a_take (a_take x).2).1 - (a_take x).1) else if w = 6 then (if (a_take x).1 ≤ (a_take (a_take x).2).1 then 0 else 1) else if (a_take (a_take x).2).1 = (a_take x).1 then 1 else 0) := by
        unfold m_combined
        rw [q_held_eq, q_held_eq]
      rw [← em]
      exact S_put h2 c2 hI1.take _
    · rw [if_neg c2, if_neg c2]
      exact h2
  · rw [if_neg c]
    have c5 : (a_take x).2 = a_st x 5 := by
      unfold a_take at c ⊢
      by_cases c0 : m_isWithin (x.1 0) 1 8 = 0
      · rw [if_pos c0]; rfl
      · rw [if_neg c0] at c
        exact absurd ((upd_o x.1 (x.1 0 - 1) (show (4 : Nat) ≠ 0 by decide)).trans h7) c
    have ct : (a_take (a_st x 5)).2 = a_st x 5 := by
      unfold a_take at c5 ⊢
      by_cases c0 : m_isWithin (x.1 0) 1 8 = 0
      · have e0 : (a_st x 5).1 0 = x.1 0 := sr_o x 4 0 5 (by decide)
        rw [e0, if_pos c0]
        exact Prod.ext (upd_upd _ _ _ _) rfl
      · rw [if_neg c0] at c5
        have := congrArg (fun z : aM => z.1 4) c5
        have e5 : upd x.1 0 (x.1 0 - 1) 4 = 5 := this.trans (sr_s x 4 5)
        rw [upd_o _ _ (show (4 : Nat) ≠ 0 by decide), h7] at e5
        exact absurd e5 (by decide)
    rw [c5] at h1 ⊢
    rw [ct]
    have n5 : ¬ (a_st x 5).1 4 = 7 := by rw [show (a_st x 5).1 4 = 5 from sr_s x 4 5]; decide
    rw [if_neg n5]
    exact h1
theorem S_same {M0 : gCT} {r : Nat} {x : aM} {M : gCT} (h : aS M0 r x M) {k j : Nat} (hk : k ≠ 8 ∧ k ≠ 10 ∧ k ≠ 13) (hv : cs M 21 k j (M 21 k j) = M) : aS M0 r x (cs M 21 k j (M 21 k j)) := by rw [hv]; exact h
theorem S_store {M0 : gCT} {r : Nat} {x : aM} {M : gCT} (h : aS M0 r x M) (h7 : x.1 4 = 7) (hI : aI x) {a : Int32} (ha : a = nI a.toNatClampNeg ∧ a.toNatClampNeg < 8) : aS M0 r (a_store x a) (q_moves M r 3 a) := by
  obtain ⟨h1, v1⟩ := S_take h h7 hI
  have e1 := h1.1.1.2.2.2.2
  have hq : q_moves M r 3 a = cs (q_takes M r).2 21 21 (8 * r + a.toNatClampNeg) (if (q_takes M r).2 21 24 r = 7 then (q_takes M r).1 else (q_takes M r).2 21 21 (8 * r + a.toNatClampNeg)) := by
    unfold q_moves
    rw [if_pos rfl]
  rw [hq, e1, v1]
  unfold a_store
  have hw : ¬ m_isWithin a 0 7 = 0 := by
    have : ∀ k : Nat, k < 8 → ¬ m_isWithin (nI k) 0 7 = 0 := by decide
    rw [ha.1]
    exact this _ ha.2
  by_cases c : (a_take x).2.1 4 = 7
  · rw [if_pos c, if_pos c, if_neg hw]
    have hm := h1.qm (Or.inl c)
    exact aS.mk (h1.1.slot ha.2 _) (Or.inl c) (qm_cs hm _ _ (by decide))
  · rw [if_neg c, if_neg c, cs_id _ _ _ _ rfl]
    exact h1
theorem S_jz {M0 : gCT} {r : Nat} {x : aM} {M : gCT} (h : aS M0 r x M) (h7 : x.1 4 = 7) (hI : aI x) (a : Int32) : aS M0 r (a_jz x a) (q_moves M r 9 a) := by
  obtain ⟨h1, v1⟩ := S_take h h7 hI
  have e1 := h1.1.1.2.2.2.2
  have hq : q_moves M r 9 a = cs (q_takes M r).2 21 18 r (if (q_takes M r).2 21 24 r = 7 then (if (q_takes M r).1 = 0 then a else (q_takes M r).2 21 18 r) else (q_takes M r).2 21 18 r) := by
    unfold q_moves
    rw [if_neg (by decide), if_pos rfl]
  rw [hq, e1, v1]
  unfold a_jz
  by_cases c : (a_take x).2.1 4 = 7
  · rw [if_pos c, if_pos c]
    by_cases c0 : (a_take x).1 = 0
    · rw [if_pos c0, if_pos c0]
      have hm := h1.qm (Or.inl c)
      exact aS.mk (h1.1.place a) (Or.inl ((sr_o (a_take x).2 1 4 a (by decide)).trans c)) (qm_cs hm _ _ (by decide))
    · rw [if_neg c0, if_neg c0, cs_id _ _ _ _ rfl]
      exact h1
  · rw [if_neg c, if_neg c, cs_id _ _ _ _ rfl]
    exact h1
theorem S_jump {M0 : gCT} {r : Nat} {x : aM} {M : gCT} (h : aS M0 r x M) (h7 : x.1 4 = 7) (a : Int32) : aS M0 r (upd x.1 1 a, x.2) (q_moves M r 8 a) := by
  have hq : q_moves M r 8 a = cs M 21 18 r a := by
    unfold q_moves
    rw [if_neg (by decide), if_neg (by decide), if_pos rfl]
  rw [hq]
  exact aS.mk (h.1.place a) (Or.inl ((sr_o x 1 4 a (by decide)).trans h7)) (qm_cs (h.qm (Or.inl h7)) _ _ (by decide))
theorem S_bonus {M0 : gCT} {r : Nat} {x : aM} {M : gCT} (h : aS M0 r x M) (h7 : x.1 4 = 7) (a : Int32) : aS M0 r (upd x.1 3 (x.1 3 + a), x.2) (q_moves M r 10 a) := by
  have hq : q_moves M r 10 a = cs M 21 22 r (M 21 22 r + a) := by
    unfold q_moves
    rw [if_neg (by decide), if_neg (by decide), if_neg (by decide), if_pos rfl]
  rw [hq, h.1.1.2.2.2.1]
  exact aS.mk (h.1.bonus _) (Or.inl ((sr_o x 3 4 _ (by decide)).trans h7)) (qm_cs (h.qm (Or.inl h7)) _ _ (by decide))
/-- the gates: all, or none -/
def gOpen (M0 : gCT) (r : Nat) (x : aM) : Prop := (M0 21 10 (q_panelOf M0 r).1.toNatClampNeg < M0 21 9 (q_panelOf M0 r).1.toNatClampNeg ↔ 0 < x.1 7)
theorem S_gate {M0 : gCT} {r : Nat} {x : aM} {M : gCT} (h : aS M0 r x M) (h7 : x.1 4 = 7) (hg : gOpen M0 r x) (e : Bool) : aS M0 r (a_st (a_gate x).2 (if (a_gate x).1 = 0 then 3 else if e then 2 else 7)) (q_finishes M r (if e then 1 else 0)) := by
  have hm := h.qm (Or.inl h7)
  have e16 : M 21 16 = M0 21 16 := h.1.fr21 (by decide)
  have e15 : M 21 15 = M0 21 15 := h.1.fr21 (by decide)
  have e9 : M 21 9 = M0 21 9 := h.1.fr21 (by decide)
  have ep : (q_panelOf M r).1 = (q_panelOf M0 r).1 := by
    unfold q_panelOf
    simp only [e16, e15]
  have e10 := hm.2.2.1
  by_cases c : 0 < x.1 7
  · have hlt := hg.mpr c
    have gx : a_gate x = (1, upd (upd x.1 7 (x.1 7 - 1)) 6 (x.1 6 + 1), x.2) := if_pos c
    -- the machine's own numbers of the gates aren't the reference's
    have hR : aR M0 r (upd (upd x.1 7 (x.1 7 - 1)) 6 (x.1 6 + 1), x.2) M := by
      have er : ∀ i : Nat, i ≠ 6 → i ≠ 7 → upd (upd x.1 7 (x.1 7 - 1)) 6 (x.1 6 + 1) i = x.1 i := fun i h6 h7 => (upd_o _ _ h6).trans (upd_o _ _ h7)
      obtain ⟨⟨h20, h18, h23, h22, h24⟩, h25, hsl, has, hst, hfr⟩ := h.1
      refine ⟨⟨?_, ?_, ?_, ?_, ?_⟩, fun hz => ?_, hsl, has, fun j hj hjh => ?_, hfr⟩
      · exact h20.trans (er 0 (by decide) (by decide)).symm
      · exact h18.trans (er 1 (by decide) (by decide)).symm
      · exact h23.trans (er 2 (by decide) (by decide)).symm
      · exact h22.trans (er 3 (by decide) (by decide)).symm
      · exact h24.trans (er 4 (by decide) (by decide)).symm
      · exact (h25 ((er 4 (by decide) (by decide)).symm.trans hz)).trans (er 5 (by decide) (by decide)).symm
      · exact hst j hj (by rw [← er 0 (by decide) (by decide)]; exact hjh)
    have x4 : (upd (upd x.1 7 (x.1 7 - 1)) 6 (x.1 6 + 1)) 4 = 7 := ((upd_o _ _ (by decide)).trans (upd_o _ _ (by decide))).trans h7
    have x3 : (upd (upd x.1 7 (x.1 7 - 1)) 6 (x.1 6 + 1)) 3 = x.1 3 := (upd_o _ _ (by decide)).trans (upd_o _ _ (by decide))
    rw [gx]
    cases e with
    | false =>
      have hq : q_finishes M r 0 = M := by
        unfold q_finishes
        dsimp only
        rw [ep, e10, e9, if_pos hlt, if_pos rfl]
      show aS M0 r (a_st (upd (upd x.1 7 (x.1 7 - 1)) 6 (x.1 6 + 1), x.2) (if (1 : Int32) = 0 then 3 else 7)) (q_finishes M r 0)
      rw [hq, if_neg (by decide)]
      have es : a_st (upd (upd x.1 7 (x.1 7 - 1)) 6 (x.1 6 + 1), x.2) 7 = (upd (upd x.1 7 (x.1 7 - 1)) 6 (x.1 6 + 1), x.2) := Prod.ext (upd_id _ _ x4) rfl
      rw [es]
      exact aS.mk hR (Or.inl x4) hm
    | true =>
      show aS M0 r (a_st (upd (upd x.1 7 (x.1 7 - 1)) 6 (x.1 6 + 1), x.2) (if (1 : Int32) = 0 then 3 else 2)) (q_finishes M r 1)
      rw [if_neg (by decide)]
      have e8 := hm.2.1
      have e13 := hm.2.2.2
      have e22 : M 21 22 r = x.1 3 := h.1.1.2.2.2.1
      have hq : q_finishes M r 1 = cs (cs (cs (cs M 21 10 (q_panelOf M0 r).1.toNatClampNeg (M0 21 10 (q_panelOf M0 r).1.toNatClampNeg + 1)) 21 8 (M0 21 16 r).toNatClampNeg (M0 21 8 (M0 21 16 r).toNatClampNeg - (if M0 21 8 (M0 21 16 r).toNatClampNeg ≤ x.1 3 then M0 21 8 (M0 21 16 r).toNatClampNeg else x.1 3))) 21 13 (M0 21 15 r).toNatClampNeg (M0 21 13 (M0 21 15 r).toNatClampNeg + (if M0 21 8 (M0 21 16 r).toNatClampNeg ≤ x.1 3 then M0 21 8 (M0 21 16 r).toNatClampNeg else x.1 3))) 21 24 r 2 := by
        unfold q_finishes
        dsimp only
        rw [ep, e10, e9, if_pos hlt, if_neg (by decide), e8, e13, e16, e15, e22]
        unfold q_ends
        rw [if_neg (by decide), if_neg (by decide)]
      rw [hq]
      have hR2 := (((hR.mny (κ := 21) (n := 10) (j := (q_panelOf M0 r).1.toNatClampNeg) (M0 21 10 (q_panelOf M0 r).1.toNatClampNeg + 1) (Or.inr ⟨rfl, Or.inr (Or.inl rfl)⟩)).mny (κ := 21) (n := 8) (j := (M0 21 16 r).toNatClampNeg) (M0 21 8 (M0 21 16 r).toNatClampNeg - (if M0 21 8 (M0 21 16 r).toNatClampNeg ≤ x.1 3 then M0 21 8 (M0 21 16 r).toNatClampNeg else x.1 3)) (Or.inr ⟨rfl, Or.inl rfl⟩)).mny (κ := 21) (n := 13) (j := (M0 21 15 r).toNatClampNeg) (M0 21 13 (M0 21 15 r).toNatClampNeg + (if M0 21 8 (M0 21 16 r).toNatClampNeg ≤ x.1 3 then M0 21 8 (M0 21 16 r).toNatClampNeg else x.1 3)) (Or.inr ⟨rfl, Or.inr (Or.inr rfl)⟩)).state 2 (by decide)
      refine ⟨hR2, ?_⟩
      have s4 : (a_st (upd (upd x.1 7 (x.1 7 - 1)) 6 (x.1 6 + 1), x.2) 2).1 4 = 2 := sr_s _ 4 2
      have s3 : (a_st (upd (upd x.1 7 (x.1 7 - 1)) 6 (x.1 6 + 1), x.2) 2).1 3 = x.1 3 := (sr_o _ 4 3 2 (by decide)).trans x3
      rw [s4, s3]
      unfold aMon
      rw [if_neg (show ¬ ((2 : Int32) = 5 ∨ (2 : Int32) = 4) by decide), if_pos (show (2 : Int32) = 2 from rfl)]
      refine Prod.ext ?_ (Prod.ext ?_ (Prod.ext ?_ ?_))
      · dsimp only
        rw [cs_rd, if_neg (by omega), cs_rd, if_neg (by omega), cs_rd, if_neg (by omega), cs_rd, if_neg (by omega)]
        exact hm.1
      · dsimp only
        funext k
        rw [cs_rd, if_neg (by omega), cs_rd, if_neg (by omega), cs_rd]
        by_cases hk : k = (M0 21 16 r).toNatClampNeg
        · rw [if_pos ⟨rfl, rfl, hk⟩, hk, upd_s]
        · rw [if_neg (fun e => hk e.2.2), upd_o _ _ hk, cs_rd, if_neg (by omega), e8]
      · dsimp only
        funext k
        rw [cs_rd, if_neg (by omega), cs_rd, if_neg (by omega), cs_rd, if_neg (by omega), cs_rd]
        by_cases hk : k = (q_panelOf M0 r).1.toNatClampNeg
        · rw [if_pos ⟨rfl, rfl, hk⟩, hk, upd_s]
        · rw [if_neg (fun e => hk e.2.2), upd_o _ _ hk, e10]
      · dsimp only
        funext k
        rw [cs_rd, if_neg (by omega), cs_rd]
        by_cases hk : k = (M0 21 15 r).toNatClampNeg
        · rw [if_pos ⟨rfl, rfl, hk⟩, hk, upd_s]
        · rw [if_neg (fun e => hk e.2.2), upd_o _ _ hk, cs_rd, if_neg (by omega), cs_rd, if_neg (by omega), e13]
  · have hnl : ¬ M0 21 10 (q_panelOf M0 r).1.toNatClampNeg < M0 21 9 (q_panelOf M0 r).1.toNatClampNeg := fun z => c (hg.mp z)
    have gx : a_gate x = (0, x) := if_neg c
    have hq : ∀ z, q_finishes M r z = q_ends M r 3 := by
      intro z
      unfold q_finishes
      dsimp only
      rw [ep, e10, e9, if_neg hnl]
    rw [gx, hq]
    exact S_end h h7 (Or.inr (Or.inr rfl))

theorem s_fund {n : Nat} {C M : gCT} (hI : gInv C) (h : sRel n C M) (x y : Int32) : sOk n C (m_fund C x y).1 (w_out C (m_fund C x y)) (q_fund M x y) := by
  unfold m_fund q_fund
  dsimp only
  rw [isW_eq]
  by_cases c : q_isBelow x 4 = 0
  · rw [formNo c, if_neg n1_ne, thr1 _ _ c, goes_no one_ne]
    exact sOk_no 1 (by decide) h
  · obtain ⟨-, hx⟩ := q_isBelow_of (N := 4) rfl (by decide) c
    rw [formYes c, if_pos rfl]
    by_cases c2 : m_isWithin y 1 100000 = 0
    · rw [if_pos c2, thr2 _ c c2, goes_no (by decide)]
      exact sOk_no 2 (by decide) h
    · rw [if_neg c2, thr0 c c2 one_ne, goes_yes]
      have hF := h.2.1 _ hx
      rw [hF.1.2.2]
      refine sOk_yes (by rw [(gSx.rf.cs1 rfl : gSx C (cs C 4 x.toNatClampNeg 2 (M 21 8 x.toNatClampNeg + y))).rc]; exact hI.1) ?_ (thr_3 _ _ _ _) (cs_s _ _ _ _ _)
      refine (sRel_form hI (fun κ hk => cs_k _ _ _ _ (by omega)) (fun f => by rw [cs_rd, if_neg (by omega)]) (fun k hk => by rw [cs_n _ _ _ _ (by omega), cs_k _ _ _ _ (by decide)]) (by rw [cs_rd, if_neg (by omega), cs_o _ _ _ _ (by decide)]) (by rw [cs_rd, if_neg (by omega), cs_o _ _ _ _ (by decide)]) (fun f hf => ?_) (fun q hq => ?_) ?_ h).up
      · have hF := h.2.1 f hf
        have eV : gVn (cs C 4 x.toNatClampNeg 2 (M 21 8 x.toNatClampNeg + y)) f = gVn C f := by unfold gVn; rw [cs_rd, if_neg (by omega)]
        unfold sF sCd at hF ⊢
        simp only [eV, cs_rd] at hF ⊢
        simp at hF ⊢
        obtain ⟨⟨a1, a2, a3⟩, b1, b2⟩ := hF
        refine ⟨⟨a1, a2, ?_⟩, b1, b2⟩
        split
        · rfl
        · exact a3
      · simp only [cs_rd]
        simp
        exact h.2.2.1 q hq
      · simp only [cs_rd]
        simp
        exact h.2.2.2.1
theorem s_setQuota {n : Nat} {C M : gCT} (hI : gInv C) (h : sRel n C M) (x y z : Int32) : sOk n C (m_setQuota C x y z).1 (w_out C (m_setQuota C x y z)) (q_setQuota M x y z) := by
  unfold m_setQuota q_setQuota
  dsimp only
  rw [isW_eq, isB4]
  by_cases c : q_isBelow x 4 = 0
  · rw [formNo c, if_neg n1_ne, and2_no (Or.inl c), thr1 _ _ rfl, goes_no one_ne]
    exact sOk_no 1 (by decide) h
  · obtain ⟨-, hx⟩ := q_isBelow_of (N := 4) rfl (by decide) c
    rw [formYes c, if_pos rfl]
    by_cases c1 : q_isBelow y 4 = 0
    · rw [if_pos c1, and2_no (Or.inr c1), thr1 _ _ rfl, goes_no one_ne]
      exact sOk_no 1 (by decide) h
    obtain ⟨-, hy⟩ := q_isBelow_of (N := 4) rfl (by decide) c1
    rw [if_neg c1, and2_yes c c1]
    by_cases c2 : m_isWithin z 0 20 = 0
    · rw [if_pos c2, thr2 _ one_ne c2, goes_no (by decide)]
      exact sOk_no 2 (by decide) h
    · rw [if_neg c2, thr0 one_ne c2 one_ne, goes_yes]
      have hF := h.2.1 _ hx
      refine sOk_yes (by rw [(gSx.rf.cs1 rfl : gSx C (cs C 5 x.toNatClampNeg y.toNatClampNeg z)).rc]; exact hI.1) ?_ (thr_3 _ _ _ _) (hF.2.1 _ hy).1
      refine (sRel_form hI (fun κ hk => cs_k _ _ _ _ (by omega)) (fun f => by rw [cs_rd, if_neg (by omega)]) (fun k hk => by rw [cs_n _ _ _ _ (by omega), cs_k _ _ _ _ (by decide)]) (by rw [cs_rd, if_neg (by omega), cs_o _ _ _ _ (by decide)]) (by rw [cs_rd, if_neg (by omega), cs_o _ _ _ _ (by decide)]) (fun f hf => ?_) (fun q hq => ?_) ?_ h).up
      · have hF := h.2.1 f hf
        have eV : gVn (cs C 5 x.toNatClampNeg y.toNatClampNeg z) f = gVn C f := by unfold gVn; rw [cs_rd, if_neg (by omega)]
        unfold sF sCd at hF ⊢
        simp only [eV, cs_rd] at hF ⊢
        simp at hF ⊢
        obtain ⟨a, b1, b2⟩ := hF
        refine ⟨a, fun p hp => ⟨?_, (b1 p hp).2⟩, b2⟩
        by_cases e : f = x.toNatClampNeg ∧ p = y.toNatClampNeg
        · rw [if_pos e, if_pos (by omega)]
        · rw [if_neg e, if_neg (by omega)]
          exact (b1 p hp).1
      · simp only [cs_rd]
        simp
        exact h.2.2.1 q hq
      · simp only [cs_rd]
        simp
        exact h.2.2.2.1
theorem s_setPrice {n : Nat} {C M : gCT} (hI : gInv C) (h : sRel n C M) (x y : Int32) : sOk n C (m_setPrice C x y).1 (w_out C (m_setPrice C x y)) (q_setPrice M x y) := by
  unfold m_setPrice q_setPrice
  dsimp only
  rw [isW_eq, isB16]
  by_cases c : q_isBelow x 16 = 0
  · rw [if_pos c, thr1 _ _ c, goes_no one_ne]
    exact sOk_no 1 (by decide) h
  · obtain ⟨-, hx⟩ := q_isBelow_of (N := 16) rfl (by decide) c
    rw [if_neg c]
    by_cases c2 : m_isWithin y 0 1000 = 0
    · rw [if_pos c2, thr2 _ c c2, goes_no (by decide)]
      exact sOk_no 2 (by decide) h
    · rw [if_neg c2, thr0 c c2 one_ne, goes_yes]
      refine sOk_yes (by rw [(gSx.rf.cs1 rfl : gSx C (cs C 17 0 x.toNatClampNeg y)).rc]; exact hI.1) ?_ (thr_3 _ _ _ _) (h.2.2.1 _ hx).1
      refine (sRel_form hI (fun κ hk => cs_k _ _ _ _ (by omega)) (fun f => by rw [cs_rd, if_neg (by omega)]) (fun k hk => by rw [cs_n _ _ _ _ (by omega), cs_k _ _ _ _ (by decide)]) (by rw [cs_rd, if_neg (by omega), cs_o _ _ _ _ (by decide)]) (by rw [cs_rd, if_neg (by omega), cs_o _ _ _ _ (by decide)]) (fun f hf => ?_) (fun q hq => ?_) ?_ h).up
      · have hF := h.2.1 f hf
        have eV : gVn (cs C 17 0 x.toNatClampNeg y) f = gVn C f := by unfold gVn; rw [cs_rd, if_neg (by omega)]
        unfold sF sCd at hF ⊢
        simp only [eV, cs_rd] at hF ⊢
        simp at hF ⊢
        exact hF
      · have hq3 := h.2.2.1 q hq
        simp only [cs_rd]
        simp
        refine ⟨?_, hq3.2⟩
        split
        · rfl
        · exact hq3.1
      · simp only [cs_rd]
        simp
        exact h.2.2.2.1
theorem s_reword {n : Nat} {C M : gCT} (hI : gInv C) (h : sRel n C M) (x : Int32) : sOk n C (m_reword C x).1 (w_out C (m_reword C x)) (q_reword M x) := by
  unfold m_reword q_reword
  dsimp only
  rw [isB16]
  by_cases c : q_isBelow x 16 = 0
  · rw [if_pos c, thr1 _ _ c, goes_no one_ne]
    exact sOk_no 1 (by decide) h
  · obtain ⟨-, hx⟩ := q_isBelow_of (N := 16) rfl (by decide) c
    rw [if_neg c, thr0 c one_ne one_ne, goes_yes, (h.2.2.1 _ hx).2.1]
    refine sOk_yes (by rw [(gSx.rf.cs1 rfl : gSx C (cs C 18 0 x.toNatClampNeg (M 21 12 x.toNatClampNeg + 1))).rc]; exact hI.1) ?_ (thr_3 _ _ _ _) (cs_s _ _ _ _ _)
    refine (sRel_form hI (fun κ hk => cs_k _ _ _ _ (by omega)) (fun f => by rw [cs_rd, if_neg (by omega)]) (fun k hk => by rw [cs_n _ _ _ _ (by omega), cs_k _ _ _ _ (by decide)]) (by rw [cs_rd, if_neg (by omega), cs_o _ _ _ _ (by decide)]) (by rw [cs_rd, if_neg (by omega), cs_o _ _ _ _ (by decide)]) (fun f hf => ?_) (fun q hq => ?_) ?_ h).up
    · have hF := h.2.1 f hf
      have eV : gVn (cs C 18 0 x.toNatClampNeg (M 21 12 x.toNatClampNeg + 1)) f = gVn C f := by unfold gVn; rw [cs_rd, if_neg (by omega)]
      unfold sF sCd at hF ⊢
      simp only [eV, cs_rd] at hF ⊢
      simp at hF ⊢
      exact hF
    · have hq3 := h.2.2.1 q hq
      simp only [cs_rd]
      simp
      refine ⟨hq3.1, ?_, hq3.2.2⟩
      split
      · rfl
      · exact hq3.2.1
    · simp only [cs_rd]
      simp
      exact h.2.2.2.1
/-! a run's state alone -/
theorem rLf_24 (M : gCT) {k : Nat} (hk : k < 30) (j : Nat) (v : Int32) (r a : Nat) : rLf (cs M 21 k j v) r 0 a = rLf M r 0 a := rLf_cong a 0 (fun i _ => by
  unfold rT
  rw [cs_n _ _ _ _ (by omega), cs_n _ _ _ _ (by omega), cs_n _ _ _ _ (by omega), cs_n _ _ _ _ (by omega)]
  exact ⟨rfl, rfl⟩)
theorem rSm.cs {M : gCT} {k j r : Nat} {v : Int32} (h : (k = 24 ∨ k = 26) ∧ j ≠ r) : rSm M (cs M 21 k j v) r :=
  ⟨fun i _ => by rw [cs_rd, if_neg (by omega)], fun i _ => by rw [cs_rd, if_neg (by omega), cs_rd, if_neg (by omega)]; exact ⟨rfl, rfl⟩, fun i _ => by rw [cs_rd, if_neg (by omega), cs_rd, if_neg (by omega)]; exact ⟨rfl, rfl⟩⟩
theorem sRel_state {n : Nat} {C M : gCT} (hI : gInv C) {r : Nat} (hr : r < gRc C) (h4 : C 7 r 4 = 0) {w : Int32} (hw : w = 0 ∨ w = 1 ∨ w = 6) (h : sRel n C M) : sRel n (cs C 11 r 4 w) (cs M 21 24 r w) := by
  have hx : gSx C (cs C 11 r 4 w) := gSx.rf.cs1 rfl
  obtain ⟨⟨a, k1, k2, k3, k4⟩, k5, k6, k7, k8, k9⟩ := h
  have eN : ∀ k, k ≠ 24 → cs M 21 24 r w 21 k = M 21 k := fun k hk => cs_n _ _ _ _ hk
  have eD : ∀ κ, κ ≠ 11 → cs C 11 r 4 w κ = C κ := fun κ hk => cs_k _ _ _ _ hk
  have hr24 := hI.1
  refine ⟨⟨a, k1, ?_, ?_, fun r' hr' => ?_⟩, fun f hf => ?_, ?_, ?_, ?_, ?_⟩
  · rw [cs_rd, if_neg (by omega)]; exact k2
  · rw [hx.rc, eN 33 (by decide), eN 30 (by decide)]; exact k3
  · rw [hx.rc] at hr'
    by_cases e : r' = r
    · subst e
      have hU := k4 r' hr'
      have eE : envC (cs C 11 r' 4 w) r' = envC C r' := envC_cong (by rw [eD 12 (by decide)]) (by rw [eD 2 (by decide)]) (eD 13 (by decide)) (cs_o _ _ _ _ (by decide)) (eD 15 (by decide)) (eD 16 (by decide)) (eD 14 (by decide))
      have eL : ∀ m, cLf (cs C 11 r' 4 w) r' 0 m = cLf C r' 0 m := fun m => cLf_cong m 0 (fun j _ => by unfold cT; rw [eD 13 (by decide)])
      have eG : gCnt (cs C 11 r' 4 w) r' = gCnt C r' := by unfold gCnt; rw [eD 2 (by decide)]
      have eS : sCt (cs C 11 r' 4 w) r' = sCt C r' := by unfold sCt; rw [eG, eL, eD 12 (by decide)]
      have eA : aGet (cs C 11 r' 4 w) r' = aGet C r' := by unfold aGet; rw [eD 7 (by decide), eD 8 (by decide), eD 9 (by decide), eD 10 (by decide)]
      have eV : gVn (cs C 11 r' 4 w) = gVn C := hx.vn
      unfold sU sMa at hU ⊢
      rw [eE, eG, eL, eS, eA, eV, rLf_24 M (by decide), eD 7 (by decide), eD 8 (by decide), eD 9 (by decide), eD 10 (by decide), eD 12 (by decide), cs_o C 11 r' w (show (6 : Nat) ≠ 4 by decide), cs_o C 11 r' w (show (2 : Nat) ≠ 4 by decide), cs_o C 11 r' w (show (7 : Nat) ≠ 4 by decide), cs_o C 11 r' w (show (0 : Nat) ≠ 4 by decide), cs_o C 11 r' w (show (1 : Nat) ≠ 4 by decide), cs_o C 11 r' w (show (5 : Nat) ≠ 4 by decide), cs_o C 11 r' w (show (3 : Nat) ≠ 4 by decide), cs_s, eN 16 (by decide), eN 17 (by decide), eN 15 (by decide), eN 26 (by decide), eN 20 (by decide), eN 18 (by decide), eN 23 (by decide), eN 22 (by decide), eN 25 (by decide), eN 21 (by decide), eN 28 (by decide), eN 19 (by decide), eN 27 (by decide), cs_s]
      obtain ⟨u1, u2, ⟨u3, u4, u5⟩, u6⟩ := hU
      exact ⟨u1, u2, ⟨u3, rfl, Or.inl ⟨by rcases hw with rfl | rfl | rfl <;> simp, h4⟩⟩, u6⟩
    · refine sU_gen hI hr' (fun f => by rw [hx.vn]; exact Nat.le_refl _) ?_ (fun f w' _ _ => by rw [eD 15 (by decide), eD 16 (by decide), eD 14 (by decide)]; exact ⟨rfl, rfl, rfl⟩) (rSm.cs ⟨Or.inl rfl, fun z => e z.symm⟩) (rLf_24 M (by decide) _ _ _ _) (k4 r' hr')
      unfold cSm cT
      rw [eD 12 (by decide), eD 2 (by decide), eD 13 (by decide), eD 7 (by decide), eD 8 (by decide), eD 9 (by decide), eD 10 (by decide)]
      exact ⟨cs_n _ _ _ _ e, rfl, rfl, fun _ _ => rfl, rfl, rfl, rfl, rfl⟩
  · have := k5 f hf
    unfold sF sCd at this ⊢
    rw [hx.vn, eD 4 (by decide), eD 5 (by decide), eD 6 (by decide), eD 14 (by decide), eD 15 (by decide), eD 16 (by decide), eN 6 (by decide), eN 7 (by decide), eN 8 (by decide), eN 9 (by decide), eN 10 (by decide), eN 2 (by decide), eN 0 (by decide), eN (0 + 1) (by decide), eN 5 (by decide), eN 3 (by decide), eN (3 + 1) (by decide)]
    exact this
  · rw [eD 17 (by decide), eD 18 (by decide), eD 19 (by decide), eN 11 (by decide), eN 12 (by decide), eN 13 (by decide)]
    exact k6
  · rw [eD 0 (by decide), cs_rd, if_neg (by omega)]; exact k7
  · rw [eD 2 (by decide), cs_rd, if_neg (by omega)]; exact k8
  · rw [hx.rc, eN 26 (by decide)]; exact k9

/-! ===== what the calls leave holds what calls ask for ===== -/
theorem m_begin_inv {C M : gCT} {n : Nat} (hI : gInv C) (h : sRel n C M) (x y : Int32) : gInv (m_begin C x y).2.2 := by
  unfold m_begin
  dsimp only
  by_cases c1 : m_isWithin x 0 15 = 0
  · rw [if_pos c1]; exact hI
  rw [if_neg c1]
  by_cases c2 : m_formAt C y = 0
  rotate_left
  · rw [if_neg c2]; exact hI
  rw [if_pos c2]
  have hy : y.toNatClampNeg < 4 := m_formAt_lt _ c2
  by_cases c3 : C 4 y.toNatClampNeg 0 = 0
  · rw [if_pos c3]; exact hI
  rw [if_neg c3]
  by_cases c4 : (m_hasBegun C x y.toNatClampNeg).1 = 0
  rotate_left
  · rw [if_neg c4]; exact hI
  rw [if_pos c4]
  by_cases c5 : C 2 24 1 < 24
  rotate_left
  · rw [if_neg c5]; exact hI
  rw [if_pos c5]
  have hrc := bg_rc hI c5
  have h1 := m_begun_inv x hI hrc hy
  exact (m_go_str gSx.rf _).inv (m_startOver_inv h1 (by rw [m_begun_rc C x _ hrc]; omega))
theorem m_answer_inv {C : gCT} (hI : gInv C) (x y : Int32) : gInv (m_answer C x y).2.2 := by
  unfold m_answer
  dsimp only
  by_cases c1 : m_runAt C x = 0
  rotate_left
  · rw [if_neg c1]; exact hI
  rw [if_pos c1]
  by_cases c2 : m_isWithin y 0 9 = 0
  · rw [if_pos c2]; exact hI
  rw [if_neg c2]
  by_cases c3 : C 11 x.toNatClampNeg 4 = 0
  rotate_left
  · rw [if_neg c3]; exact hI
  rw [if_pos c3]
  by_cases c4 : C 2 x.toNatClampNeg 1 < 512
  rotate_left
  · rw [if_neg c4]; exact hI
  rw [if_pos c4]
  by_cases c5 : m_at (C 17 0) 16 (C 7 x.toNatClampNeg 5) ≤ C 4 ((C 11 x.toNatClampNeg 6).toNatClampNeg) 2
  rotate_left
  · rw [if_neg c5]; exact hI
  rw [if_pos c5]
  have hr := m_runAt_lt hI.runs c1
  have h1 := m_keepAnswer_inv y hI hr (an_cnt hI hr c4)
  exact (m_go_str (m_takeAnswer_str (m_pay2_str (gSx.rf.cs1 rfl) _ _) _ _) _).inv h1
theorem w_out_inv {C : gCT} {r : Nat × Int32 × gCT} (hI : gInv C) (h : gInv r.2.2) : gInv (w_out C r) := by
  unfold w_out
  split
  · exact (gSx.rf.cs1 rfl : gSx r.2.2 (cs r.2.2 22 0 0 r.2.1)).inv h
  · exact hI
theorem w_outv_inv {C : gCT} {r : Nat × Int32 × gCT} (hI : gInv C) (h : gInv r.2.2) : gInv (w_outv C r) := by
  unfold w_outv
  split
  · exact h
  · exact hI
theorem w_outw_inv {C : gCT} {r : Nat × Int32 × gCT} (hI : gInv C) (h : gInv r.2.2) : gInv (w_outw C r) := by
  unfold w_outw
  split
  · exact (gSx.rf.cs1 rfl : gSx r.2.2 (cs r.2.2 22 0 0 (if r.2.1 = 0 then 0 else 1))).inv h
  · exact hI
theorem sRel.ask {n : Nat} {C M : gCT} (hI : gInv C) (h : sRel n C M) : gAsk M := by
  intro r hr h0
  rw [← h.rc] at hr
  obtain ⟨⟨a, -, -, -, k4⟩, -⟩ := h
  have hU := k4 r hr
  obtain ⟨-, e4, hs⟩ := hU.2.2.1
  have h7 : C 7 r 4 = 0 := by
    rcases hs with ⟨-, h7⟩ | ⟨h4, h7⟩
    · exact h7
    · rw [← h4, e4]; exact h0
  obtain ⟨q, hq, q5⟩ := hU.2.2.2.2.2.2.1.2.2 h7
  exact ⟨q, hq, (hU.2.2.2.1.2.1 h7).trans q5⟩
theorem sRel.ver {n : Nat} {C M : gCT} (hI : gInv C) (h : sRel n C M) : gVer M := by
  intro r hr
  rw [← h.rc] at hr
  obtain ⟨⟨a, -, -, -, k4⟩, k5, -⟩ := h
  obtain ⟨f, v, k1, -, k3, kv, -⟩ := (k4 r hr).1
  have hvn := hI.vn k1
  rw [k3, nI_clamp (by omega), ← (k5 f k1).1.1, hvn.2.1, nI_clamp (by omega)]
  omega
theorem sRel.count {n : Nat} {C M : gCT} (hn : n < 512) (h : sRel n C M) : (M 20 0 2).toNatClampNeg < 512 := by
  obtain ⟨⟨a, k1, k2, -⟩, -⟩ := h
  rw [k2, nI_clamp (by omega)]
  omega

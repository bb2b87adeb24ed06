/-! ===== publish, on both sides ===== -/
theorem q_publish_at {n1 : Int32} {f fr j : Nat} (hf : n1.toNatClampNeg = f) (hf4 : f < 4) (hfr : fr < 24) (hj : j ≤ 24) : ∀ (n0 : Nat) (D : gCT) (k : Nat), D 21 2 f = nI j → k ≤ j → j - k < n0 →
    ∃ P : gCT, q_publish_L n0 D n1 fr k = (D 21 6 f, cs (cs P 21 2 f 0) 21 6 f (D 21 6 f + 1)) ∧ (∀ κ n, ¬ (κ = 21 ∧ (n = 3 ∨ n = 4)) → P κ n = D κ n) ∧ (∀ i, (i < 24 * fr + k ∨ 24 * fr + j ≤ i) → P 21 3 i = D 21 3 i ∧ P 21 4 i = D 21 4 i) ∧ ∀ i, k ≤ i → i < j → P 21 3 (24 * fr + i) = D 21 0 (24 * f + i) ∧ P 21 4 (24 * fr + i) = D 21 1 (24 * f + i) := by
  intro n0
  induction n0 with
  | zero => intro D k _ _ h; omega
  | succ n0 ih =>
    intro D k h2 hk hn
    unfold q_publish_L
    dsimp only
    rw [hf, h2]
    by_cases c : j ≤ k
    · rw [if_pos ((nat_le rfl rfl (by omega) (by omega)).mpr c)]
      refine ⟨D, ?_, fun _ _ _ => rfl, fun _ _ => ⟨rfl, rfl⟩, fun i h1 h2 => by omega⟩
      have e : D 21 6 f + 1 - 1 = D 21 6 f := by rw [Int32.add_sub_cancel]
      rw [e]
    · rw [if_neg (fun z => c ((nat_le rfl rfl (by omega) (by omega)).mp z))]
      have hN : ∀ κ n, ¬ (κ = 21 ∧ (n = 3 ∨ n = 4)) → cs (cs D 21 3 (24 * fr + k) (D 21 0 (24 * f + k))) 21 4 (24 * fr + k) (D 21 1 (24 * f + k)) κ n = D κ n := by
        intro κ n h
        funext i
        rw [cs_rd, if_neg (by omega), cs_rd, if_neg (by omega)]
      obtain ⟨P, p1, p2, p3, p4⟩ := ih (cs (cs D 21 3 (24 * fr + k) (D 21 0 (24 * f + k))) 21 4 (24 * fr + k) (D 21 1 (24 * f + k))) (k + 1) (by rw [hN 21 2 (by omega)]; exact h2) (by omega) (by omega)
      rw [hN 21 6 (by omega)] at p1
      refine ⟨P, p1, fun κ n h => (p2 κ n h).trans (hN κ n h), fun i hi => ?_, fun i hi1 hi2 => ?_⟩
      · obtain ⟨a1, a2⟩ := p3 i (by omega)
        rw [a1, a2, cs_rd, if_neg (by omega), cs_rd, if_neg (by omega), cs_rd, if_neg (by omega), cs_rd, if_neg (by omega)]
        exact ⟨rfl, rfl⟩
      · by_cases e : i = k
        · subst e
          obtain ⟨a1, a2⟩ := p3 (24 * fr + i) (by omega)
          rw [a1, a2, cs_s, cs_rd, if_neg (by omega), cs_s]
          exact ⟨rfl, rfl⟩
        · obtain ⟨a1, a2⟩ := p4 i (by omega) hi2
          rw [a1, a2, hN 21 0 (by omega), hN 21 1 (by omega)]
          exact ⟨rfl, rfl⟩
theorem s_publish {n : Nat} {C M : gCT} (hI : gInv C) (hB : MBI M) (h : sRel n C M) (x : Int32) : sOk n C (w_two (m_publish C x).1) (w_out C (m_publish C x)) (q_publish M x) := by
  unfold m_publish q_publish
  dsimp only
  by_cases c : q_isBelow x 4 = 0
  · rw [formNo c, if_neg n1_ne, if_pos c, thr1 _ _ c, goes_no one_ne]
    exact sOk_no' 1 1 (by decide) (by decide) h
  obtain ⟨-, hx⟩ := q_isBelow_of (N := 4) rfl (by decide) c
  rw [formYes c, if_pos rfl, if_neg c]
  generalize hf : x.toNatClampNeg = f at hx ⊢
  obtain ⟨hv6, hv, j, hj, hjd⟩ := hI.vn hx
  have hF := h.2.1 _ hx
  obtain ⟨⟨f1, f1b⟩, f2, ⟨f3, f4⟩, f5⟩ := hF
  have eV : (C 4 f 0).toNatClampNeg = gVn C f := rfl
  have eM : M 21 2 f = nI j := f3.symm.trans hjd
  rw [eV, hjd, eM, ← f1, hv]
  by_cases c1 : j = 0
  · subst c1
    rw [if_pos (show nI 0 = 0 from rfl), if_pos (show nI 0 ≤ 0 by decide), thr2 _ c rfl, goes_no (by decide)]
    exact sOk_no' 3 2 (by decide) (by decide) h
  rw [if_neg (nI_ne0 (by omega) (by omega)), if_neg (show ¬ nI j ≤ 0 from fun z => c1 (by have := (nat_le (show nI j = nI j from rfl) (show (0 : Int32) = nI 0 from rfl) (by omega) (by decide)).mp z; omega))]
  by_cases c2 : gVn C f < 6
  rotate_left
  · rw [if_neg (fun z => c2 ((nat_lt rfl (show (6 : Int32) = nI 6 from rfl) (by omega) (by decide)).mp z)), if_pos ((nat_le (show (6 : Int32) = nI 6 from rfl) rfl (by decide) (by omega)).mpr (by omega)), thr2 _ c rfl, goes_no (by decide)]
    exact sOk_no' 3 2 (by decide) (by decide) h
  rw [if_pos ((nat_lt rfl (show (6 : Int32) = nI 6 from rfl) (by omega) (by decide)).mpr c2), if_neg (fun z => absurd ((nat_le (show (6 : Int32) = nI 6 from rfl) rfl (by decide) (by omega)).mp z) (by omega)), thr0 c one_ne one_ne, goes_yes, nI_clamp (by omega)]
  have hD0 : ∀ κ n, κ ≠ 21 → cs (cs M 20 0 3 0) 21 5 (6 * f + gVn C f) (nI j) κ n = cs M 20 0 3 0 κ n := fun κ n h => by rw [cs_k _ _ _ _ h]
  obtain ⟨P, p1, p2, p3, p4⟩ := q_publish_at (n1 := x) (f := f) (fr := 6 * f + gVn C f) (j := j) hf hx (by omega) hj 26 (cs (cs M 20 0 3 0) 21 5 (6 * f + gVn C f) (nI j)) 0 (by rw [cs_rd, if_neg (by omega), cs_k _ _ _ _ (by decide)]; exact eM) (Nat.zero_le _) (by omega)
  have e6 : cs (cs M 20 0 3 0) 21 5 (6 * f + gVn C f) (nI j) 21 6 f = nI (gVn C f) := by rw [cs_rd, if_neg (by omega), cs_k _ _ _ _ (by decide), ← f1, hv]
  rw [e6, nI_1] at p1
  rw [p1]
  have p3 : ∀ i, (i < 24 * (6 * f + gVn C f) ∨ 24 * (6 * f + gVn C f) + j ≤ i) → P 21 3 i = M 21 3 i ∧ P 21 4 i = M 21 4 i := by
    intro i hi
    have := p3 i (by omega)
    rwa [cs_rd, if_neg (by omega), cs_k _ _ _ _ (by decide), cs_rd, if_neg (by omega), cs_k _ _ _ _ (by decide)] at this
  have p4 : ∀ i, i < j → P 21 3 (24 * (6 * f + gVn C f) + i) = M 21 0 (24 * f + i) ∧ P 21 4 (24 * (6 * f + gVn C f) + i) = M 21 1 (24 * f + i) := by
    intro i hi
    have := p4 i (Nat.zero_le _) hi
    rwa [cs_rd, if_neg (by omega), cs_k _ _ _ _ (by decide), cs_rd, if_neg (by omega), cs_k _ _ _ _ (by decide)] at this
  have hP : ∀ κ n i, ¬ (κ = 21 ∧ (n = 3 ∨ n = 4)) → ¬ (κ = 21 ∧ n = 5 ∧ i = 6 * f + gVn C f) → ¬ (κ = 20 ∧ n = 0 ∧ i = 3) → P κ n i = M κ n i := by
    intro κ n i h1 h2 h3
    rw [p2 κ n h1, cs_rd, if_neg h2, cs_rd, if_neg h3]
  generalize hQ : cs (cs P 21 2 f 0) 21 6 f (nI (gVn C f + 1)) = Q
  have q1 : ∀ κ n i, ¬ (κ = 21 ∧ (n = 3 ∨ n = 4)) → ¬ (κ = 21 ∧ n = 5 ∧ i = 6 * f + gVn C f) → ¬ (κ = 20 ∧ n = 0 ∧ i = 3) → ¬ (κ = 21 ∧ n = 2 ∧ i = f) → ¬ (κ = 21 ∧ n = 6 ∧ i = f) → Q κ n i = M κ n i := by
    intro κ n i h1 h2 h3 h4 h5
    rw [← hQ, cs_rd, if_neg h5, cs_rd, if_neg h4, hP κ n i h1 h2 h3]
  have qr : ∀ n, n ≠ 2 → n ≠ 3 → n ≠ 4 → n ≠ 5 → n ≠ 6 → Q 21 n = M 21 n := fun n h2 h3 h4 h5 h6 => by
    funext i
    exact q1 21 n i (by omega) (by omega) (by omega) (by omega) (by omega)
  have q34 : Q 21 3 = P 21 3 ∧ Q 21 4 = P 21 4 := by
    refine ⟨?_, ?_⟩ <;> funext i <;> rw [← hQ, cs_rd, if_neg (by omega), cs_rd, if_neg (by omega)]
  have q5 : Q 21 5 (6 * f + gVn C f) = nI j := by rw [← hQ, cs_rd, if_neg (by omega), cs_rd, if_neg (by omega), p2 21 5 (by omega), cs_s]
  have q2 : Q 21 2 f = 0 := by rw [← hQ, cs_rd, if_neg (by omega), cs_s]
  have q6 : Q 21 6 f = nI (gVn C f + 1) := by rw [← hQ, cs_s]
  have qt : Q 20 0 3 = 0 := by rw [← hQ, cs_rd, if_neg (by omega), cs_rd, if_neg (by omega), p2 20 0 (by omega), cs_rd, if_neg (by omega), cs_s]
  have mvk : ∀ κ, κ ≠ 4 → κ ≠ 14 → κ ≠ 15 → κ ≠ 16 → m_makeVersion C f κ = C κ := fun κ h1 h2 h3 h4 => m_mv_k C f h1 h2 h3 h4
  have mvc : ∀ g w, g < 4 → w ≤ gVn C g → 8 * g + w + 1 ≠ 8 * f + gVn C f + 2 := by
    intro g w hg hw
    have := (hI.vn hg).1
    by_cases e : g = f
    · subst e; omega
    · omega
  have mvd : ∀ κ g w, (κ = 14 ∨ κ = 15 ∨ κ = 16) → g < 4 → w ≤ gVn C g → m_makeVersion C f κ (8 * g + w + 1) = C κ (8 * g + w + 1) := fun κ g w hk hg hw => m_mv_n C f (by omega) (fun z => mvc g w hg hw z.2)
  refine sOk_yes (by rw [m_mv_rc]; exact hI.1) (sRel.up ?_) qt ?_
  rotate_left
  · rw [m_newest_1, m_mv_4, show upd (C 4 f) 0 (C 4 f 0 + 1) 0 = C 4 f 0 + 1 from by simp [upd], hv, Int32.add_sub_cancel]
  obtain ⟨⟨a, k1, k2, k3, k4⟩, k5, k6, k7, k8, k9⟩ := h
  refine ⟨⟨a, k1, ?_, ?_, fun r hr => ?_⟩, fun g hg => ?_, ?_, ?_, ?_, ?_⟩
  · rw [q1 20 0 2 (by omega) (by omega) (by omega) (by omega) (by omega)]; exact k2
  · rw [m_mv_rc, qr 33 (by decide) (by decide) (by decide) (by decide) (by decide), qr 30 (by decide) (by decide) (by decide) (by decide) (by decide)]; exact k3
  · rw [m_mv_rc] at hr
    refine sU_gen hI hr (fun g => ?_) ?_ (fun g w hg hw => ⟨mvd 15 g w (by decide) hg (by omega), mvd 16 g w (by decide) hg (by omega), by rw [mvd 14 g w (by decide) hg (by omega)]⟩) (rSm.all (fun k hk => qr k (by omega) (by omega) (by omega) (by omega) (by omega)) r) (rLf_cong a 0 (fun j _ => by unfold rT; rw [qr 30 (by decide) (by decide) (by decide) (by decide) (by decide), qr 31 (by decide) (by decide) (by decide) (by decide) (by decide), qr 32 (by decide) (by decide) (by decide) (by decide) (by decide), qr 33 (by decide) (by decide) (by decide) (by decide) (by decide)]; exact ⟨rfl, rfl⟩)) (k4 r hr)
    · rw [m_mv_vn hI hx]
      split
      · rename_i e; rw [e]; omega
      · exact Nat.le_refl _
    · unfold cSm cT
      rw [mvk 11 (by decide) (by decide) (by decide) (by decide), mvk 12 (by decide) (by decide) (by decide) (by decide), mvk 2 (by decide) (by decide) (by decide) (by decide), mvk 13 (by decide) (by decide) (by decide) (by decide), mvk 7 (by decide) (by decide) (by decide) (by decide), mvk 8 (by decide) (by decide) (by decide) (by decide), mvk 9 (by decide) (by decide) (by decide) (by decide), mvk 10 (by decide) (by decide) (by decide) (by decide)]
      exact ⟨rfl, rfl, rfl, fun _ _ => rfl, rfl, rfl, rfl, rfl⟩
  · obtain ⟨g1, g2, ⟨g3, g4⟩, g5⟩ := k5 g hg
    have hlen : ∀ w, w < gVn C g → (M 21 5 (6 * g + w)).toNatClampNeg ≤ 24 := by
      intro w hw
      have := (hI.vn hg).1
      obtain ⟨d, d1, d2⟩ := hB.1 5 (6 * g + w) (show 6 * g + w < 24 by omega) (by decide)
      have d1 : d < 25 := d1
      rw [d2, nI_clamp (by omega)]
      omega
    have hold : ∀ w, w < gVn C g → sCd (m_makeVersion C f) Q (8 * g + w + 1) (Q 21 5 (6 * g + w)) 3 (24 * (6 * g + w)) := by
      intro w hw
      have hne : 6 * g + w ≠ 6 * f + gVn C f := by
        have := (hI.vn hg).1
        by_cases e : g = f
        · subst e; omega
        · omega
      have e5 : Q 21 5 (6 * g + w) = M 21 5 (6 * g + w) := q1 21 5 _ (by omega) (by omega) (by omega) (by omega) (by omega)
      obtain ⟨a1, a2⟩ := g5 w hw
      refine ⟨?_, fun i hi => ?_⟩
      · rw [e5, mvd 14 g w (by decide) hg (by omega)]; exact a1
      · rw [e5] at hi
        have hl := hlen w hw
        obtain ⟨b1, b2⟩ := p3 (24 * (6 * g + w) + i) (by omega)
        obtain ⟨a3, a4⟩ := a2 i hi
        rw [mvd 15 g w (by decide) hg (by omega), mvd 16 g w (by decide) hg (by omega), show (3 + 1 : Nat) = 4 from rfl, q34.1, q34.2, b1, b2]
        exact ⟨a3, a4⟩
    unfold sF
    rw [m_mv_vn hI hx, mvk 5 (by decide) (by decide) (by decide) (by decide), mvk 6 (by decide) (by decide) (by decide) (by decide), qr 7 (by decide) (by decide) (by decide) (by decide) (by decide), qr 8 (by decide) (by decide) (by decide) (by decide) (by decide), qr 9 (by decide) (by decide) (by decide) (by decide) (by decide), qr 10 (by decide) (by decide) (by decide) (by decide) (by decide)]
    by_cases e : g = f
    · subst e
      rw [if_pos rfl, m_mv_4, q6, q2]
      refine ⟨⟨?_, g1.2⟩, g2, ⟨?_, fun i hi => ?_⟩, fun w hw => ?_⟩
      · rw [show upd (C 4 g) 0 (C 4 g 0 + 1) 0 = C 4 g 0 + 1 from by simp [upd], hv, nI_1]
      · rw [show 8 * g + (gVn C g + 1) + 1 = 8 * g + gVn C g + 2 by omega, m_mv_d C g (Or.inl rfl)]
      · exact absurd hi (by rw [show (0 : Int32).toNatClampNeg = 0 by decide]; omega)
      · by_cases ew : w = gVn C g
        · subst ew
          refine ⟨?_, fun i hi => ?_⟩
          · rw [q5, mvd 14 g _ (by decide) hg (Nat.le_refl _)]; exact hjd
          · rw [q5, nI_clamp (by omega)] at hi
            obtain ⟨b1, b2⟩ := p4 i hi
            obtain ⟨a3, a4⟩ := f4 i (by rw [eM, nI_clamp (by omega)]; exact hi)
            rw [mvd 15 g _ (by decide) hg (Nat.le_refl _), mvd 16 g _ (by decide) hg (Nat.le_refl _), show (3 + 1 : Nat) = 4 from rfl, q34.1, q34.2, b1, b2]
            exact ⟨a3, a4⟩
        · exact hold w (by omega)
    · rw [if_neg e, m_mv_n C f (κ := 4) (n := g) (by omega) (by omega), q1 21 6 g (by omega) (by omega) (by omega) (by omega) (by omega), q1 21 2 g (by omega) (by omega) (by omega) (by omega) (by omega)]
      refine ⟨g1, g2, ⟨?_, fun i hi => ?_⟩, hold⟩
      · rw [mvd 14 g _ (by decide) hg (Nat.le_refl _)]; exact g3
      · rw [mvd 15 g _ (by decide) hg (Nat.le_refl _), mvd 16 g _ (by decide) hg (Nat.le_refl _), qr 0 (by decide) (by decide) (by decide) (by decide) (by decide), qr (0 + 1) (by decide) (by decide) (by decide) (by decide) (by decide)]
        exact g4 i hi
  · rw [mvk 17 (by decide) (by decide) (by decide) (by decide), mvk 18 (by decide) (by decide) (by decide) (by decide), mvk 19 (by decide) (by decide) (by decide) (by decide), qr 11 (by decide) (by decide) (by decide) (by decide) (by decide), qr 12 (by decide) (by decide) (by decide) (by decide) (by decide), qr 13 (by decide) (by decide) (by decide) (by decide) (by decide)]
    exact k6
  · rw [mvk 0 (by decide) (by decide) (by decide) (by decide), q1 20 0 0 (by omega) (by omega) (by omega) (by omega) (by omega)]; exact k7
  · rw [mvk 2 (by decide) (by decide) (by decide) (by decide), q1 20 0 1 (by omega) (by omega) (by omega) (by omega) (by omega)]; exact k8
  · rw [m_mv_rc, qr 26 (by decide) (by decide) (by decide) (by decide) (by decide)]; exact k9
theorem m_publish_inv {C : gCT} (hI : gInv C) (x : Int32) : gInv (m_publish C x).2.2 := by
  unfold m_publish
  dsimp only
  by_cases c : m_formAt C x = 0
  · rw [if_pos c]
    by_cases c1 : C 14 (8 * x.toNatClampNeg + (C 4 x.toNatClampNeg 0).toNatClampNeg + 1) 0 = 0
    · rw [if_pos c1]; exact hI
    · rw [if_neg c1]
      by_cases c2 : C 4 x.toNatClampNeg 0 < 6
      · rw [if_pos c2]
        have hx : x.toNatClampNeg < 4 := by
          by_cases e : q_isBelow x 4 = 0
          · rw [formNo e] at c; exact absurd c n1_ne
          · exact (q_isBelow_of (N := 4) rfl (by decide) e).2
        exact m_mv_inv hI hx (pb_vn hI hx c2)
      · rw [if_neg c2]; exact hI
  · rw [if_neg c]; exact hI

/-! ===== wake, on both sides ===== -/
def oL (w g : Nat → Int32) : List aT → Int32
  | [] => 0
  | t :: L => if t.2.1 = m_at w 16 t.1 then (if t.2.1 = m_at g 16 t.1 then oL w g L else 1) else oL w g L
theorem m_isOutdated_at {C : gCT} {r c : Nat} (hc : C 2 r 1 = nI c) (hc2 : c ≤ 512) : ∀ (m n0 i : Nat), i + m = c → m < n0 → (m_isOutdated_L n0 C r (nI i)).1 = oL (C 12 r) (C 18 0) (cLf C r i m) := by
  intro m
  induction m with
  | zero =>
    intro n0 i hi hn
    obtain ⟨n', rfl⟩ : ∃ k, n0 = k + 1 := ⟨n0 - 1, by omega⟩
    unfold m_isOutdated_L
    dsimp only
    rw [hc, if_pos ((nat_le rfl rfl (by omega) (by omega)).mpr (by omega))]
    rfl
  | succ m ih =>
    intro n0 i hi hn
    obtain ⟨n', rfl⟩ : ∃ k, n0 = k + 1 := ⟨n0 - 1, by omega⟩
    have eL : oL (C 12 r) (C 18 0) (cLf C r i (m + 1)) = if C 13 (1024 * r + i) 1 = m_at (C 12 r) 16 (C 13 (1024 * r + i) 0) then (if C 13 (1024 * r + i) 1 = m_at (C 18 0) 16 (C 13 (1024 * r + i) 0) then oL (C 12 r) (C 18 0) (cLf C r (i + 1) m) else 1) else oL (C 12 r) (C 18 0) (cLf C r (i + 1) m) := rfl
    rw [eL]
    unfold m_isOutdated_L
    dsimp only
    rw [hc, if_neg (fun z => absurd ((nat_le rfl rfl (by omega) (by omega)).mp z) (by omega)), nI_clamp (by omega), nI_1]
    have k := ih n' (i + 1) (by omega) (by omega)
    by_cases c1 : C 13 (1024 * r + i) 1 = m_at (C 12 r) 16 (C 13 (1024 * r + i) 0)
    · rw [if_pos c1, if_pos c1, if_neg one_ne]
      by_cases c2 : C 13 (1024 * r + i) 1 = m_at (C 18 0) 16 (C 13 (1024 * r + i) 0)
      · rw [if_pos c2, if_pos c2]; exact k
      · rw [if_neg c2, if_neg c2]
    · rw [if_neg c1, if_neg c1, if_pos rfl]; exact k
theorem m_at_eq {f g : Nat → Int32} (h : ∀ j, j < 16 → f j = g j) (i : Int32) : m_at f 16 i = m_at g 16 i := m_at_cong (by decide) h i
theorem oL_cong {w w' g g' : Nat → Int32} (h1 : ∀ j, j < 16 → w j = w' j) (h2 : ∀ j, j < 16 → g j = g' j) : ∀ L : List aT, oL w g L = oL w' g' L := by
  intro L
  induction L with
  | nil => rfl
  | cons t L ih =>
    show (if t.2.1 = m_at w 16 t.1 then (if t.2.1 = m_at g 16 t.1 then oL w g L else 1) else oL w g L) = if t.2.1 = m_at w' 16 t.1 then (if t.2.1 = m_at g' 16 t.1 then oL w' g' L else 1) else oL w' g' L
    rw [m_at_eq h1, m_at_eq h2, ih]
def q_wakes (D : gCT) (r : Nat) (nw : Int32) : Int32 × gCT := (nw, if nw = 0 then cs D 21 24 r 0 else q_starts (cs D 21 24 r 0) r)
theorem q_wake_L_one {D : gCT} {a r : Nat} (hr : r < 24) (ha : D 20 0 2 = nI a) (ha2 : a ≤ 512) : ∀ (m n0 k : Nat), k + m = a → m < n0 → q_wake_L n0 D (nI r) 1 k = q_wakes D r 1 := by
  intro m
  induction m with
  | zero =>
    intro n0 k hk hn
    obtain ⟨n', rfl⟩ : ∃ k, n0 = k + 1 := ⟨n0 - 1, by omega⟩
    unfold q_wake_L q_wakes
    dsimp only
    rw [ha, if_pos ((nat_le rfl rfl (by omega) (by omega)).mpr (by omega)), if_neg one_ne, if_neg one_ne, nI_clamp (by omega)]
  | succ m ih =>
    intro n0 k hk hn
    obtain ⟨n', rfl⟩ : ∃ k, n0 = k + 1 := ⟨n0 - 1, by omega⟩
    unfold q_wake_L
    dsimp only
    rw [ha, if_neg (fun z => absurd ((nat_le rfl rfl (by omega) (by omega)).mp z) (by omega)), if_neg one_ne]
    exact ih n' (k + 1) (by omega) (by omega)
theorem q_wake_L_at {D : gCT} (hB : MBI D) {a r : Nat} (hr : r < 24) (ha : D 20 0 2 = nI a) (ha2 : a ≤ 512) : ∀ (m n0 k : Nat), k + m = a → m < n0 → q_wake_L n0 D (nI r) 0 k = q_wakes D r (oL (fun q => D 21 27 (16 * r + q)) (D 21 12) (rLf D r k m)) := by
  intro m
  induction m with
  | zero =>
    intro n0 k hk hn
    obtain ⟨n', rfl⟩ : ∃ k, n0 = k + 1 := ⟨n0 - 1, by omega⟩
    unfold q_wake_L q_wakes
    dsimp only
    have e0 : oL (fun q => D 21 27 (16 * r + q)) (D 21 12) (rLf D r k 0) = 0 := rfl
    rw [e0, ha, if_pos ((nat_le rfl rfl (by omega) (by omega)).mpr (by omega)), if_pos rfl, if_pos rfl, nI_clamp (by omega)]
  | succ m ih =>
    intro n0 k hk hn
    obtain ⟨n', rfl⟩ : ∃ k, n0 = k + 1 := ⟨n0 - 1, by omega⟩
    have eL : rLf D r k (m + 1) = if D 21 30 k = nI r then rT D k :: rLf D r (k + 1) m else rLf D r (k + 1) m := rfl
    obtain ⟨q, q1, q2⟩ := hB.1 31 k (show k < 1024 by omega) (by decide)
    have q1 : q < 16 := q1
    have iH := ih n' (k + 1) (by omega) (by omega)
    have iO := q_wake_L_one hr ha ha2 m n' (k + 1) (by omega) (by omega)
    rw [eL]
    unfold q_wake_L
    dsimp only
    rw [ha, if_neg (fun z => absurd ((nat_le rfl rfl (by omega) (by omega)).mp z) (by omega)), if_pos rfl, q2, nI_clamp (n := q) (by omega), nI_clamp (n := r) (by omega)]
    by_cases c1 : D 21 30 k = nI r
    · have eO : oL (fun q => D 21 27 (16 * r + q)) (D 21 12) (rT D k :: rLf D r (k + 1) m) = if D 21 32 k = D 21 27 (16 * r + q) then (if D 21 32 k = D 21 12 q then oL (fun q => D 21 27 (16 * r + q)) (D 21 12) (rLf D r (k + 1) m) else 1) else oL (fun q => D 21 27 (16 * r + q)) (D 21 12) (rLf D r (k + 1) m) := by
        show (if D 21 32 k = m_at (fun q => D 21 27 (16 * r + q)) 16 (D 21 31 k) then (if D 21 32 k = m_at (D 21 12) 16 (D 21 31 k) then _ else _) else _) = _
        rw [q2, (m_at_nat _ q1 (by decide) 0).1, (m_at_nat _ q1 (by decide) 0).1]
      rw [if_pos c1, if_pos c1, eO]
      by_cases c2 : D 21 32 k = D 21 27 (16 * r + q)
      · rw [if_pos c2, if_pos c2]
        by_cases c3 : D 21 12 q = D 21 27 (16 * r + q)
        · rw [if_pos c3, if_pos (c2.trans c3.symm)]; exact iH
        · rw [if_neg c3, if_neg (fun z => c3 (z.symm.trans c2))]; exact iO
      · rw [if_neg c2, if_neg c2]; exact iH
    · rw [if_neg c1, if_neg c1]; exact iH
theorem sRel.oth {n : Nat} {C M : gCT} (hI : gInv C) {a r : Nat} (h : sRel n C M) (ha : M 20 0 2 = nI a) (ha5 : a ≤ 512) (hn : n ≤ 512) (w : Int32) : sOth a r C (cs (cs M 20 0 3 0) 21 24 r w) := by
  obtain ⟨⟨a', k1, k2, k3, k4⟩, k5, k6, k7, k8, k9⟩ := h
  have e : a' = a := (nI_eq (by omega) (by omega)).mp (k2.symm.trans ha)
  subst e
  have eN : ∀ k, k ≠ 24 → cs (cs M 20 0 3 0) 21 24 r w 21 k = M 21 k := fun k hk => by rw [cs_n _ _ _ _ hk, cs_k _ _ _ _ (by decide)]
  have e21 : cs M 20 0 3 0 21 = M 21 := cs_k _ _ _ _ (by decide)
  refine ⟨?_, ?_, fun s hs hsr => ?_, fun f hf => ?_, fun q hq => ?_, ?_, ?_, ?_⟩
  · rw [cs_rd, if_neg (by omega), cs_o _ _ _ _ (by decide)]; exact k2
  · rw [eN 33 (by decide), eN 30 (by decide)]; exact k3
  · refine sU_gen hI hs (fun k => Nat.le_refl _) ⟨rfl, rfl, rfl, fun _ _ => rfl, rfl, rfl, rfl, rfl⟩ (fun k w _ _ => ⟨rfl, rfl, rfl⟩) ?_ ?_ (k4 s hs)
    · have := rSm.cs (M := cs M 20 0 3 0) (k := 24) (j := r) (r := s) (v := w) ⟨Or.inl rfl, fun z => hsr z.symm⟩
      unfold rSm at this ⊢
      rw [e21] at this
      exact this
    · rw [rLf_24 _ (by decide)]; exact rLf_21 e21 s 0 a'
  · have := k5 f hf
    unfold sF sCd at this ⊢
    rw [eN 6 (by decide), eN 7 (by decide), eN 8 (by decide), eN 9 (by decide), eN 10 (by decide), eN 2 (by decide), eN 0 (by decide), eN (0 + 1) (by decide), eN 5 (by decide), eN 3 (by decide), eN (3 + 1) (by decide)]
    exact this
  · rw [eN 11 (by decide), eN 12 (by decide), eN 13 (by decide)]; exact k6 q hq
  · rw [cs_rd, if_neg (by omega), cs_o _ _ _ _ (by decide)]; exact k7
  · rw [cs_rd, if_neg (by omega), cs_o _ _ _ _ (by decide)]; exact k8
  · rw [eN 26 (by decide)]; exact k9
theorem oL_01 (w g : Nat → Int32) : ∀ L : List aT, oL w g L = 0 ∨ oL w g L = 1 := by
  intro L
  induction L with
  | nil => exact Or.inl rfl
  | cons t L ih =>
    show (if t.2.1 = m_at w 16 t.1 then (if t.2.1 = m_at g 16 t.1 then oL w g L else 1) else oL w g L) = 0 ∨ (if t.2.1 = m_at w 16 t.1 then (if t.2.1 = m_at g 16 t.1 then oL w g L else 1) else oL w g L) = 1
    split
    · split
      · exact ih
      · exact Or.inr rfl
    · exact ih
theorem s_wake {n : Nat} (hn : n < 512) {C M : gCT} (hI : gInv C) (hB : MBI M) (h : sRel n C M) (x : Int32) : sOk n C (w_two (m_wake C x).1) (w_outw C (m_wake C x)) (q_wake M x) := by
  have no : ∀ (k k' : Nat), k ≠ 0 → k' ≠ 0 → sOk n C k' (w_outw C (k, 0, C)) (0, cs M 20 0 3 (nI k')) := by
    intro k k' hk hk'
    have e : w_outw C (k, 0, C) = C := if_neg hk
    rw [e]
    exact ⟨cs_s M 20 0 3 (nI k'), fun z => absurd z hk', (h.thr _).up⟩
  unfold m_wake q_wake
  dsimp only
  by_cases c : (q_isRun M x).1 = 0
  · rw [runNo hI h c, if_neg n1_ne, thr1 _ _ c, goes_no one_ne]
    exact no 1 1 (by decide) (by decide)
  · obtain ⟨hr, hx, a, han, ha, hU⟩ := runAt hI hB h c
    obtain ⟨e5, e4, hs⟩ := hU.2.2.1
    rw [runYes hI h c, if_pos rfl, if_neg c, ← e4]
    by_cases c4 : C 11 x.toNatClampNeg 4 = 1
    rotate_left
    · rw [if_neg c4, if_neg c4, thr2 _ c rfl, goes_no (by decide)]
      exact no 3 2 (by decide) (by decide)
    rw [if_pos c4, if_pos c4, thr0 c one_ne one_ne, goes_yes]
    have h7 : C 7 x.toNatClampNeg 4 = 0 := by
      rcases hs with ⟨-, h7⟩ | ⟨h4, h7⟩
      · exact h7
      · rw [← h4, c4] at h7; exact absurd h7 (by decide)
    generalize hxr : x.toNatClampNeg = r at *
    have h24 := hI.1
    obtain ⟨f, v, k1, k2, k3, k4, k5, k6, k7⟩ := hU.1
    obtain ⟨p, p1, p2, p3, p4⟩ := hU.2.1
    have hvn := hI.vn k1
    have hcn := hI.cnt (Or.inl hr)
    have hF := h.2.1 f k1
    have m6 : M 21 6 f = nI (gVn C f) := hF.1.1.symm.trans hvn.2.1
    have hB9 : MBI (cs M 20 0 3 0) := hB.set0 (by decide)
    have a9 : cs M 20 0 3 0 20 0 2 = nI a := (cs_o _ _ _ _ (by decide)).trans ha
    have e21 : cs M 20 0 3 0 21 = M 21 := cs_k _ _ _ _ (by decide)
    have stay : sOk n C 0 (cs (cs C 11 r 4 0) 22 0 0 0) (0, cs (cs M 20 0 3 0) 21 24 r 0) :=
      sOk_yes (v := 0) (D := cs C 11 r 4 0) (by rw [(gSx.rf.cs1 rfl : gSx C (cs C 11 r 4 0)).rc]; exact hI.1) (sRel_state hI hr h7 (Or.inl rfl) (h.thr 0)).up (thr_3 _ _ _ _) rfl
    have again : sOk n C 0 (cs (m_go (m_startOver C r) r) 22 0 0 1) (1, q_starts (cs (cs M 20 0 3 0) 21 24 r 0) r) := by
      obtain ⟨z1, z2, z3⟩ := s_start (n := n) (f := f) (p := p) hI (hB9.set (k := 24) rfl (fun z => absurd rfl z)) hr (by omega) han (h.oth hI ha (by omega) (by omega) 0) k1 k2 (by rw [cs_rd, if_neg (by omega), e21]; exact k3) (by omega) p1 p2 (by rw [cs_rd, if_neg (by omega), e21]; exact p3) p4 (by rw [cs_rd, if_neg (by omega), e21]; exact e5) (by rw [rLf_24 _ (by decide), rLf_21 e21]; exact hU.2.2.2.2.2.1)
      refine sOk_yes (v := 1) (D := m_go (m_startOver C r) r) ?_ z1.up ?_ rfl
      · rw [(m_go_str gSx.rf r : gSx (m_startOver C r) (m_go (m_startOver C r) r)).rc]
        exact (m_startOver_inv hI hr).1
      · rw [z3, thr_3]
    have eo1 : w_outw C (0, 0, cs C 11 r 4 0) = cs (cs C 11 r 4 0) 22 0 0 0 := rfl
    have eo2 : w_outw C (0, 1, m_go (m_startOver C r) r) = cs (m_go (m_startOver C r) r) 22 0 0 1 := rfl
    have eq27 : ∀ j, j < 16 → C 12 r j = cs M 20 0 3 0 21 27 (16 * r + j) := fun j hj => by rw [e21]; exact hU.2.2.2.2.1 j hj
    have eq12 : ∀ j, j < 16 → C 18 0 j = cs M 20 0 3 0 21 12 j := fun j hj => by rw [e21]; exact (h.2.2.1 j hj).2.1
    have loop := q_wake_L_at hB9 (show r < 24 by omega) a9 (by omega) a 513 0 (by omega) (by omega)
    have one := q_wake_L_one (D := cs M 20 0 3 0) (show r < 24 by omega) a9 (by omega) a 513 0 (by omega) (by omega)
    rw [rLf_21 e21, ← hU.2.2.2.2.2.1, ← oL_cong eq27 eq12] at loop
    have out := m_isOutdated_at hcn.1 hcn.2.2.2.2.1 (gCnt C r) 2001 0 (by omega) (by omega)
    have eout : (m_isOutdated C r).1 = if nI (gVn C f - 1) ≤ nI v then (m_isOutdated_L 2001 C r 0).1 else 1 := by
      unfold m_isOutdated
      dsimp only
      rw [m_newest_1, k2, nI_clamp (by omega), hvn.2.1, k5, show nI (gVn C f) - 1 = nI (gVn C f - 1) from nat_sub rfl (show (1 : Int32) = nI 1 from rfl) (by omega)]
      split <;> rfl
    rw [k3, k6, nI_clamp (by omega), m6, show nI (gVn C f) - 1 = nI (gVn C f - 1) from nat_sub rfl (show (1 : Int32) = nI 1 from rfl) (by omega), eout, hx]
    by_cases cv : nI (gVn C f - 1) ≤ nI v
    · rw [if_pos cv, if_pos cv]
      have out : (m_isOutdated_L 2001 C r 0).1 = oL (C 12 r) (C 18 0) (cLf C r 0 (gCnt C r)) := out
      rw [loop, out]
      unfold q_wakes
      rcases oL_01 (C 12 r) (C 18 0) (cLf C r 0 (gCnt C r)) with o | o
      · rw [o, if_pos rfl, if_pos rfl, eo1]; exact stay
      · rw [o, if_neg one_ne, if_neg one_ne, eo2]; exact again
    · rw [if_neg cv, if_neg cv, one, if_neg one_ne, eo2]
      unfold q_wakes
      rw [if_neg one_ne]
      exact again

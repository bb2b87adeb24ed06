/-! ===== save, leave, what is done again, an answer ===== -/
def sOkv (n k : Nat) (D N : gCT) : Prop := N 20 0 3 = nI k ∧ sRel (n + 1) D N
theorem ite_10 {α : Type} {c : Prop} [Decidable c] (A B : α) : (if (if c then (1 : Int32) else 0) = 0 then A else B) = if c then B else A := by
  by_cases h : c
  · rw [if_pos h, if_pos h, if_neg one_ne]
  · rw [if_neg h, if_neg h, if_pos rfl]
theorem ite_01 {α : Type} {c : Prop} [Decidable c] (A B : α) : (if (if c then (0 : Int32) else 1) = 0 then A else B) = if c then A else B := by
  by_cases h : c
  · rw [if_pos h, if_pos h, if_pos rfl]
  · rw [if_neg h, if_neg h, if_neg one_ne]
theorem s_save {n : Nat} {C M : gCT} (hI : gInv C) (hB : MBI M) (h : sRel n C M) (x : Int32) : sOkv n (w_two (m_save C x).1) (w_outv C (m_save C x)) (q_save M x) := by
  unfold m_save q_save
  dsimp only
  by_cases c : (q_isRun M x).1 = 0
  · rw [runNo hI h c, if_neg n1_ne, thr1 _ _ c, goes_no one_ne]
    exact ⟨cs_s M 20 0 3 (nI 1), (h.thr _).up⟩
  · obtain ⟨hr, hx, a, -, -, hU⟩ := runAt hI hB h c
    obtain ⟨-, e4, hs⟩ := hU.2.2.1
    rw [runYes hI h c, if_pos rfl, if_neg c, ← e4]
    by_cases c4 : C 11 x.toNatClampNeg 4 = 0
    · rw [if_pos c4, if_pos c4, thr0 c one_ne one_ne, goes_yes]
      have h7 : C 7 x.toNatClampNeg 4 = 0 := by
        rcases hs with ⟨-, h7⟩ | ⟨h4, h7⟩
        · exact h7
        · rw [← h4]; exact c4
      exact ⟨thr_3 _ _ _ _, (sRel_state hI hr h7 (Or.inr (Or.inl rfl)) (h.thr 0)).up⟩
    · rw [if_neg c4, if_neg c4, thr2 _ c rfl, goes_no (by decide)]
      exact ⟨cs_s M 20 0 3 (nI 2), (h.thr _).up⟩
theorem s_leave {n : Nat} {C M : gCT} (hI : gInv C) (hB : MBI M) (h : sRel n C M) (x : Int32) : sOk n C (w_two (m_leave C x).1) (w_out C (m_leave C x)) (q_leave M x) := by
  unfold m_leave q_leave
  dsimp only
  by_cases c : (q_isRun M x).1 = 0
  · rw [runNo hI h c, if_neg n1_ne, thr1 _ _ c, goes_no one_ne]
    exact sOk_no' 1 1 (by decide) (by decide) h
  · obtain ⟨hr, hx, a, -, -, hU⟩ := runAt hI hB h c
    obtain ⟨e5, e4, hs⟩ := hU.2.2.1
    have hy : ∀ w, gRc (cs C 11 x.toNatClampNeg 4 w) ≤ 24 := fun w => by rw [(gSx.rf.cs1 rfl : gSx C (cs C 11 x.toNatClampNeg 4 w)).rc]; exact hI.1
    have fin : C 7 x.toNatClampNeg 4 = 0 → sOk n C 0 (w_out C (0, cs C 11 x.toNatClampNeg 4 6 11 x.toNatClampNeg 5, cs C 11 x.toNatClampNeg 4 6)) (M 21 26 x.toNatClampNeg, cs (cs M 20 0 3 0) 21 24 x.toNatClampNeg 6) := fun h7 =>
      sOk_yes (hy 6) (sRel_state hI hr h7 (Or.inr (Or.inr rfl)) (h.thr 0)).up (thr_3 _ _ _ _) ((cs_o _ _ _ _ (by decide)).trans e5)
    rw [runYes hI h c, if_pos rfl, if_neg c, ← e4]
    rcases hs with ⟨h4 | h4 | h4, h7⟩ | ⟨h4, h7⟩
    · rw [h4, if_pos rfl, if_neg (show ¬ (1 : Int32) < 0 by decide), thr0 c one_ne one_ne, goes_yes]
      exact fin h7
    · rw [h4, if_neg one_ne, if_pos rfl, if_neg (show ¬ (1 : Int32) < 1 by decide), thr0 c one_ne one_ne, goes_yes]
      exact fin h7
    · rw [h4, if_neg (show ¬ (6 : Int32) = 0 by decide), if_neg (show ¬ (6 : Int32) = 1 by decide), if_pos (show (1 : Int32) < 6 by decide), thr2 _ c rfl, goes_no (by decide)]
      exact sOk_no' 3 2 (by decide) (by decide) h
    · have hno : ∀ w : Int32, w = 2 ∨ w = 3 ∨ w = 4 ∨ w = 5 → ¬ w = 0 ∧ ¬ w = 1 ∧ (1 : Int32) < w := by rintro w (rfl | rfl | rfl | rfl) <;> decide
      obtain ⟨n0, n1, n2⟩ := hno _ h7
      rw [h4, if_neg n0, if_neg n1, if_pos n2, thr2 _ c rfl, goes_no (by decide)]
      exact sOk_no' 3 2 (by decide) (by decide) h
/-- the run is done again on the spare machine -/
theorem again_at {n : Nat} {C M : gCT} (hI : gInv C) {a r : Nat} (hr : r < gRc C) (hU : sU C M a r) : ∃ z : aM, m_doAgain C r = aPut C 24 z ∧ z.1 2 = C 7 r 2 ∧ ∀ j, j < 8 → z.2.2.1 j = C 9 r j := by
  obtain ⟨-, -, ⟨-, -, hs⟩, -, -, -, -, F, f1, f2, f3⟩ := hU
  have hr24 : r ≠ 24 := by have := hI.1; omega
  have h7 : (aGet C r).1 4 ≠ 7 := by
    show C 7 r 4 ≠ 7
    rcases hs with ⟨-, h7⟩ | ⟨-, h7 | h7 | h7 | h7⟩ <;> rw [h7] <;> decide
  obtain ⟨k1, k2⟩ := reach_fin f3 h7 (aGet C 24)
  refine ⟨_, ?_, k1, k2⟩
  unfold m_doAgain
  dsimp only
  have e1 : m_reset C 24 (C 11 r 3) = aPut C 24 (a_reset (aGet C 24) (nI F)) := by
    rw [f2]
    have := A_reset C 24 (aGet C 24) (nI F)
    rwa [aPut_aGet] at this
  rw [e1, aPut_n C 24 _ hr24 7, A_goOn]
  rfl
theorem s_fuelAgain {n : Nat} {C M : gCT} (hI : gInv C) (hB : MBI M) (h : sRel n C M) (x : Int32) : sOk n C (m_fuelAgain C x).1 (w_out C (m_fuelAgain C x)) (q_fuelAgain M x) := by
  have e0 : q_fuelAgain M x = q_fuel M x := by
    unfold q_fuelAgain
    exact Prod.ext rfl rfl
  rw [e0]
  unfold m_fuelAgain q_fuel
  dsimp only
  by_cases c : (q_isRun M x).1 = 0
  · rw [runNo hI h c, if_neg n1_ne, thr1 _ _ c, goes_no one_ne]
    exact sOk_no 1 (by decide) h
  · obtain ⟨hr, -, a, -, -, hU⟩ := runAt hI hB h c
    obtain ⟨z, e1, e2, -⟩ := again_at (n := n) hI hr hU
    rw [runYes hI h c, if_pos rfl, thr0 c one_ne one_ne, goes_yes, e1]
    have hrc : gRc (aPut C 24 z) = gRc C := by unfold gRc; rw [aPut_k C 24 z (by decide)]
    refine sOk_yes (by rw [hrc]; exact hI.1) (sRel_congC hI.1 (fun κ _ hk => aPut_k C 24 z hk) (fun κ r _ hr => aPut_n C 24 z hr κ) (h.thr 0)).up (cs_s _ _ _ _ _) ?_
    rw [aPut_7, e2]
    exact hU.2.2.2.1.1.2.2.1.symm
theorem s_slotAgain {n : Nat} {C M : gCT} (hI : gInv C) (hB : MBI M) (h : sRel n C M) (x y : Int32) : sOk n C (m_slotAgain C x y).1 (w_out C (m_slotAgain C x y)) (q_slotAgain M x y) := by
  have e0 : q_slotAgain M x y = q_slot M x y := by
    unfold q_slotAgain
    exact Prod.ext rfl rfl
  rw [e0]
  unfold m_slotAgain q_slot
  dsimp only
  rw [isB8]
  by_cases c : (q_isRun M x).1 = 0
  · rw [runNo hI h c, if_neg n1_ne, and2_no (Or.inl c), thr1 _ _ rfl, goes_no one_ne]
    exact sOk_no 1 (by decide) h
  · obtain ⟨hr, -, a, -, -, hU⟩ := runAt hI hB h c
    rw [runYes hI h c, if_pos rfl]
    by_cases c2 : q_isBelow y 8 = 0
    · rw [if_pos c2, and2_no (Or.inr c2), thr1 _ _ rfl, goes_no one_ne]
      exact sOk_no 1 (by decide) h
    · obtain ⟨-, hy⟩ := q_isBelow_of (N := 8) rfl (by decide) c2
      obtain ⟨z, e1, -, e2⟩ := again_at (n := n) hI hr hU
      rw [if_neg c2, and2_yes c c2, thr0 one_ne one_ne one_ne, goes_yes, e1]
      have hrc : gRc (aPut C 24 z) = gRc C := by unfold gRc; rw [aPut_k C 24 z (by decide)]
      refine sOk_yes (by rw [hrc]; exact hI.1) (sRel_congC hI.1 (fun κ _ hk => aPut_k C 24 z hk) (fun κ r _ hr => aPut_n C 24 z hr κ) (h.thr 0)).up (cs_s _ _ _ _ _) ?_
      rw [aPut_9, e2 _ hy]
      exact (hU.2.2.2.1.2.2.1 _ hy).symm
/-! an answer by its number -/
def aVal (t : aT) : Int32 := 1000 * t.2.1 + 10 * t.1 + t.2.2
theorem cLf_get (C : gCT) (r : Nat) : ∀ (m i j : Nat), j < m → (cLf C r i m)[j]? = some (cT C r (i + j)) := by
  intro m
  induction m with
  | zero => intro i j h; omega
  | succ m ih =>
    intro i j h
    cases j with
    | zero => rfl
    | succ j =>
      show (cLf C r (i + 1) m)[j]? = _
      rw [ih (i + 1) j (by omega), show i + 1 + j = i + (j + 1) by omega]
theorem q_answerAt_had {M : gCT} {a : Nat} (ha : M 20 0 2 = nI a) (ha2 : a ≤ 512) {x n2 : Int32} : ∀ (m n0 j k : Nat) (fd : Int32), k + m = a → m < n0 → j ≤ k → (q_answerAt_L n0 M x n2 (0 - nI (j + 1)) fd k).1 = fd := by
  intro m
  induction m with
  | zero =>
    intro n0 j k fd hk hn0 hj
    obtain ⟨n', rfl⟩ : ∃ k, n0 = k + 1 := ⟨n0 - 1, by omega⟩
    unfold q_answerAt_L
    dsimp only
    rw [ha, if_pos ((nat_le rfl rfl (by omega) (by omega)).mpr (by omega))]
  | succ m ih =>
    intro n0 j k fd hk hn0 hj
    obtain ⟨n', rfl⟩ : ∃ k, n0 = k + 1 := ⟨n0 - 1, by omega⟩
    unfold q_answerAt_L
    dsimp only
    rw [ha, if_neg (fun z => absurd ((nat_le rfl rfl (by omega) (by omega)).mp z) (by omega)), if_neg (nI_neg (show j < 2 ^ 30 by omega))]
    by_cases c : M 21 30 k = x
    · have e1 : (0 : Int32) - nI (j + 1) - 1 = 0 - nI (j + 1 + 1) := by rw [← nI_1 (j + 1), Int32.sub_sub]
      rw [if_pos c, if_neg one_ne, if_neg one_ne, e1]
      exact ih n' (j + 1) (k + 1) fd (by omega) (by omega) (by omega)
    · rw [if_neg c, if_pos rfl, if_pos rfl, Int32.sub_zero]
      exact ih n' j (k + 1) fd (by omega) (by omega) (by omega)
theorem q_answerAt_at {M : gCT} {a : Nat} (ha : M 20 0 2 = nI a) (ha2 : a ≤ 512) {r : Nat} {n2 : Int32} {t : aT} : ∀ (m n0 j k : Nat) (fd : Int32), k + m = a → m < n0 → (rLf M r k m)[j]? = some t → (q_answerAt_L n0 M (nI r) n2 (nI j) fd k).1 = aVal t := by
  intro m
  induction m with
  | zero => intro n0 j k fd _ _ h; exact absurd h (by show ¬ ([] : List aT)[j]? = some t; simp)
  | succ m ih =>
    intro n0 j k fd hk hn0 h
    obtain ⟨n', rfl⟩ : ∃ k, n0 = k + 1 := ⟨n0 - 1, by omega⟩
    have eL : rLf M r k (m + 1) = if M 21 30 k = nI r then rT M k :: rLf M r (k + 1) m else rLf M r (k + 1) m := rfl
    rw [eL] at h
    unfold q_answerAt_L
    dsimp only
    rw [ha, if_neg (fun z => absurd ((nat_le rfl rfl (by omega) (by omega)).mp z) (by omega))]
    by_cases c : M 21 30 k = nI r
    · rw [if_pos c] at h
      rw [if_pos c, if_neg one_ne, if_neg one_ne]
      cases j with
      | zero =>
        have ht : rT M k = t := Option.some.inj h
        subst ht
        have e0 : nI 0 - 1 = 0 - nI (0 + 1) := by decide
        rw [e0, if_pos (show nI 0 = 0 from rfl), q_answerAt_had ha ha2 m n' 0 (k + 1) _ (by omega) (by omega) (by omega)]
        rfl
      | succ j =>
        have hj : j < m := by
          have h2 : (rLf M r (k + 1) m)[j]? = some t := h
          have h3 := (List.getElem?_eq_some_iff.mp h2).1
          have h4 : ∀ (m k : Nat), (rLf M r k m).length ≤ m := by
            intro m
            induction m with
            | zero => intro k; exact Nat.le_refl _
            | succ m ih2 =>
              intro k
              show (if M 21 30 k = nI r then rT M k :: rLf M r (k + 1) m else rLf M r (k + 1) m).length ≤ m + 1
              have := ih2 (k + 1)
              split
              · exact Nat.succ_le_succ this
              · omega
          have := h4 m (k + 1)
          omega
        rw [if_neg (nI_ne0 (n := j + 1) (by omega) (by omega)), show nI (j + 1) - 1 = nI j from nat_sub (a := j + 1) rfl (show (1 : Int32) = nI 1 from rfl) (by omega)]
        exact ih n' j (k + 1) fd (by omega) (by omega) h
    · rw [if_neg c] at h
      rw [if_neg c, if_pos rfl, if_pos rfl, Int32.sub_zero]
      exact ih n' j (k + 1) fd (by omega) (by omega) h
theorem q_answerAt_L_C (n0 : Nat) (D : gCT) (n1 n2 lf fd : Int32) (k : Nat) : (q_answerAt_L n0 D n1 n2 lf fd k).2 = D := by
  induction n0 generalizing lf fd k with
  | zero => rfl
  | succ n0 ih =>
    unfold q_answerAt_L
    dsimp only
    by_cases c : D 20 0 2 ≤ nI k
    · rw [if_pos c]
    · rw [if_neg c]; exact ih _ _ _
theorem s_answerAt {n : Nat} (hn : n < 512) {C M : gCT} (hI : gInv C) (hB : MBI M) (h : sRel n C M) (x y : Int32) : sOk n C (m_answerAt C x y).1 (w_out C (m_answerAt C x y)) (q_answerAt M x y) := by
  unfold m_answerAt q_answerAt
  dsimp only
  by_cases c : (q_isRun M x).1 = 0
  · rw [runNo hI h c, if_neg n1_ne, if_pos c, thr1 _ _ rfl, goes_no one_ne]
    exact sOk_no 1 (by decide) h
  · obtain ⟨hr, hx, a, han, ha, hU⟩ := runAt hI hB h c
    have hcn := hI.cnt (Or.inl hr)
    have hc2 := q_countOf_eq (M := M) (by omega) ha han hU
    rw [← hx] at hc2
    rw [runYes hI h c, if_pos rfl, if_neg c, hc2, hcn.1, isB y (c := gCnt C x.toNatClampNeg) (by have := hcn.2.2.2.2.1; omega)]
    have eB : (if y < 0 then (0 : Int32) else if nI (gCnt C x.toNatClampNeg) ≤ y then 0 else 1) = q_isBelow y (nI (gCnt C x.toNatClampNeg)) := rfl
    rw [eB]
    by_cases c2 : q_isBelow y (nI (gCnt C x.toNatClampNeg)) = 0
    · rw [if_pos c2, thr1 _ _ c2, goes_no one_ne]
      exact sOk_no 1 (by decide) h
    · obtain ⟨hy, hy2⟩ := q_isBelow_of (x := y) (N := gCnt C x.toNatClampNeg) rfl (by have := hcn.2.2.2.2.1; omega) c2
      rw [if_neg c2, thr0 c2 one_ne one_ne, goes_yes]
      have e21 : cs M 20 0 3 0 21 = M 21 := cs_k _ _ _ _ (by decide)
      have hg := cLf_get C x.toNatClampNeg (gCnt C x.toNatClampNeg) 0 y.toNatClampNeg hy2
      rw [hU.2.2.2.2.2.1, ← rLf_21 e21, Nat.zero_add] at hg
      have hA := q_answerAt_at (M := cs M 20 0 3 0) ((cs_o _ _ _ _ (by decide)).trans ha) (by omega) (n2 := y) a 513 y.toNatClampNeg 0 0 (by omega) (by omega) hg
      rw [← hx, ← hy] at hA
      have e2 : q_answerAt_L 513 (cs M 20 0 3 0) x y y 0 0 = ((q_answerAt_L 513 (cs M 20 0 3 0) x y y 0 0).1, cs M 20 0 3 0) := Prod.ext rfl (q_answerAt_L_C _ _ _ _ _ _ _)
      rw [e2]
      exact sOk_rd hI.1 h hA.symm

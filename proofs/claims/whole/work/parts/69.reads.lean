/-! ===== calls that only tell ===== -/
theorem thr1 {a : Int32} (b c : Int32) (h : a = 0) : q_thr a b c = 1 := if_pos h
theorem thr2 {a b : Int32} (c : Int32) (h : ¬ a = 0) (h2 : b = 0) : q_thr a b c = 2 := by unfold q_thr; rw [if_neg h, if_pos h2]
theorem thr3 {a b c : Int32} (h : ¬ a = 0) (h2 : ¬ b = 0) (h3 : c = 0) : q_thr a b c = 3 := by unfold q_thr; rw [if_neg h, if_neg h2, if_pos h3]
theorem thr0 {a b c : Int32} (h : ¬ a = 0) (h2 : ¬ b = 0) (h3 : ¬ c = 0) : q_thr a b c = 0 := by unfold q_thr; rw [if_neg h, if_neg h2, if_neg h3]
theorem one_ne : ¬ (1 : Int32) = 0 := by decide
theorem goes_no {α : Type} {t : Int32} (ht : ¬ t = 0) (A B : α) : (if (if t = 0 then (1 : Int32) else 0) = 0 then A else B) = A := by rw [if_neg ht, if_pos rfl]
theorem goes_yes {α : Type} (A B : α) : (if (if (0 : Int32) = 0 then (1 : Int32) else 0) = 0 then A else B) = B := by rw [if_pos rfl, if_neg one_ne]
theorem n1_ne : ¬ (1 : Nat) = 0 := by decide
theorem sOk_no {n : Nat} {C M : gCT} (k : Nat) (hk : k ≠ 0) (h : sRel n C M) {x : Int32} : sOk n C k (w_out C (k, 0, C)) (x, cs M 20 0 3 (nI k)) := by
  have e : w_out C (k, 0, C) = C := if_neg hk
  rw [e]
  exact ⟨cs_s M 20 0 3 (nI k), fun z => absurd z hk, (h.thr _).up⟩
theorem sOk_yes {n : Nat} {C D N : gCT} {v x : Int32} (hrc : gRc D ≤ 24) (h : sRel (n + 1) D N) (h3 : N 20 0 3 = 0) (hv : v = x) : sOk n C 0 (w_out C (0, v, D)) (x, N) := by
  have e : w_out C (0, v, D) = cs D 22 0 0 v := if_pos rfl
  rw [e]
  exact ⟨h3, fun _ => (cs_s _ _ _ _ _).trans hv, h.c22 hrc v⟩
theorem sOk_rd {n : Nat} {C M : gCT} {v x : Int32} (hrc : gRc C ≤ 24) (h : sRel n C M) (hv : v = x) : sOk n C 0 (w_out C (0, v, C)) (x, cs M 20 0 3 0) := sOk_yes hrc (h.thr 0).up (cs_s _ _ _ _ _) hv
theorem sRel.rc {n : Nat} {C M : gCT} (h : sRel n C M) : C 2 24 1 = M 20 0 1 := h.2.2.2.2.1
theorem runNo {n : Nat} {C M : gCT} (hI : gInv C) (h : sRel n C M) {x : Int32} (c : (q_isRun M x).1 = 0) : m_runAt C x = 1 := by rw [runAt_eq hI h.rc, if_pos c]
theorem runYes {n : Nat} {C M : gCT} (hI : gInv C) (h : sRel n C M) {x : Int32} (c : ¬ (q_isRun M x).1 = 0) : m_runAt C x = 0 := by rw [runAt_eq hI h.rc, if_neg c]
theorem runAt {n : Nat} {C M : gCT} (hI : gInv C) (hB : MBI M) (h : sRel n C M) {x : Int32} (c : ¬ (q_isRun M x).1 = 0) : x.toNatClampNeg < gRc C ∧ x = nI x.toNatClampNeg ∧ ∃ a, a ≤ n ∧ M 20 0 2 = nI a ∧ sU C M a x.toNatClampNeg := by
  obtain ⟨h1, h2, h3⟩ := q_isRun_of hB c
  rw [← h.rc] at h3
  have h3 : x.toNatClampNeg < gRc C := h3
  obtain ⟨⟨a, k1, k2, k3, k4⟩, -⟩ := h
  exact ⟨h3, h1, a, k1, k2, k4 _ h3⟩
theorem s_state {n : Nat} {C M : gCT} (hI : gInv C) (hB : MBI M) (h : sRel n C M) (x : Int32) : sOk n C (m_state C x).1 (w_out C (m_state C x)) (q_state M x) := by
  unfold m_state q_state
  dsimp only
  by_cases c : (q_isRun M x).1 = 0
  · rw [runNo hI h c, if_neg n1_ne, thr1 _ _ c, goes_no one_ne]
    exact sOk_no 1 (by decide) h
  · obtain ⟨-, -, a, -, -, hU⟩ := runAt hI hB h c
    rw [runYes hI h c, if_pos rfl, thr0 c one_ne one_ne, goes_yes]
    exact sOk_rd hI.1 h hU.2.2.1.2.1
theorem s_version {n : Nat} {C M : gCT} (hI : gInv C) (hB : MBI M) (h : sRel n C M) (x : Int32) : sOk n C (m_version C x).1 (w_out C (m_version C x)) (q_version M x) := by
  unfold m_version q_version
  dsimp only
  by_cases c : (q_isRun M x).1 = 0
  · rw [runNo hI h c, if_neg n1_ne, thr1 _ _ c, goes_no one_ne]
    exact sOk_no 1 (by decide) h
  · obtain ⟨-, -, a, -, -, hU⟩ := runAt hI hB h c
    obtain ⟨f, v, -, -, -, -, h5, h6, -⟩ := hU.1
    rw [runYes hI h c, if_pos rfl, thr0 c one_ne one_ne, goes_yes]
    exact sOk_rd hI.1 h (h5.trans h6.symm)
theorem s_fuel {n : Nat} {C M : gCT} (hI : gInv C) (hB : MBI M) (h : sRel n C M) (x : Int32) : sOk n C (m_fuel C x).1 (w_out C (m_fuel C x)) (q_fuel M x) := by
  unfold m_fuel q_fuel
  dsimp only
  by_cases c : (q_isRun M x).1 = 0
  · rw [runNo hI h c, if_neg n1_ne, thr1 _ _ c, goes_no one_ne]
    exact sOk_no 1 (by decide) h
  · obtain ⟨-, -, a, -, -, hU⟩ := runAt hI hB h c
    rw [runYes hI h c, if_pos rfl, thr0 c one_ne one_ne, goes_yes]
    exact sOk_rd hI.1 h hU.2.2.2.1.1.2.2.1.symm
theorem s_depth {n : Nat} {C M : gCT} (hI : gInv C) (hB : MBI M) (h : sRel n C M) (x : Int32) : sOk n C (m_depth C x).1 (w_out C (m_depth C x)) (q_depth M x) := by
  unfold m_depth q_depth
  dsimp only
  by_cases c : (q_isRun M x).1 = 0
  · rw [runNo hI h c, if_neg n1_ne, thr1 _ _ c, goes_no one_ne]
    exact sOk_no 1 (by decide) h
  · obtain ⟨-, -, a, -, -, hU⟩ := runAt hI hB h c
    rw [runYes hI h c, if_pos rfl, thr0 c one_ne one_ne, goes_yes]
    exact sOk_rd hI.1 h hU.2.2.2.1.1.1.symm
theorem s_question {n : Nat} {C M : gCT} (hI : gInv C) (hB : MBI M) (h : sRel n C M) (x : Int32) : sOk n C (m_question C x).1 (w_out C (m_question C x)) (q_question M x) := by
  unfold m_question q_question
  dsimp only
  by_cases c : (q_isRun M x).1 = 0
  · rw [runNo hI h c, if_neg n1_ne, thr1 _ _ c, goes_no one_ne]
    exact sOk_no 1 (by decide) h
  · obtain ⟨-, -, a, -, -, hU⟩ := runAt hI hB h c
    obtain ⟨-, e4, hs⟩ := hU.2.2.1
    have hq := hU.2.2.2.1.2.1
    rw [runYes hI h c, if_pos rfl, thr0 c one_ne one_ne, goes_yes, ← e4]
    rcases hs with ⟨h4 | h4 | h4, h7⟩ | ⟨h4, h7 | h7 | h7 | h7⟩
    · rw [h4]
      exact sOk_rd hI.1 h (hq h7).symm
    · rw [h4]
      exact sOk_rd hI.1 h (hq h7).symm
    · rw [h4]
      exact sOk_rd hI.1 h (hq h7).symm
    · rw [h4, h7]
      exact sOk_rd hI.1 h rfl
    · rw [h4, h7]
      exact sOk_rd hI.1 h rfl
    · rw [h4, h7]
      exact sOk_rd hI.1 h rfl
    · rw [h4, h7]
      exact sOk_rd hI.1 h rfl
theorem and2_no {a b : Int32} (h : a = 0 ∨ b = 0) : (if a = 0 then (0 : Int32) else if b = 0 then 0 else 1) = 0 := by
  by_cases ha : a = 0
  · rw [if_pos ha]
  · rw [if_neg ha, if_pos (h.resolve_left ha)]
theorem and2_yes {a b : Int32} (h : ¬ a = 0) (h2 : ¬ b = 0) : (if a = 0 then (0 : Int32) else if b = 0 then 0 else 1) = 1 := by rw [if_neg h, if_neg h2]
theorem s_slot {n : Nat} {C M : gCT} (hI : gInv C) (hB : MBI M) (h : sRel n C M) (x y : Int32) : sOk n C (m_slot C x y).1 (w_out C (m_slot C x y)) (q_slot M x y) := by
  unfold m_slot q_slot
  dsimp only
  rw [isB8]
  by_cases c : (q_isRun M x).1 = 0
  · rw [runNo hI h c, if_neg n1_ne, and2_no (Or.inl c), thr1 _ _ rfl, goes_no one_ne]
    exact sOk_no 1 (by decide) h
  · obtain ⟨-, -, a, -, -, hU⟩ := runAt hI hB h c
    rw [runYes hI h c, if_pos rfl]
    by_cases c2 : q_isBelow y 8 = 0
    · rw [if_pos c2, and2_no (Or.inr c2), thr1 _ _ rfl, goes_no one_ne]
      exact sOk_no 1 (by decide) h
    · obtain ⟨-, hy⟩ := q_isBelow_of (N := 8) rfl (by decide) c2
      rw [if_neg c2, and2_yes c c2, thr0 one_ne one_ne one_ne, goes_yes]
      exact sOk_rd hI.1 h (hU.2.2.2.1.2.2.1 _ hy).symm
theorem s_reward {n : Nat} {C M : gCT} (hI : gInv C) (h : sRel n C M) (x : Int32) : sOk n C (m_reward C x).1 (w_out C (m_reward C x)) (q_reward M x) := by
  unfold m_reward q_reward
  dsimp only
  rw [isB16]
  by_cases c : q_isBelow x 16 = 0
  · rw [if_pos c, thr1 _ _ c, goes_no one_ne]
    exact sOk_no 1 (by decide) h
  · obtain ⟨-, hx⟩ := q_isBelow_of (N := 16) rfl (by decide) c
    rw [if_neg c, thr0 c one_ne one_ne, goes_yes]
    exact sOk_rd hI.1 h (h.2.2.1 _ hx).2.2
theorem formNo {C : gCT} {x : Int32} (c : q_isBelow x 4 = 0) : m_formAt C x = 1 := by rw [formAt_eq, if_pos c]
theorem formYes {C : gCT} {x : Int32} (c : ¬ q_isBelow x 4 = 0) : m_formAt C x = 0 := by rw [formAt_eq, if_neg c]
theorem s_budget {n : Nat} {C M : gCT} (hI : gInv C) (h : sRel n C M) (x : Int32) : sOk n C (m_budget C x).1 (w_out C (m_budget C x)) (q_budget M x) := by
  unfold m_budget q_budget
  dsimp only
  by_cases c : q_isBelow x 4 = 0
  · rw [formNo c, if_neg n1_ne, thr1 _ _ c, goes_no one_ne]
    exact sOk_no 1 (by decide) h
  · obtain ⟨-, hx⟩ := q_isBelow_of (N := 4) rfl (by decide) c
    rw [formYes c, if_pos rfl, thr0 c one_ne one_ne, goes_yes]
    exact sOk_rd hI.1 h (h.2.1 _ hx).1.2.2
theorem s_done {n : Nat} {C M : gCT} (hI : gInv C) (h : sRel n C M) (x y : Int32) : sOk n C (m_done C x y).1 (w_out C (m_done C x y)) (q_done M x y) := by
  unfold m_done q_done
  dsimp only
  rw [isB4]
  by_cases c : q_isBelow x 4 = 0
  · rw [formNo c, if_neg n1_ne, and2_no (Or.inl c), thr1 _ _ rfl, goes_no one_ne]
    exact sOk_no 1 (by decide) h
  · obtain ⟨-, hx⟩ := q_isBelow_of (N := 4) rfl (by decide) c
    rw [formYes c, if_pos rfl]
    by_cases c2 : q_isBelow y 4 = 0
    · rw [if_pos c2, and2_no (Or.inr c2), thr1 _ _ rfl, goes_no one_ne]
      exact sOk_no 1 (by decide) h
    · obtain ⟨-, hy⟩ := q_isBelow_of (N := 4) rfl (by decide) c2
      rw [if_neg c2, and2_yes c c2, thr0 one_ne one_ne one_ne, goes_yes]
      exact sOk_rd hI.1 h ((h.2.1 _ hx).2.1 _ hy).2
theorem s_repaid {n : Nat} {C M : gCT} (h : sRel n C M) : (m_repaid C).1 = (q_repaid M).1 ∧ (m_repaid C).2 = C ∧ sRel (n + 1) C (q_repaid M).2 := ⟨h.2.2.2.1, rfl, (h.thr 0).up⟩
theorem s_runs {n : Nat} {C M : gCT} (h : sRel n C M) : (m_runs C).1 = (q_runs M).1 ∧ (m_runs C).2 = C ∧ sRel (n + 1) C (q_runs M).2 := ⟨h.rc, rfl, (h.thr 0).up⟩
/-- the answers of a run are counted -/
theorem q_countOf_at {M : gCT} {a : Nat} (ha : M 20 0 2 = nI a) (ha2 : a ≤ 512) {r : Nat} : ∀ (m n0 k : Nat) (mn : Int32), k + m = a → m < n0 → (q_countOf_L n0 M (nI r) mn k).1 = mn + nI (rLf M r k m).length := by
  intro m
  induction m with
  | zero =>
    intro n0 k mn hk hn0
    obtain ⟨n', rfl⟩ : ∃ k, n0 = k + 1 := ⟨n0 - 1, by omega⟩
    unfold q_countOf_L
    dsimp only
    rw [ha, if_pos ((nat_le rfl rfl (by omega) (by omega)).mpr (by omega))]
    exact (Int32.add_zero mn).symm
  | succ m ih =>
    intro n0 k mn hk hn0
    obtain ⟨n', rfl⟩ : ∃ k, n0 = k + 1 := ⟨n0 - 1, by omega⟩
    unfold q_countOf_L
    dsimp only
    rw [ha, if_neg (fun z => absurd ((nat_le rfl rfl (by omega) (by omega)).mp z) (by omega)), ih n' (k + 1) _ (by omega) (by omega)]
    have eL : rLf M r k (m + 1) = if M 21 30 k = nI r then rT M k :: rLf M r (k + 1) m else rLf M r (k + 1) m := rfl
    rw [eL]
    by_cases c : M 21 30 k = nI r
    · rw [if_pos c, if_pos c, List.length_cons, Int32.add_assoc, show (1 : Int32) = nI 1 from rfl, nI_add, Nat.add_comm]
    · rw [if_neg c, if_neg c, Int32.add_zero]
theorem q_countOf_eq {n : Nat} {C M : gCT} (hn : n ≤ 512) {a r : Nat} (ha : M 20 0 2 = nI a) (han : a ≤ n) (hU : sU C M a r) : (q_countOf M (nI r)).1 = nI (gCnt C r) := by
  have h := q_countOf_at ha (by omega) (r := r) a 513 0 0 (by omega) (by omega)
  rw [Int32.zero_add, ← hU.2.2.2.2.2.1, cLf_len] at h
  exact h
theorem s_answers {n : Nat} (hn : n < 512) {C M : gCT} (hI : gInv C) (hB : MBI M) (h : sRel n C M) (x : Int32) : sOk n C (m_answers C x).1 (w_out C (m_answers C x)) (q_answers M x) := by
  unfold m_answers q_answers
  dsimp only
  by_cases c : (q_isRun M x).1 = 0
  · rw [runNo hI h c, if_neg n1_ne, thr1 _ _ c, goes_no one_ne]
    exact sOk_no 1 (by decide) h
  · obtain ⟨hr, hx, a, han, ha, hU⟩ := runAt hI hB h c
    rw [runYes hI h c, if_pos rfl, thr0 c one_ne one_ne, goes_yes]
    refine sOk_rd hI.1 h ?_
    have e21 : cs M 20 0 3 0 21 = M 21 := cs_k _ _ _ _ (by decide)
    have hU2 : sU C (cs M 20 0 3 0) a x.toNatClampNeg := by
      unfold sU sMa at hU ⊢
      rw [e21, rLf_21 e21]
      exact hU
    have hc := q_countOf_eq (M := cs M 20 0 3 0) (by omega) ((cs_o _ _ _ _ (by decide)).trans ha) han hU2
    rw [hx, hc, ← hx]
    exact (hI.cnt (Or.inl hr)).1

/-! ===== done again: from its start a machine comes to where it is ===== -/
def gReach (E : aE) (F : Int32) (x : aM) : Prop := ∃ n f p : Nat, x.1 2 = nI f ∧ x.1 6 = nI p ∧ p ≤ n ∧ n + f ≤ 201 ∧ (x.1 4 = 4 ∨ x.1 4 = 5 ∨ n + f ≤ 200) ∧ ∀ (y0 : aM) (e : Nat), p + e ≤ 900 → (x.1 4 = 3 → e = 0) → aP E n (a_open (a_reset y0 F) (nI (p + e))) (a_open x (nI e))
theorem a_reset_r (x : aM) (v : Int32) : (a_reset x v).1 0 = 0 ∧ (a_reset x v).1 1 = 0 ∧ (a_reset x v).1 2 = v ∧ (a_reset x v).1 3 = 0 ∧ (a_reset x v).1 4 = 7 ∧ (a_reset x v).1 5 = x.1 5 ∧ (a_reset x v).1 6 = 0 := ⟨rfl, rfl, rfl, rfl, rfl, rfl, rfl⟩
theorem reach_0 (E : aE) {f : Nat} (hf : f ≤ 200) (y : aM) (g : Int32) : gReach E (nI f) (a_open (a_reset y (nI f)) g) := by
  have hr := a_reset_r y (nI f)
  refine ⟨0, f, 0, ?_, ?_, Nat.le_refl _, by omega, Or.inr (Or.inr (by omega)), fun y0 e he _ => ?_⟩
  · rw [O_r _ _ (i := 2) (by decide)]; exact hr.2.2.1
  · rw [O_r _ _ (i := 6) (by decide)]; exact hr.2.2.2.2.2.2
  · have hr0 := a_reset_r y0 (nI f)
    show sEq _ _
    have e1 : a_open (a_open (a_reset y (nI f)) g) (nI e) = a_open (a_reset y (nI f)) (nI e) := Prod.ext (upd_upd _ _ _ _) rfl
    rw [e1, Nat.zero_add]
    refine ⟨fun i h1 h2 => ?_, fun hz => ?_, fun j hj => ?_, fun q hq => ?_, fun j hj => ?_⟩
    · show upd (a_reset y0 (nI f)).1 7 (nI e) i = upd (a_reset y (nI f)).1 7 (nI e) i
      by_cases i7 : i = 7
      · subst i7; rw [upd_s, upd_s]
      refine upd_cong 7 (nI e) ?_
      have : i = 0 ∨ i = 1 ∨ i = 2 ∨ i = 3 ∨ i = 4 ∨ i = 6 := by omega
      rcases this with rfl | rfl | rfl | rfl | rfl | rfl
      · rw [hr0.1, hr.1]
      · rw [hr0.2.1, hr.2.1]
      · rw [hr0.2.2.1, hr.2.2.1]
      · rw [hr0.2.2.2.1, hr.2.2.2.1]
      · rw [hr0.2.2.2.2.1, hr.2.2.2.2.1]
      · rw [hr0.2.2.2.2.2.2, hr.2.2.2.2.2.2]
    · rw [O_r _ _ (i := 4) (by decide), hr0.2.2.2.2.1] at hz
      exact absurd hz (by decide)
    · show (if j < 8 then 0 else y0.2.2.1 j) = if j < 8 then 0 else y.2.2.1 j
      rw [if_pos hj, if_pos hj]
    · show (if q < 16 then 0 else y0.2.2.2 q) = if q < 16 then 0 else y.2.2.2 q
      rw [if_pos hq, if_pos hq]
    · rw [O_r _ _ (i := 0) (by decide), hr0.1] at hj
      exact absurd hj (Nat.not_lt_zero _)
theorem reach_step {E : aE} (hE : aFit E) {F : Int32} {x : aM} (h : gReach E F x) (hI : aI x) (h7 : x.1 4 = 7) {g0 : Nat} (hg : g0 ≤ 1000) (e7 : x.1 7 = nI g0) : gReach E F (a_step E x) ∧ ∃ g1 : Nat, g1 ≤ 1000 ∧ (a_step E x).1 7 = nI g1 := by
  obtain ⟨n, f, p, h1, h2, h3, h4, h5, h6⟩ := h
  have hnf : n + f ≤ 200 := by
    rcases h5 with h5 | h5 | h5
    · rw [h7] at h5; exact absurd h5 (by decide)
    · rw [h7] at h5; exact absurd h5 (by decide)
    · exact h5
  obtain ⟨f', k1, k2, k3⟩ := a_step_fuel hE hI h1 (by omega)
  obtain ⟨d, d1, d2, d3, d4, d5⟩ := aG_step E x g0 hg e7
  refine ⟨⟨n + 1, f', p + d, k1, ?_, by omega, by omega, ?_, fun y0 e he hz => ?_⟩, g0 - d, by omega, d4⟩
  · rw [d3, h2, nI_add]
  · rcases k3 with k3 | k3
    · rcases k3 with k3 | k3
      · exact Or.inl k3
      · exact Or.inr (Or.inl k3)
    · exact Or.inr (Or.inr (by omega))
  · have hs := d5 e (by omega) hz
    rw [← hs, Nat.add_assoc]
    refine aP.snoc n (h6 y0 (d + e) (by omega) (fun q => absurd (h7.symm.trans q) (by decide))) ?_
    rw [O_r _ _ (i := 4) (by decide)]
    exact h7
theorem reach_L {E : aE} (hE : aFit E) {F : Int32} : ∀ (n : Nat) {x : aM} {g0 : Nat}, gReach E F x → aI x → g0 ≤ 1000 → x.1 7 = nI g0 → gReach E F (a_L E n x) ∧ aI (a_L E n x) := by
  intro n
  induction n with
  | zero => intro x g0 h hI _ _; exact ⟨h, hI⟩
  | succ n ih =>
    intro x g0 h hI hg e7
    unfold a_L
    by_cases h7 : x.1 4 = 7
    · rw [if_pos h7]
      obtain ⟨k1, g1, k2, k3⟩ := reach_step hE h hI h7 hg e7
      exact ih k1 (hI.step hE) k2 k3
    · rw [if_neg h7]
      exact ⟨h, hI⟩
/-- the fuel is enough of a bound -/
theorem a_L_ends {E : aE} (hE : aFit E) : ∀ (n : Nat) {x : aM} {f : Nat}, aI x → x.1 2 = nI f → f ≤ 200 → f + 1 ≤ n → (a_L E n x).1 4 ≠ 7 := by
  intro n
  induction n with
  | zero => intro x f _ _ _ h; omega
  | succ n ih =>
    intro x f hI hf hf2 hn
    unfold a_L
    by_cases h7 : x.1 4 = 7
    · rw [if_pos h7]
      obtain ⟨f', k1, k2, k3⟩ := a_step_fuel hE hI hf hf2
      rcases k3 with k3 | k3
      · have hne : (a_step E x).1 4 ≠ 7 := by
          rcases k3 with k3 | k3 <;> rw [k3] <;> decide
        cases n with
        | zero => exact hne
        | succ n => unfold a_L; rw [if_neg hne]; exact hne
      · exact ih (hI.step hE) k1 (by omega) (by omega)
    · rw [if_neg h7]
      exact h7
/-- what doing it again finds -/
theorem reach_fin {E : aE} {F : Int32} {x : aM} (h : gReach E F x) (h7 : x.1 4 ≠ 7) (y0 : aM) : (a_L E 201 (a_open (a_reset y0 F) (x.1 6))).1 2 = x.1 2 ∧ ∀ j, j < 8 → (a_L E 201 (a_open (a_reset y0 F) (x.1 6))).2.2.1 j = x.2.2.1 j := by
  obtain ⟨n, f, p, h1, h2, h3, h4, h5, h6⟩ := h
  have hP := h6 y0 0 (by omega) (fun _ => rfl)
  have hs := hP.fin n 201 (by rw [O_r _ _ (i := 4) (by decide)]; exact h7) (by omega)
  rw [Nat.add_zero, ← h2] at hs
  exact ⟨(hs.1 2 (by decide) (by decide)).trans (O_r _ _ (i := 2) (by decide)), hs.2.2.1⟩
/-- one answer more -/
def a4 (x y : aM) : Prop := y.1 4 = x.1 4 ∨ y.1 4 = 5
theorem a4.tr {x y z : aM} (h : a4 x y) (g : a4 y z) : a4 x z := by
  rcases g with g | g
  · rcases h with h | h
    · exact Or.inl (g.trans h)
    · exact Or.inr (g.trans h)
  · exact Or.inr g
theorem a4.put (x : aM) (v : Int32) : a4 x (a_put x v) := by
  unfold a_put
  split
  · exact Or.inr (sr_s x 4 5)
  · exact Or.inl (show upd x.1 0 (x.1 0 + 1) 4 = x.1 4 from upd_o _ _ (by decide))
theorem a4.take (x : aM) : a4 x (a_take x).2 := by
  unfold a_take
  split
  · exact Or.inr (sr_s x 4 5)
  · exact Or.inl (show upd x.1 0 (x.1 0 - 1) 4 = x.1 4 from upd_o _ _ (by decide))
theorem a4.comb (x : aM) (v : Int32) : a4 x (a_comb x v) := by
  have h := (a4.take x).tr (a4.take (a_take x).2)
  unfold a_comb
  split
  · exact h.tr (a4.put _ _)
  · exact h
theorem a_put_t (x : aM) (v : Int32) : (a_put x v).2.2.2 = x.2.2.2 := by
  unfold a_put
  split <;> rfl
theorem a_take_t (x : aM) : (a_take x).2.2.2.2 = x.2.2.2 := by
  unfold a_take
  split <;> rfl
theorem a_comb_t (x : aM) (v : Int32) : (a_comb x v).2.2.2 = x.2.2.2 := by
  unfold a_comb
  split
  · rw [a_put_t, a_take_t, a_take_t]
  · rw [a_take_t, a_take_t]
/-- but for ASK, no instruction waits, nor counts a question -/
theorem a_perf_ne0 (ans : Int32 → Int32 → Int32) {x : aM} {i : Int32} (v : Int32) (i0 : ¬ i = 0) (h7 : x.1 4 = 7) : (a_perf ans x i v).1 4 ≠ 0 ∧ (a_perf ans x i v).2.2.2 = x.2.2.2 := by
  have key : ∀ y : aM, a4 x y → y.1 4 ≠ 0 := by
    intro y hy
    rcases hy with hy | hy
    · rw [hy, h7]; decide
    · rw [hy]; decide
  have hg : (a_gate x).2.2.2.2 = x.2.2.2 := by
    unfold a_gate
    split <;> rfl
  have hst : ∀ w : Int32, w ≠ 0 → (a_st (a_gate x).2 w).1 4 ≠ 0 ∧ (a_st (a_gate x).2 w).2.2.2 = x.2.2.2 := fun w hw => ⟨by rw [show (a_st (a_gate x).2 w).1 4 = w from sr_s _ 4 w]; exact hw, hg⟩
  have hp : ∀ w : Int32, (a_put x w).1 4 ≠ 0 ∧ (a_put x w).2.2.2 = x.2.2.2 := fun w => ⟨key _ (a4.put x w), a_put_t x w⟩
  have hc : ∀ w : Int32, (a_comb x w).1 4 ≠ 0 ∧ (a_comb x w).2.2.2 = x.2.2.2 := fun w => ⟨key _ (a4.comb x w), a_comb_t x w⟩
  have ht : (a_take x).2.1 4 ≠ 0 ∧ (a_take x).2.2.2.2 = x.2.2.2 := ⟨key _ (a4.take x), a_take_t x⟩
  refine perf_cases (P := fun y => y.1 4 ≠ 0 ∧ y.2.2.2 = x.2.2.2) ans x i v (fun e => absurd e i0) hp (fun _ => ?_) (hc _) (fun _ => ?_) (fun _ => ?_) ?_ hst
  · unfold a_store
    split
    · split
      · exact ht
      · exact ht
    · exact ht
  · exact ⟨by rw [sr_o x 1 4 v (by decide), h7]; decide, rfl⟩
  · unfold a_jz
    split
    · split
      · exact ⟨by rw [sr_o (a_take x).2 1 4 v (by decide)]; exact ht.1, ht.2⟩
      · exact ht
    · exact ht
  · exact ⟨by rw [sr_o x 3 4 _ (by decide), h7]; decide, rfl⟩
theorem a_pay_4 {E : aE} {y : aM} (c : ¬ (a_pay E y).1 = -1) (h7 : y.1 4 = 7) : (a_pay E y).2.1 4 = 7 := by
  unfold a_pay at c ⊢
  by_cases c1 : m_isWithin (y.1 1) 0 (E.2.2.2 - 1) = 0
  · rw [if_pos c1] at c; exact absurd rfl c
  rw [if_neg c1] at c ⊢
  by_cases c2 : a_cost E y ≤ y.1 2
  · rw [if_pos c2]
    show upd (upd y.1 2 (y.1 2 - a_cost E y)) 1 (y.1 1 + 1) 4 = 7
    rw [upd_o _ _ (show (4 : Nat) ≠ 1 by decide), upd_o _ _ (show (4 : Nat) ≠ 2 by decide), h7]
  · rw [if_neg c2] at c; exact absurd rfl c
theorem a_pay_t (E : aE) (y : aM) : (a_pay E y).2.2.2.2 = y.2.2.2 := by
  unfold a_pay
  split
  · rfl
  · split <;> rfl
theorem sEq.tr {x y z : aM} (h : sEq x y) (g : sEq y z) : sEq x z := by
  have e4 := h.1 4 (by decide) (by decide)
  have e0 := h.1 0 (by decide) (by decide)
  exact ⟨fun i h1 h2 => (h.1 i h1 h2).trans (g.1 i h1 h2), fun hz => (h.2.1 hz).trans (g.2.1 (e4.symm.trans hz)), fun j hj => (h.2.2.1 j hj).trans (g.2.2.1 j hj), fun q hq => (h.2.2.2.1 q hq).trans (g.2.2.2.1 q hq), fun j hj => (h.2.2.2.2 j hj).trans (g.2.2.2.2 j (by rw [← e0]; exact hj))⟩
theorem a_step_ext {E E' : aE} (hc : E'.2 = E.2) (hext : ∀ q n, ¬ E.1 q n = -1 → E'.1 q n = E.1 q n) {y : aM} (h7 : y.1 4 = 7) (hIy : aI y) : (a_step E' y = a_step E y ∧ (a_step E y).1 4 ≠ 0) ∨ ((a_step E y).1 4 = 0 ∧ (¬ E'.1 ((a_step E y).1 5) (m_at (a_step E y).2.2.2 16 ((a_step E y).1 5)) = -1 → sEq (a_step E' y) (a_put (a_st (a_step E y) 7) (E'.1 ((a_step E y).1 5) (m_at (a_step E y).2.2.2 16 ((a_step E y).1 5)))))) := by
  have hp : a_pay E' y = a_pay E y := by
    unfold a_pay a_cost
    rw [hc]
  unfold a_step
  rw [hp, hc]
  by_cases c : (a_pay E y).1 = -1
  · rw [if_pos c, if_pos c]
    refine Or.inl ⟨rfl, ?_⟩
    rcases a_pay_no c hIy with e | e <;> rw [e]
    · rw [show (a_st y 5).1 4 = 5 from sr_s y 4 5]; decide
    · rw [show (a_st y 4).1 4 = 4 from sr_s y 4 4]; decide
  rw [if_neg c, if_neg c]
  have h4 := a_pay_4 c h7
  generalize (a_pay E y).2 = z at h4
  generalize m_at E.2.1 24 (a_pay E y).1 = i
  generalize m_at E.2.2.1 24 (a_pay E y).1 = v
  by_cases i0 : i = 0
  · subst i0
    have e1 : ∀ ans, a_perf ans z 0 v = a_ask ans z v := fun ans => by unfold a_perf; rw [if_pos rfl]
    rw [e1, e1]
    by_cases ha : E.1 v (m_at (m_addF 16 z.2.2.2 v 1) 16 v) = -1
    · have hs : a_ask E.1 z v = (upd (upd z.1 5 v) 4 0, z.2.1, z.2.2.1, m_addF 16 z.2.2.2 v 1) := by
        unfold a_ask
        rw [if_pos ha]
      have hq : (a_ask E.1 z v).1 5 = v := by
        rw [hs]
        show upd (upd z.1 5 v) 4 0 5 = v
        rw [upd_o _ _ (show (5 : Nat) ≠ 4 by decide), upd_s]
      refine Or.inr ⟨by rw [hs]; exact upd_s (upd z.1 5 v) 4 0, fun hne => ?_⟩
      rw [hq] at hne ⊢
      have ht : (a_ask E.1 z v).2.2.2 = m_addF 16 z.2.2.2 v 1 := by rw [hs]
      rw [ht] at hne ⊢
      have hs' : a_ask E'.1 z v = a_put (z.1, z.2.1, z.2.2.1, m_addF 16 z.2.2.2 v 1) (E'.1 v (m_at (m_addF 16 z.2.2.2 v 1) 16 v)) := by
        unfold a_ask
        rw [if_neg hne]
      rw [hs', hs]
      refine sEq.put ?_ _
      refine ⟨fun j h1 h2 => ?_, fun hz => ?_, fun _ _ => rfl, fun _ _ => rfl, fun _ _ => rfl⟩
      · show z.1 j = upd (upd (upd z.1 5 v) 4 0) 4 7 j
        rw [upd_upd]
        by_cases hj : j = 4
        · subst hj; rw [upd_s, h4]
        · rw [upd_o _ _ hj, upd_o _ _ h2]
      · exact absurd (h4.symm.trans hz) (by decide)
    · have hs : a_ask E.1 z v = a_put (z.1, z.2.1, z.2.2.1, m_addF 16 z.2.2.2 v 1) (E.1 v (m_at (m_addF 16 z.2.2.2 v 1) 16 v)) := by
        unfold a_ask
        rw [if_neg ha]
      refine Or.inl ⟨?_, ?_⟩
      · unfold a_ask
        rw [hext _ _ ha, if_neg ha]
      · rw [hs]
        rcases a4.put (z.1, z.2.1, z.2.2.1, m_addF 16 z.2.2.2 v 1) (E.1 v (m_at (m_addF 16 z.2.2.2 v 1) 16 v)) with e | e
        · rw [e]; show z.1 4 ≠ 0; rw [h4]; decide
        · rw [e]; decide
  · refine Or.inl ⟨?_, (a_perf_ne0 E.1 v i0 h4).1⟩
    unfold a_perf
    rw [if_neg i0, if_neg i0]
theorem aP.ext {E E' : aE} (hE : aFit E) (hc : E'.2 = E.2) (hext : ∀ q n, ¬ E.1 q n = -1 → E'.1 q n = E.1 q n) {v : Int32} (hv : ¬ v = -1) : ∀ (n : Nat) {y z : aM}, aI y → aP E n y z → y.1 4 = 7 → z.1 4 = 0 → E'.1 (z.1 5) (m_at z.2.2.2 16 (z.1 5)) = v → aP E' n y (a_put (a_st z 7) v) := by
  intro n
  induction n with
  | zero =>
    intro y z _ h h7 h0 _
    have := (h.1 4 (by decide) (by decide))
    rw [h7, h0] at this
    exact absurd this (by decide)
  | succ n ih =>
    intro y z hI h h7 h0 hz
    refine ⟨h7, ?_⟩
    have hP := h.2
    rcases a_step_ext hc hext h7 hI with ⟨e, e0⟩ | ⟨e1, e2⟩
    · rw [e]
      by_cases h8 : (a_step E y).1 4 = 7
      · exact ih (hI.step hE) hP h8 h0 hz
      · cases n with
        | zero =>
          have hP : sEq (a_step E y) z := hP
          exact absurd ((hP.1 4 (by decide) (by decide)).trans h0) e0
        | succ n => exact absurd hP.1 h8
    · cases n with
      | zero =>
        have hP : sEq (a_step E y) z := hP
        have q5 := hP.2.1 e1
        have qa : m_at (a_step E y).2.2.2 16 (z.1 5) = m_at z.2.2.2 16 (z.1 5) := m_at_cong (by decide) hP.2.2.2.1 _
        rw [q5, qa, hz] at e2
        exact (e2 hv).tr ((hP.sta (w := 7) (by decide)).put v)
      | succ n =>
        have := hP.1
        rw [e1] at this
        exact absurd this (by decide)
theorem aI.reset {y : aM} {f : Nat} (hf : f ≤ 200) (g : Int32) : aI (a_open (a_reset y (nI f)) g) := by
  have hr := a_reset_r y (nI f)
  refine ⟨⟨0, by decide, ?_⟩, ⟨0, by decide, ?_⟩, ⟨f, hf, ?_⟩⟩
  · rw [O_r _ _ (i := 0) (by decide)]; exact hr.1
  · rw [O_r _ _ (i := 1) (by decide)]; exact hr.2.1
  · rw [O_r _ _ (i := 2) (by decide)]; exact hr.2.2.1
/-- an answer comes: from the start, with it among the answers, the machine comes to where it is with it -/
theorem reach_ans {E E' : aE} (hE : aFit E) (hc : E'.2 = E.2) (hext : ∀ q n, ¬ E.1 q n = -1 → E'.1 q n = E.1 q n) {f0 : Nat} (hf0 : f0 ≤ 200) {x : aM} (h : gReach E (nI f0) x) (h0 : x.1 4 = 0) {v : Int32} (hv : ¬ v = -1) (hz : E'.1 (x.1 5) (m_at x.2.2.2 16 (x.1 5)) = v) : gReach E' (nI f0) (a_put (a_st x 7) v) := by
  obtain ⟨n, f, p, h1, h2, h3, h4, h5, h6⟩ := h
  have hnf : n + f ≤ 200 := by
    rcases h5 with h5 | h5 | h5
    · rw [h0] at h5; exact absurd h5 (by decide)
    · rw [h0] at h5; exact absurd h5 (by decide)
    · exact h5
  have hst : ∀ k : Nat, k ≠ 4 → (a_st x 7).1 k = x.1 k := fun k hk => sr_o x 4 k 7 hk
  refine ⟨n, f, p, ?_, ?_, h3, h4, Or.inr (Or.inr hnf), fun y0 e he _ => ?_⟩
  · rw [a_put_r _ _ (by decide) (by decide), hst 2 (by decide)]; exact h1
  · rw [a_put_r _ _ (by decide) (by decide), hst 6 (by decide)]; exact h2
  · have hP := h6 y0 e he (fun q => absurd (h0.symm.trans q) (by decide))
    have h7 : (a_open (a_reset y0 (nI f0)) (nI (p + e))).1 4 = 7 := by rw [O_r _ _ (i := 4) (by decide)]; exact (a_reset_r y0 (nI f0)).2.2.2.2.1
    have e4 : (a_open x (nI e)).1 4 = 0 := by rw [O_r _ _ (i := 4) (by decide)]; exact h0
    have e5 : (a_open x (nI e)).1 5 = x.1 5 := O_r _ _ (i := 5) (by decide)
    have hR := aP.ext hE hc hext hv n (aI.reset hf0 _) hP h7 e4 (by rw [e5]; exact hz)
    have es : a_put (a_st (a_open x (nI e)) 7) v = a_open (a_put (a_st x 7) v) (nI e) := by
      rw [show a_st (a_open x (nI e)) 7 = a_open (a_st x 7) (nI e) from O_reg x _ 4 7 (by decide)]
      exact O_put _ _ _
    rw [← es]
    exact hR

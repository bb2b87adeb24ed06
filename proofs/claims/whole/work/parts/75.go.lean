/-! ===== a run goes on, in the class: what it leaves ===== -/
theorem m_at_nat (g : Nat → Int32) {i N : Nat} (hi : i < N) (hN : N < 2 ^ 31) (v : Int32) : m_at g N (nI i) = g i ∧ m_addF N g (nI i) v = upd g i (g i + v) := by
  have h1 : ¬ nI i < 0 := fun e => absurd ((nat_lt rfl (show (0 : Int32) = nI 0 from rfl) (by omega) (by decide)).mp e) (Nat.not_lt_zero _)
  have h2 : ¬ nI N ≤ nI i := fun e => absurd ((nat_le rfl rfl (by omega) (by omega)).mp e) (by omega)
  unfold m_at m_addF
  rw [if_neg h1, if_neg h2, if_neg h1, if_neg h2, nI_clamp (by omega)]
  exact ⟨rfl, rfl⟩
def goG (C : gCT) (f p : Nat) : Nat := if C 6 f (p % 4) < C 5 f (p % 4) then 1000 else 0
def goZ (C : gCT) (r f p : Nat) : aM := a_L (envC C r) 201 (a_open (aGet C r) (nI (goG C f p)))
def goW (C : gCT) (f : Nat) (z : aM) : Int32 := if C 4 f 2 < z.1 3 then C 4 f 2 else z.1 3
def go8 (C : gCT) (r : Nat) (z : aM) : gCT := cs (aPut C r z) 11 r 4 (z.1 4)
theorem go8_k (C : gCT) (r : Nat) (z : aM) {κ : Nat} (h : κ < 7 ∨ 11 < κ) : go8 C r z κ = C κ := by
  unfold go8
  rw [cs_k _ _ _ _ (by omega), aPut_k C r z (by omega)]
theorem go8_n (C : gCT) (r : Nat) (z : aM) {n : Nat} (h : n ≠ r) (κ : Nat) : go8 C r z κ n = C κ n := by
  unfold go8
  by_cases e : κ = 11
  · subst e; rw [cs_n _ _ _ _ h, aPut_n C r z h]
  · rw [cs_k _ _ _ _ e, aPut_n C r z h]
theorem go8_11 (C : gCT) (r : Nat) (z : aM) (j : Nat) : go8 C r z 11 r j = if j = 4 then z.1 4 else C 11 r j := by
  unfold go8
  by_cases e : j = 4
  · subst e; rw [if_pos rfl, cs_s]
  · rw [if_neg e, cs_o _ _ _ _ e, aPut_k C r z (by decide)]
theorem go8_7 (C : gCT) (r : Nat) (z : aM) : go8 C r z 7 r = z.1 ∧ go8 C r z 8 r = z.2.1 ∧ go8 C r z 9 r = z.2.2.1 ∧ go8 C r z 10 r = z.2.2.2 := by
  unfold go8
  rw [cs_k _ _ _ _ (by decide), cs_k _ _ _ _ (by decide), cs_k _ _ _ _ (by decide), cs_k _ _ _ _ (by decide), aPut_7, aPut_8, aPut_9, aPut_10]
  exact ⟨rfl, rfl, rfl, rfl⟩
theorem go_at {C : gCT} {r f p : Nat} (hf : f < 4) (h6 : C 11 r 6 = nI f) (h1 : C 11 r 1 = nI (p % 4)) (hp : p < 16) (h0 : C 11 r 0 = nI p) : m_go C r = if (goZ C r f p).1 4 = 2 then g2 (cs (g2 (go8 C r (goZ C r f p)) 6 f (upd (C 6 f) (p % 4) (C 6 f (p % 4) + 1))) 4 f 2 (C 4 f 2 - goW C f (goZ C r f p))) 19 0 (upd (C 19 0) p (C 19 0 p + goW C f (goZ C r f p))) else if (goZ C r f p).1 4 = 5 then cs (cs (go8 C r (goZ C r f p)) 4 f 2 (C 4 f 2 + C 11 r 5)) 0 0 0 (C 0 0 0 + C 11 r 5) else if (goZ C r f p).1 4 = 4 then cs (cs (go8 C r (goZ C r f p)) 4 f 2 (C 4 f 2 + C 11 r 5)) 0 0 0 (C 0 0 0 + C 11 r 5) else go8 C r (goZ C r f p) := by
  have hfull : (if (m_isFullFor C f (nI (p % 4))).1 = 0 then (1000 : Int32) else 0) = nI (goG C f p) := by
    unfold m_isFullFor goG
    dsimp only
    rw [(m_at_nat (C 6 f) (i := p % 4) (N := 4) (by omega) (by decide) 0).1, (m_at_nat (C 5 f) (i := p % 4) (N := 4) (by omega) (by decide) 0).1]
    by_cases c : C 6 f (p % 4) < C 5 f (p % 4)
    · rw [if_pos c, if_pos c]; rfl
    · rw [if_neg c, if_neg c]; rfl
  have hgo : m_goOn C r r (nI (goG C f p)) = aPut C r (goZ C r f p) := by
    have := A_goOn C r r (aGet C r) (nI (goG C f p))
    rwa [aPut_aGet] at this
  unfold m_go
  dsimp only
  rw [h1, h6, nI_clamp (by omega), hfull, hgo]
  generalize goZ C r f p = z
  have e8 : cs (aPut C r z) 11 r 4 (aPut C r z 7 r 4) = go8 C r z := by rw [aPut_7]; rfl
  rw [e8]
  have e4 : go8 C r z 11 r 4 = z.1 4 := by rw [go8_11, if_pos rfl]
  have e5 : go8 C r z 11 r 5 = C 11 r 5 := by rw [go8_11, if_neg (by decide)]
  have e6 : (go8 C r z 11 r 6).toNatClampNeg = f := by rw [go8_11, if_neg (by decide), h6, nI_clamp (by omega)]
  have e1 : go8 C r z 11 r 1 = nI (p % 4) := by rw [go8_11, if_neg (by decide)]; exact h1
  have e0 : go8 C r z 11 r 0 = nI p := by rw [go8_11, if_neg (by decide)]; exact h0
  have ek : ∀ {κ : Nat}, (κ < 7 ∨ 11 < κ) → go8 C r z κ = C κ := fun h => go8_k C r z h
  rw [e4, e6, e5, e1, ek (show 4 < 7 ∨ 11 < 4 by decide)]
  by_cases c2 : z.1 4 = 2
  · rw [if_pos c2, if_pos c2]
    have eA : m_addTo (go8 C r z) 6 f 4 (nI (p % 4)) 1 = g2 (go8 C r z) 6 f (upd (C 6 f) (p % 4) (C 6 f (p % 4) + 1)) := by
      unfold m_addTo
      rw [(m_at_nat (go8 C r z 6 f) (i := p % 4) (N := 4) (by omega) (by decide) 1).2, ek (show 6 < 7 ∨ 11 < 6 by decide)]
    rw [eA]
    have g7 : g2 (go8 C r z) 6 f (upd (C 6 f) (p % 4) (C 6 f (p % 4) + 1)) 7 = go8 C r z 7 := g2_k _ _ (by decide)
    have g4 : g2 (go8 C r z) 6 f (upd (C 6 f) (p % 4) (C 6 f (p % 4) + 1)) 4 = C 4 := (g2_k _ _ (by decide)).trans (ek (by decide))
    have g11 : g2 (go8 C r z) 6 f (upd (C 6 f) (p % 4) (C 6 f (p % 4) + 1)) 11 = go8 C r z 11 := g2_k _ _ (by decide)
    have g19 : g2 (go8 C r z) 6 f (upd (C 6 f) (p % 4) (C 6 f (p % 4) + 1)) 19 = C 19 := (g2_k _ _ (by decide)).trans (ek (by decide))
    rw [g7, g4, g11, e6, (go8_7 C r z).1]
    show m_pay2 _ r (goW C f z) = _
    unfold m_pay2
    dsimp only
    rw [g11, e6, g4, cs_k _ _ _ _ (show (11 : Nat) ≠ 4 by decide), g11, e0]
    unfold m_addTo
    rw [cs_k _ _ _ _ (show (19 : Nat) ≠ 4 by decide), g19, (m_at_nat (C 19 0) hp (by decide) _).2]
  · rw [if_neg c2, if_neg c2]
    have k11 : ∀ v, cs (go8 C r z) 4 f 2 v 11 = go8 C r z 11 := fun v => cs_k _ _ _ _ (by decide)
    have k0 : ∀ v, cs (go8 C r z) 4 f 2 v 0 = C 0 := fun v => (cs_k _ _ _ _ (by decide)).trans (ek (by decide))
    rw [k11, e5, k0]
/-- the states in which a machine can be after a step -/
def aV (w : Int32) : Prop := w = 0 ∨ w = 2 ∨ w = 3 ∨ w = 4 ∨ w = 5 ∨ w = 7
theorem aV.of4 {x y : aM} (hx : x.1 4 = 7) (h : a4 x y) : aV (y.1 4) := by
  rcases h with h | h
  · rw [h, hx]; unfold aV; decide
  · rw [h]; unfold aV; decide
theorem aV.perf (ans : Int32 → Int32 → Int32) {x : aM} (i v : Int32) (hx : x.1 4 = 7) : aV ((a_perf ans x i v).1 4) := by
  have hp : ∀ w, aV ((a_put x w).1 4) := fun w => aV.of4 hx (a4.put x w)
  have hc : ∀ w, aV ((a_comb x w).1 4) := fun w => aV.of4 hx (a4.comb x w)
  have ht : aV ((a_take x).2.1 4) := aV.of4 hx (a4.take x)
  have h7 : aV (x.1 4) := by rw [hx]; unfold aV; decide
  have hg : ∀ w, aV w → aV ((a_st (a_gate x).2 w).1 4) := fun w hw => by
    rw [show (a_st (a_gate x).2 w).1 4 = w from sr_s _ 4 w]; exact hw
  have hg1 : ∀ {c : Prop} [Decidable c] {w : Int32}, aV w → aV (if c then (3 : Int32) else w) := by
    intro c _ w hw
    split
    · unfold aV; decide
    · exact hw
  have ha : aV ((a_ask ans x v).1 4) := by
    unfold a_ask
    split
    · exact Or.inl (upd_s (upd x.1 5 v) 4 0)
    · exact aV.of4 (x := (x.1, x.2.1, x.2.2.1, m_addF 16 x.2.2.2 v 1)) hx (a4.put _ _)
  have hs : aV ((a_store x v).1 4) := by
    unfold a_store
    split
    · split <;> exact ht
    · exact ht
  have hj : aV ((a_jz x v).1 4) := by
    unfold a_jz
    split
    · split
      · rw [show ((upd (a_take x).2.1 1 v, (a_take x).2.2) : aM).1 4 = (a_take x).2.1 4 from sr_o (a_take x).2 1 4 v (by decide)]; exact ht
      · exact ht
    · exact ht
  have h8 : aV (((upd x.1 1 v, x.2) : aM).1 4) := by rw [sr_o x 1 4 v (by decide)]; exact h7
  have h10 : aV (((upd x.1 3 (x.1 3 + v), x.2) : aM).1 4) := by rw [sr_o x 3 4 _ (by decide)]; exact h7
  have v7 : aV 7 := by unfold aV; decide
  have v2 : aV 2 := by unfold aV; decide
  unfold a_perf
  by_cases i0 : i = 0
  · rw [if_pos i0]; exact ha
  rw [if_neg i0]
  by_cases i1 : i = 1
  · rw [if_pos i1]; exact hp _
  rw [if_neg i1]
  by_cases i2 : i = 2
  · rw [if_pos i2]; exact hp _
  rw [if_neg i2]
  by_cases i3 : i = 3
  · rw [if_pos i3]; exact hs
  rw [if_neg i3]
  by_cases i4 : i = 4
  · rw [if_pos i4]; exact hc _
  rw [if_neg i4]
  by_cases i5 : i = 5
  · rw [if_pos i5]; exact hc _
  rw [if_neg i5]
  by_cases i6 : i = 6
  · rw [if_pos i6]; exact hc _
  rw [if_neg i6]
  by_cases i7 : i = 7
  · rw [if_pos i7]; exact hc _
  rw [if_neg i7]
  by_cases i8 : i = 8
  · rw [if_pos i8]; exact h8
  rw [if_neg i8]
  by_cases i9 : i = 9
  · rw [if_pos i9]; exact hj
  rw [if_neg i9]
  by_cases i10 : i = 10
  · rw [if_pos i10]; exact h10
  rw [if_neg i10]
  by_cases i11 : i = 11
  · rw [if_pos i11]; exact hg _ (hg1 v7)
  rw [if_neg i11]
  by_cases i12 : i = 12
  · rw [if_pos i12]; exact hg _ (hg1 v2)
  rw [if_neg i12]
  exact hc _
theorem aV.step (E : aE) {x : aM} (hI : aI x) (hx : x.1 4 = 7) : aV ((a_step E x).1 4) := by
  unfold a_step
  by_cases c : (a_pay E x).1 = -1
  · rw [if_pos c]
    rcases a_pay_no c hI with e | e
    · rw [e, show (a_st x 5).1 4 = 5 from sr_s x 4 5]; unfold aV; decide
    · rw [e, show (a_st x 4).1 4 = 4 from sr_s x 4 4]; unfold aV; decide
  · rw [if_neg c]
    exact aV.perf _ _ _ (a_pay_4 c hx)
theorem aV.loop {E : aE} (hE : aFit E) : ∀ (n : Nat) {x : aM}, aI x → aV (x.1 4) → aV ((a_L E n x).1 4) := by
  intro n
  induction n with
  | zero => intro x _ h; exact h
  | succ n ih =>
    intro x hI h
    unfold a_L
    by_cases h7 : x.1 4 = 7
    · rw [if_pos h7]; exact ih (hI.step hE) (aV.step E hI h7)
    · rw [if_neg h7]; exact h

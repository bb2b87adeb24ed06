/-! ===== the reference's run, and the machine alone ===== -/
theorem cs_rd (C : gCT) (κ n j : Nat) (v : Int32) (κ' n' j' : Nat) : cs C κ n j v κ' n' j' = if κ' = κ ∧ n' = n ∧ j' = j then v else C κ' n' j' := by
  unfold cs g2 upd
  by_cases h1 : κ' = κ ∧ n' = n
  · rw [if_pos h1]
    by_cases h2 : j' = j
    · rw [if_pos h2, if_pos ⟨h1.1, h1.2, h2⟩]
    · rw [if_neg h2, if_neg (fun e => h2 e.2.2), h1.1, h1.2]
  · rw [if_neg h1, if_neg (fun e => h1 ⟨e.1, e.2.1⟩)]
/-- what a run's machine has in the reference -/
def mach (r κ n j : Nat) : Prop := κ = 21 ∧ (((n = 18 ∨ n = 20 ∨ n = 22 ∨ n = 23 ∨ n = 24 ∨ n = 25) ∧ j = r) ∨ ((n = 19 ∨ n = 21) ∧ j / 8 = r) ∨ (n = 28 ∧ j / 16 = r))
/-- money, and what is counted as done -/
def mony (κ n j : Nat) : Prop := (κ = 20 ∧ n = 0 ∧ j = 0) ∨ (κ = 21 ∧ (n = 8 ∨ n = 10 ∨ n = 13))
def aR (M0 : gCT) (r : Nat) (x : aM) (M : gCT) : Prop := (M 21 20 r = x.1 0 ∧ M 21 18 r = x.1 1 ∧ M 21 23 r = x.1 2 ∧ M 21 22 r = x.1 3 ∧ M 21 24 r = x.1 4) ∧ (x.1 4 = 0 → M 21 25 r = x.1 5) ∧ (∀ j, j < 8 → M 21 21 (8 * r + j) = x.2.2.1 j) ∧ (∀ q, q < 16 → M 21 28 (16 * r + q) = x.2.2.2 q) ∧ (∀ j, j < 8 → j < (x.1 0).toNatClampNeg → M 21 19 (8 * r + j) = x.2.1 j) ∧ ∀ κ n j, ¬ mach r κ n j → ¬ mony κ n j → M κ n j = M0 κ n j
def aMon (M0 : gCT) (r : Nat) (st bonus : Int32) : Int32 × (Nat → Int32) × (Nat → Int32) × (Nat → Int32) :=
  if st = 5 ∨ st = 4 then (M0 20 0 0 + M0 21 26 r, upd (M0 21 8) (M0 21 16 r).toNatClampNeg (M0 21 8 (M0 21 16 r).toNatClampNeg + M0 21 26 r), M0 21 10, M0 21 13)
  else if st = 2 then (M0 20 0 0, upd (M0 21 8) (M0 21 16 r).toNatClampNeg (M0 21 8 (M0 21 16 r).toNatClampNeg - (if M0 21 8 (M0 21 16 r).toNatClampNeg ≤ bonus then M0 21 8 (M0 21 16 r).toNatClampNeg else bonus)), upd (M0 21 10) (q_panelOf M0 r).1.toNatClampNeg (M0 21 10 (q_panelOf M0 r).1.toNatClampNeg + 1), upd (M0 21 13) (M0 21 15 r).toNatClampNeg (M0 21 13 (M0 21 15 r).toNatClampNeg + (if M0 21 8 (M0 21 16 r).toNatClampNeg ≤ bonus then M0 21 8 (M0 21 16 r).toNatClampNeg else bonus)))
  else (M0 20 0 0, M0 21 8, M0 21 10, M0 21 13)
def aS (M0 : gCT) (r : Nat) (x : aM) (M : gCT) : Prop := aR M0 r x M ∧ (M 20 0 0, M 21 8, M 21 10, M 21 13) = aMon M0 r (x.1 4) (x.1 3)
theorem aMon_live (M0 : gCT) (r : Nat) {st : Int32} (bonus : Int32) (h : st = 7 ∨ st = 0 ∨ st = 3) : aMon M0 r st bonus = (M0 20 0 0, M0 21 8, M0 21 10, M0 21 13) := by
  unfold aMon
  rw [if_neg, if_neg]
  · rcases h with rfl | rfl | rfl <;> decide
  · rcases h with rfl | rfl | rfl <;> decide
theorem aR.place {M0 : gCT} {r : Nat} {x : aM} {M : gCT} (h : aR M0 r x M) (v : Int32) : aR M0 r (upd x.1 1 v, x.2) (cs M 21 18 r v) := by
  obtain ⟨⟨h20, h18, h23, h22, h24⟩, h25, hsl, has, hst, hfr⟩ := h
  refine ⟨⟨?_, ?_, ?_, ?_, ?_⟩, ?_, fun j hj => ?_, fun q hq => ?_, fun j hj hjh => ?_, fun κ n j hm hn => ?_⟩
  · rw [cs_rd, if_neg (by omega)]; exact h20.trans (sr_o x 1 0 v (by decide)).symm
  · rw [cs_rd, if_pos (by omega)]; exact (sr_s x 1 v).symm
  · rw [cs_rd, if_neg (by omega)]; exact h23.trans (sr_o x 1 2 v (by decide)).symm
  · rw [cs_rd, if_neg (by omega)]; exact h22.trans (sr_o x 1 3 v (by decide)).symm
  · rw [cs_rd, if_neg (by omega)]; exact h24.trans (sr_o x 1 4 v (by decide)).symm
  · intro hz; rw [cs_rd, if_neg (by omega)]; rw [sr_o x 1 4 v (by decide)] at hz; rw [sr_o x 1 5 v (by decide)]; exact h25 hz
  · rw [cs_rd, if_neg (by omega)]; exact hsl j hj
  · rw [cs_rd, if_neg (by omega)]; exact has q hq
  · rw [cs_rd, if_neg (by omega)]; rw [sr_o x 1 0 v (by decide)] at hjh; exact hst j hj hjh
  · rw [cs_rd, if_neg (by unfold mach at hm; omega)]; exact hfr κ n j hm hn
theorem aR.fuel {M0 : gCT} {r : Nat} {x : aM} {M : gCT} (h : aR M0 r x M) (v : Int32) : aR M0 r (upd x.1 2 v, x.2) (cs M 21 23 r v) := by
  obtain ⟨⟨h20, h18, h23, h22, h24⟩, h25, hsl, has, hst, hfr⟩ := h
  refine ⟨⟨?_, ?_, ?_, ?_, ?_⟩, ?_, fun j hj => ?_, fun q hq => ?_, fun j hj hjh => ?_, fun κ n j hm hn => ?_⟩
  · rw [cs_rd, if_neg (by omega)]; exact h20.trans (sr_o x 2 0 v (by decide)).symm
  · rw [cs_rd, if_neg (by omega)]; exact h18.trans (sr_o x 2 1 v (by decide)).symm
  · rw [cs_rd, if_pos (by omega)]; exact (sr_s x 2 v).symm
  · rw [cs_rd, if_neg (by omega)]; exact h22.trans (sr_o x 2 3 v (by decide)).symm
  · rw [cs_rd, if_neg (by omega)]; exact h24.trans (sr_o x 2 4 v (by decide)).symm
  · intro hz; rw [cs_rd, if_neg (by omega)]; rw [sr_o x 2 4 v (by decide)] at hz; rw [sr_o x 2 5 v (by decide)]; exact h25 hz
  · rw [cs_rd, if_neg (by omega)]; exact hsl j hj
  · rw [cs_rd, if_neg (by omega)]; exact has q hq
  · rw [cs_rd, if_neg (by omega)]; rw [sr_o x 2 0 v (by decide)] at hjh; exact hst j hj hjh
  · rw [cs_rd, if_neg (by unfold mach at hm; omega)]; exact hfr κ n j hm hn
theorem aR.bonus {M0 : gCT} {r : Nat} {x : aM} {M : gCT} (h : aR M0 r x M) (v : Int32) : aR M0 r (upd x.1 3 v, x.2) (cs M 21 22 r v) := by
  obtain ⟨⟨h20, h18, h23, h22, h24⟩, h25, hsl, has, hst, hfr⟩ := h
  refine ⟨⟨?_, ?_, ?_, ?_, ?_⟩, ?_, fun j hj => ?_, fun q hq => ?_, fun j hj hjh => ?_, fun κ n j hm hn => ?_⟩
  · rw [cs_rd, if_neg (by omega)]; exact h20.trans (sr_o x 3 0 v (by decide)).symm
  · rw [cs_rd, if_neg (by omega)]; exact h18.trans (sr_o x 3 1 v (by decide)).symm
  · rw [cs_rd, if_neg (by omega)]; exact h23.trans (sr_o x 3 2 v (by decide)).symm
  · rw [cs_rd, if_pos (by omega)]; exact (sr_s x 3 v).symm
  · rw [cs_rd, if_neg (by omega)]; exact h24.trans (sr_o x 3 4 v (by decide)).symm
  · intro hz; rw [cs_rd, if_neg (by omega)]; rw [sr_o x 3 4 v (by decide)] at hz; rw [sr_o x 3 5 v (by decide)]; exact h25 hz
  · rw [cs_rd, if_neg (by omega)]; exact hsl j hj
  · rw [cs_rd, if_neg (by omega)]; exact has q hq
  · rw [cs_rd, if_neg (by omega)]; rw [sr_o x 3 0 v (by decide)] at hjh; exact hst j hj hjh
  · rw [cs_rd, if_neg (by unfold mach at hm; omega)]; exact hfr κ n j hm hn
theorem aR.state {M0 : gCT} {r : Nat} {x : aM} {M : gCT} (h : aR M0 r x M) (v : Int32) (hv : v ≠ 0) : aR M0 r (a_st x v) (cs M 21 24 r v) := by
  obtain ⟨⟨h20, h18, h23, h22, h24⟩, h25, hsl, has, hst, hfr⟩ := h
  refine ⟨⟨?_, ?_, ?_, ?_, ?_⟩, ?_, fun j hj => ?_, fun q hq => ?_, fun j hj hjh => ?_, fun κ n j hm hn => ?_⟩
  · rw [cs_rd, if_neg (by omega)]; exact h20.trans (sr_o x 4 0 v (by decide)).symm
  · rw [cs_rd, if_neg (by omega)]; exact h18.trans (sr_o x 4 1 v (by decide)).symm
  · rw [cs_rd, if_neg (by omega)]; exact h23.trans (sr_o x 4 2 v (by decide)).symm
  · rw [cs_rd, if_neg (by omega)]; exact h22.trans (sr_o x 4 3 v (by decide)).symm
  · rw [cs_rd, if_pos (by omega)]; exact (sr_s x 4 v).symm
  · intro hz; exact absurd ((sr_s x 4 v).symm.trans hz) hv
  · rw [cs_rd, if_neg (by omega)]; exact hsl j hj
  · rw [cs_rd, if_neg (by omega)]; exact has q hq
  · rw [cs_rd, if_neg (by omega)]; rw [show (a_st x v).1 0 = x.1 0 from sr_o x 4 0 v (by decide)] at hjh; exact hst j hj hjh
  · rw [cs_rd, if_neg (by unfold mach at hm; omega)]; exact hfr κ n j hm hn
theorem aR.waits {M0 : gCT} {r : Nat} {x : aM} {M : gCT} (h : aR M0 r x M) (q : Int32) : aR M0 r (upd (upd x.1 5 q) 4 0, x.2) (cs (cs M 21 24 r 0) 21 25 r q) := by
  obtain ⟨⟨h20, h18, h23, h22, h24⟩, h25, hsl, has, hst, hfr⟩ := h
  refine ⟨⟨?_, ?_, ?_, ?_, ?_⟩, ?_, fun j hj => ?_, fun q hq => ?_, fun j hj hjh => ?_, fun κ n j hm hn => ?_⟩
  · rw [cs_rd, if_neg (by omega), cs_rd, if_neg (by omega)]; show M 21 20 r = upd (upd x.1 5 q) 4 0 0; rw [upd_o _ _ (show (0 : Nat) ≠ 4 by decide), upd_o _ _ (show (0 : Nat) ≠ 5 by decide)]; exact h20
  · rw [cs_rd, if_neg (by omega), cs_rd, if_neg (by omega)]; show M 21 18 r = upd (upd x.1 5 q) 4 0 1; rw [upd_o _ _ (show (1 : Nat) ≠ 4 by decide), upd_o _ _ (show (1 : Nat) ≠ 5 by decide)]; exact h18
  · rw [cs_rd, if_neg (by omega), cs_rd, if_neg (by omega)]; show M 21 23 r = upd (upd x.1 5 q) 4 0 2; rw [upd_o _ _ (show (2 : Nat) ≠ 4 by decide), upd_o _ _ (show (2 : Nat) ≠ 5 by decide)]; exact h23
  · rw [cs_rd, if_neg (by omega), cs_rd, if_neg (by omega)]; show M 21 22 r = upd (upd x.1 5 q) 4 0 3; rw [upd_o _ _ (show (3 : Nat) ≠ 4 by decide), upd_o _ _ (show (3 : Nat) ≠ 5 by decide)]; exact h22
  · rw [cs_rd, if_neg (by omega), cs_rd, if_pos (by omega)]; exact (upd_s (upd x.1 5 q) 4 0).symm
  · intro _; rw [cs_rd, if_pos (by omega)]; show q = upd (upd x.1 5 q) 4 0 5; rw [upd_o _ _ (show (5 : Nat) ≠ 4 by decide), upd_s]
  · rw [cs_rd, if_neg (by omega), cs_rd, if_neg (by omega)]; exact hsl j hj
  · rw [cs_rd, if_neg (by omega), cs_rd, if_neg (by omega)]; exact has q hq
  · rw [cs_rd, if_neg (by omega), cs_rd, if_neg (by omega)]; exact hst j hj (by have e : upd (upd x.1 5 q) 4 0 0 = x.1 0 := (upd_o _ _ (by decide)).trans (upd_o _ _ (by decide)); rw [← e]; exact hjh)
  · rw [cs_rd, if_neg (by unfold mach at hm; omega), cs_rd, if_neg (by unfold mach at hm; omega)]; exact hfr κ n j hm hn
theorem aR.slot {M0 : gCT} {r : Nat} {x : aM} {M : gCT} (h : aR M0 r x M) {i : Nat} (hi : i < 8) (v : Int32) : aR M0 r (x.1, x.2.1, upd x.2.2.1 i v, x.2.2.2) (cs M 21 21 (8 * r + i) v) := by
  obtain ⟨⟨h20, h18, h23, h22, h24⟩, h25, hsl, has, hst, hfr⟩ := h
  refine ⟨⟨?_, ?_, ?_, ?_, ?_⟩, ?_, fun j hj => ?_, fun q hq => ?_, fun j hj hjh => ?_, fun κ n j hm hn => ?_⟩
  · rw [cs_rd, if_neg (by omega)]; exact h20
  · rw [cs_rd, if_neg (by omega)]; exact h18
  · rw [cs_rd, if_neg (by omega)]; exact h23
  · rw [cs_rd, if_neg (by omega)]; exact h22
  · rw [cs_rd, if_neg (by omega)]; exact h24
  · intro hz; rw [cs_rd, if_neg (by omega)]; exact h25 hz
  · exact if e : j = i then (by subst e; rw [cs_rd, if_pos (by omega)]; exact (upd_s x.2.2.1 j v).symm) else (by rw [cs_rd, if_neg (by omega)]; exact (hsl j hj).trans (upd_o x.2.2.1 v e).symm)
  · rw [cs_rd, if_neg (by omega)]; exact has q hq
  · rw [cs_rd, if_neg (by omega)]; exact hst j hj hjh
  · rw [cs_rd, if_neg (by unfold mach at hm; omega)]; exact hfr κ n j hm hn
theorem aR.askd {M0 : gCT} {r : Nat} {x : aM} {M : gCT} (h : aR M0 r x M) {i : Nat} (hi : i < 16) (v : Int32) : aR M0 r (x.1, x.2.1, x.2.2.1, upd x.2.2.2 i v) (cs M 21 28 (16 * r + i) v) := by
  obtain ⟨⟨h20, h18, h23, h22, h24⟩, h25, hsl, has, hst, hfr⟩ := h
  refine ⟨⟨?_, ?_, ?_, ?_, ?_⟩, ?_, fun j hj => ?_, fun q hq => ?_, fun j hj hjh => ?_, fun κ n j hm hn => ?_⟩
  · rw [cs_rd, if_neg (by omega)]; exact h20
  · rw [cs_rd, if_neg (by omega)]; exact h18
  · rw [cs_rd, if_neg (by omega)]; exact h23
  · rw [cs_rd, if_neg (by omega)]; exact h22
  · rw [cs_rd, if_neg (by omega)]; exact h24
  · intro hz; rw [cs_rd, if_neg (by omega)]; exact h25 hz
  · rw [cs_rd, if_neg (by omega)]; exact hsl j hj
  · exact if e : q = i then (by subst e; rw [cs_rd, if_pos (by omega)]; exact (upd_s x.2.2.2 q v).symm) else (by rw [cs_rd, if_neg (by omega)]; exact (has q hq).trans (upd_o x.2.2.2 v e).symm)
  · rw [cs_rd, if_neg (by omega)]; exact hst j hj hjh
  · rw [cs_rd, if_neg (by unfold mach at hm; omega)]; exact hfr κ n j hm hn
theorem aR.push {M0 : gCT} {r : Nat} {x : aM} {M : gCT} (h : aR M0 r x M) {k : Nat} (hk : k < 8) (ek : x.1 0 = nI k) (v : Int32) : aR M0 r (upd x.1 0 (nI (k + 1)), upd x.2.1 k v, x.2.2) (cs (cs M 21 19 (8 * r + k) v) 21 20 r (nI (k + 1))) := by
  obtain ⟨⟨h20, h18, h23, h22, h24⟩, h25, hsl, has, hst, hfr⟩ := h
  refine ⟨⟨?_, ?_, ?_, ?_, ?_⟩, ?_, fun j hj => ?_, fun q hq => ?_, fun j hj hjh => ?_, fun κ n j hm hn => ?_⟩
  · rw [cs_rd, if_pos (by omega)]; exact (upd_s x.1 0 (nI (k + 1))).symm
  · rw [cs_rd, if_neg (by omega), cs_rd, if_neg (by omega)]; exact h18.trans (upd_o x.1 (nI (k + 1)) (show (1 : Nat) ≠ 0 by decide)).symm
  · rw [cs_rd, if_neg (by omega), cs_rd, if_neg (by omega)]; exact h23.trans (upd_o x.1 (nI (k + 1)) (show (2 : Nat) ≠ 0 by decide)).symm
  · rw [cs_rd, if_neg (by omega), cs_rd, if_neg (by omega)]; exact h22.trans (upd_o x.1 (nI (k + 1)) (show (3 : Nat) ≠ 0 by decide)).symm
  · rw [cs_rd, if_neg (by omega), cs_rd, if_neg (by omega)]; exact h24.trans (upd_o x.1 (nI (k + 1)) (show (4 : Nat) ≠ 0 by decide)).symm
  · intro hz; rw [cs_rd, if_neg (by omega), cs_rd, if_neg (by omega)]; exact (h25 ((upd_o x.1 (nI (k + 1)) (show (4 : Nat) ≠ 0 by decide)).symm.trans hz)).trans (upd_o x.1 (nI (k + 1)) (show (5 : Nat) ≠ 0 by decide)).symm
  · rw [cs_rd, if_neg (by omega), cs_rd, if_neg (by omega)]; exact hsl j hj
  · rw [cs_rd, if_neg (by omega), cs_rd, if_neg (by omega)]; exact has q hq
  · have hjh : j < (upd x.1 0 (nI (k + 1)) 0).toNatClampNeg := hjh; rw [upd_s, nI_clamp (by omega)] at hjh; exact if e : j = k then (by subst e; rw [cs_rd, if_neg (by omega), cs_rd, if_pos (by omega)]; exact (upd_s x.2.1 j v).symm) else (by rw [cs_rd, if_neg (by omega), cs_rd, if_neg (by omega)]; exact (hst j hj (by rw [ek, nI_clamp (by omega)]; omega)).trans (upd_o x.2.1 v e).symm)
  · rw [cs_rd, if_neg (by unfold mach at hm; omega), cs_rd, if_neg (by unfold mach at hm; omega)]; exact hfr κ n j hm hn
theorem aR.pop {M0 : gCT} {r : Nat} {x : aM} {M : gCT} (h : aR M0 r x M) {k : Nat} (hk : k ≤ 8) (ek : x.1 0 = nI k) : aR M0 r (upd x.1 0 (nI (k - 1)), x.2) (cs M 21 20 r (nI (k - 1))) := by
  obtain ⟨⟨h20, h18, h23, h22, h24⟩, h25, hsl, has, hst, hfr⟩ := h
  refine ⟨⟨?_, ?_, ?_, ?_, ?_⟩, ?_, fun j hj => ?_, fun q hq => ?_, fun j hj hjh => ?_, fun κ n j hm hn => ?_⟩
  · rw [cs_rd, if_pos (by omega)]; exact (upd_s x.1 0 (nI (k - 1))).symm
  · rw [cs_rd, if_neg (by omega)]; exact h18.trans (upd_o x.1 (nI (k - 1)) (show (1 : Nat) ≠ 0 by decide)).symm
  · rw [cs_rd, if_neg (by omega)]; exact h23.trans (upd_o x.1 (nI (k - 1)) (show (2 : Nat) ≠ 0 by decide)).symm
  · rw [cs_rd, if_neg (by omega)]; exact h22.trans (upd_o x.1 (nI (k - 1)) (show (3 : Nat) ≠ 0 by decide)).symm
  · rw [cs_rd, if_neg (by omega)]; exact h24.trans (upd_o x.1 (nI (k - 1)) (show (4 : Nat) ≠ 0 by decide)).symm
  · intro hz; rw [cs_rd, if_neg (by omega)]; exact (h25 ((upd_o x.1 (nI (k - 1)) (show (4 : Nat) ≠ 0 by decide)).symm.trans hz)).trans (upd_o x.1 (nI (k - 1)) (show (5 : Nat) ≠ 0 by decide)).symm
  · rw [cs_rd, if_neg (by omega)]; exact hsl j hj
  · rw [cs_rd, if_neg (by omega)]; exact has q hq
  · have hjh : j < (upd x.1 0 (nI (k - 1)) 0).toNatClampNeg := hjh; rw [upd_s, nI_clamp (by omega)] at hjh; rw [cs_rd, if_neg (by omega)]; exact hst j hj (by rw [ek, nI_clamp (by omega)]; omega)
  · rw [cs_rd, if_neg (by unfold mach at hm; omega)]; exact hfr κ n j hm hn
theorem aR.mny {M0 : gCT} {r : Nat} {x : aM} {M : gCT} (h : aR M0 r x M) {κ n j : Nat} (v : Int32) (hm : mony κ n j) : aR M0 r x (cs M κ n j v) := by
  obtain ⟨⟨h20, h18, h23, h22, h24⟩, h25, hsl, has, hst, hfr⟩ := h
  have e : ∀ n' j', n' ≠ 8 → n' ≠ 10 → n' ≠ 13 → cs M κ n j v 21 n' j' = M 21 n' j' := by
    intro n' j' k1 k2 k3
    rw [cs_rd, if_neg]
    rintro ⟨e1, e2, -⟩
    rcases hm with hm | hm
    · omega
    · omega
  refine ⟨⟨?_, ?_, ?_, ?_, ?_⟩, fun hz => ?_, fun i hi => ?_, fun q hq => ?_, fun i hi hj => ?_, fun κ' n' j' k1 k2 => ?_⟩
  · rw [e _ _ (by decide) (by decide) (by decide)]; exact h20
  · rw [e _ _ (by decide) (by decide) (by decide)]; exact h18
  · rw [e _ _ (by decide) (by decide) (by decide)]; exact h23
  · rw [e _ _ (by decide) (by decide) (by decide)]; exact h22
  · rw [e _ _ (by decide) (by decide) (by decide)]; exact h24
  · rw [e _ _ (by decide) (by decide) (by decide)]; exact h25 hz
  · rw [e _ _ (by decide) (by decide) (by decide)]; exact hsl i hi
  · rw [e _ _ (by decide) (by decide) (by decide)]; exact has q hq
  · rw [e _ _ (by decide) (by decide) (by decide)]; exact hst i hi hj
  · rw [cs_rd, if_neg (fun z => k2 (by rw [z.1, z.2.1, z.2.2]; exact hm))]
    exact hfr κ' n' j' k1 k2

/-! ===== the reference goes on, as the machine alone does ===== -/
/-- the gates: none, or more than the fuel can pay for -/
def gGt (M0 : gCT) (r : Nat) (x : aM) : Prop := ∃ g f : Nat, x.1 7 = nI g ∧ g ≤ 1000 ∧ (x.1 2 = nI f ∧ f ≤ 200) ∧ (M0 21 10 (q_panelOf M0 r).1.toNatClampNeg < M0 21 9 (q_panelOf M0 r).1.toNatClampNeg → f < g) ∧ (¬ M0 21 10 (q_panelOf M0 r).1.toNatClampNeg < M0 21 9 (q_panelOf M0 r).1.toNatClampNeg → g = 0)
theorem isW_place {p n : Nat} (hp : p ≤ 24) (hn : n ≤ 24) : m_isWithin (nI p) 0 (nI n - 1) = 0 ↔ n ≤ p := by
  have : ∀ p : Nat, p < 25 → ∀ n : Nat, n < 25 → (m_isWithin (nI p) 0 (nI n - 1) = 0 ↔ n ≤ p) := by decide +kernel
  exact this p (by omega) n (by omega)
theorem gGt.op0 {M0 : gCT} {r : Nat} {x : aM} (h : gGt M0 r x) : gOpen M0 r x := by
  obtain ⟨g, f, h1, h2, -, h3, h4⟩ := h
  unfold gOpen
  rw [h1]
  refine ⟨fun c => (nat_lt (show (0 : Int32) = nI 0 from rfl) rfl (by decide) (by omega)).mpr (by have := h3 c; omega), fun c => Decidable.byContradiction (fun q => ?_)⟩
  rw [h4 q] at c
  exact absurd c (by decide)
theorem gGt.step {M0 : gCT} {r : Nat} {E : aE} (hE : aFit E) {x : aM} (h : gGt M0 r x) (hI : aI x) (h7 : (a_step E x).1 4 = 7) : gGt M0 r (a_step E x) := by
  obtain ⟨g, f, h1, h2, ⟨h3, hf⟩, h4, h5⟩ := h
  obtain ⟨f', k1, k2, k3⟩ := a_step_fuel hE hI h3 hf
  obtain ⟨d, d1, d2, d3, d4, -⟩ := aG_step E x g h2 h1
  have hff : f' + 1 ≤ f := by
    rcases k3 with k3 | k3
    · rcases k3 with k3 | k3 <;> rw [h7] at k3 <;> exact absurd k3 (by decide)
    · exact k3
  exact ⟨g - d, f', d4, by omega, ⟨k1, by omega⟩, fun c => by have := h4 c; omega, fun c => by have := h5 c; omega⟩
theorem gOpen.pay {M0 : gCT} {r : Nat} {E : aE} {x : aM} (h : gOpen M0 r x) : gOpen M0 r (a_pay E x).2 := by
  unfold gOpen
  rw [a_pay_r E x (by decide) (by decide) (by decide)]
  exact h
theorem S_loop {M0 : gCT} {r o : Nat} {E : aE} (hE : qE M0 r o E) (hF : aFit E) {cnt : Nat → Nat} (hC : aC cnt E) : ∀ (n0 n : Nat) {x : aM} {M : gCT} {f : Nat}, aS M0 r x M → aI x → aK cnt x → (x.1 4 = 7 → gGt M0 r x) → x.1 2 = nI f → f ≤ 200 → f + 2 ≤ n0 → f + 1 ≤ n → aS M0 r (a_L E n x) (q_goesOn_L n0 M r o) := by
  intro n0
  induction n0 with
  | zero => intro n x M f _ _ _ _ _ _ h; omega
  | succ n0 ih =>
    intro n x M f h hI hK hg hf hf2 hn0 hn
    obtain ⟨n, rfl⟩ : ∃ k, n = k + 1 := ⟨n - 1, by omega⟩
    have e4 := h.1.1.2.2.2.2
    have e1 := h.1.1.2.1
    have e2 := h.1.1.2.2.1
    unfold q_goesOn_L a_L
    by_cases h7 : x.1 4 = 7
    · rw [if_pos h7]
      have hg7 := hg h7
      obtain ⟨lenN, hlen, elen⟩ := hF.1
      obtain ⟨p, hp24, ep⟩ := hI.2.1
      have f5 : M 21 5 = M0 21 5 := h.1.fr21 (by decide)
      have f3 : M 21 3 = M0 21 3 := h.1.fr21 (by decide)
      have f4 : M 21 4 = M0 21 4 := h.1.fr21 (by decide)
      have elen0 : M0 21 5 o = nI lenN := by rw [← hE.2.1, elen]
      obtain ⟨f', k1, k2, k3⟩ := a_step_fuel hF hI hf hf2
      have hK' : ∀ q, q < 16 → ∃ d : Nat, d ≤ 513 ∧ x.2.2.2 q = nI d := by
        intro q hq
        obtain ⟨d, z1, z2, -⟩ := hK.1 q hq
        have := (hC q hq).1
        exact ⟨d, by omega, z1⟩
      -- what a step that ends leads to
      have fin : ∀ (M' : gCT), aS M0 r (a_step E x) M' → aS M0 r (a_L E n (a_step E x)) (q_goesOn_L n0 M' r o) := by
        intro M' hS
        by_cases c7 : (a_step E x).1 4 = 7
        · have hff : f' + 1 ≤ f := by
            rcases k3 with k3 | k3
            · rcases k3 with k3 | k3 <;> rw [c7] at k3 <;> exact absurd k3 (by decide)
            · exact k3
          exact ih n hS (hI.step hF) (hK.step hF hC hI h7) (fun c => hg7.step hF hI c) k1 (by omega) (by omega) (by omega)
        · have ea : a_L E n (a_step E x) = a_step E x := by
            cases n with
            | zero => rfl
            | succ n => unfold a_L; rw [if_neg c7]
          have eq : q_goesOn_L n0 M' r o = M' := by
            cases n0 with
            | zero => rfl
            | succ n0 =>
              unfold q_goesOn_L
              dsimp only
              rw [hS.1.1.2.2.2.2, if_neg c7]
          rw [ea, eq]
          exact hS
      dsimp only
      rw [e4, if_pos h7, e1, ep, f5, elen0, f3, f4, e2, hf]
      by_cases hpl : p < lenN
      · have c0 : ¬ nI lenN ≤ nI p := fun z => absurd ((nat_le rfl rfl (by omega) (by omega)).mp z) (by omega)
        rw [if_neg c0, if_neg (show ¬ (1 : Int32) = 0 by decide), if_neg (show ¬ (1 : Int32) = 0 by decide), if_neg (show ¬ (1 : Int32) = 0 by decide), nI_clamp (by omega)]
        obtain ⟨ei, ea⟩ := hE.1 p (by omega) (by rw [elen]; exact (nat_lt rfl rfl (by omega) (by omega)).mpr hpl)
        have hw : ¬ m_isWithin (x.1 1) 0 (E.2.2.2 - 1) = 0 := by
          rw [ep, elen]
          exact fun z => absurd ((isW_place hp24 hlen).mp z) (by omega)
        have ec : a_cost E x = if M0 21 3 (24 * o + p) = 0 then 3 else 1 := by
          unfold a_cost
          rw [ep, a_at24 p (by omega), ei]
        rw [← ec]
        by_cases hc : a_cost E x ≤ nI f
        · rw [if_pos hc]
          have hpay : (a_pay E x) = (nI p, upd (upd x.1 2 (nI f - a_cost E x)) 1 (nI p + 1), x.2) := by
            unfold a_pay
            rw [if_neg hw, hf, if_pos hc, ep, Int32.add_sub_cancel]
          have hnp : ¬ (a_pay E x).1 = -1 := by
            rw [hpay]
            intro z
            have h2 : (nI p).toInt = (-1 : Int32).toInt := by rw [show nI p = -1 from z]
            rw [nI_toInt (by omega)] at h2
            exact absurd h2 (by simp)
          have hst : a_step E x = a_perf E.1 (a_pay E x).2 (M0 21 3 (24 * o + p)) (M0 21 4 (24 * o + p)) := by
            unfold a_step
            rw [if_neg hnp]
            rw [show (a_pay E x).1 = nI p by rw [hpay], a_at24 p (by omega), a_at24 p (by omega), ei, ea]
          refine fin _ ?_
          rw [hst]
          have hS2 : aS M0 r (a_pay E x).2 (cs (cs M 21 23 r (nI f - a_cost E x)) 21 18 r (nI p + 1)) := by
            rw [hpay]
            have hm := h.qm (Or.inl h7)
            exact aS.mk ((h.1.fuel (nI f - a_cost E x)).place (nI p + 1)) (Or.inl (by rw [← a_pay_4 hnp h7, hpay])) (qm_cs (qm_cs hm _ _ (by decide)) _ _ (by decide))
          have hIp : aI (a_pay E x).2 := by
            obtain ⟨p', n', f0, c, z1, z2, z3, z4, z5, z6, z7, z8, z9, z10, z11, z12, -⟩ := a_pay_ok hF hI hnp
            rw [z12]
            refine ⟨?_, ⟨p' + 1, by omega, ?_⟩, ⟨f0 - c, by omega, ?_⟩⟩
            · obtain ⟨k, hk, ek⟩ := hI.1
              refine ⟨k, hk, ?_⟩
              show upd (upd x.1 2 (nI (f0 - c))) 1 (nI (p' + 1)) 0 = nI k
              rw [upd_o _ _ (show (0 : Nat) ≠ 1 by decide), upd_o _ _ (show (0 : Nat) ≠ 2 by decide), ek]
            · show upd (upd x.1 2 (nI (f0 - c))) 1 (nI (p' + 1)) 1 = nI (p' + 1)
              rw [upd_s]
            · show upd (upd x.1 2 (nI (f0 - c))) 1 (nI (p' + 1)) 2 = nI (f0 - c)
              rw [upd_o _ _ (show (2 : Nat) ≠ 1 by decide), upd_s]
          have hfit : gFit (M0 21 3 (24 * o + p)) (M0 21 4 (24 * o + p)) := by
            rw [← ei, ← ea]
            exact hF.2 p (by omega) (by rw [elen]; exact (nat_lt rfl rfl (by omega) (by omega)).mpr hpl)
          exact S_does hE hS2 (a_pay_4 hnp h7) hIp hg7.op0.pay hfit (fun q hq => by rw [a_pay_t]; exact hK' q hq)
        · rw [if_neg hc]
          refine fin _ ?_
          have hpay : (a_pay E x) = (-1, a_st x 4) := by
            unfold a_pay
            rw [if_neg hw, hf, if_neg hc]
          have hst : a_step E x = a_st x 4 := by
            unfold a_step
            rw [hpay, if_pos rfl]
          rw [hst]
          exact S_end h h7 (Or.inr (Or.inl rfl))
      · have c0 : nI lenN ≤ nI p := (nat_le rfl rfl (by omega) (by omega)).mpr (by omega)
        rw [if_pos c0, if_pos (show (0 : Int32) = 0 from rfl), if_pos (show (0 : Int32) = 0 from rfl)]
        refine fin _ ?_
        have hw : m_isWithin (x.1 1) 0 (E.2.2.2 - 1) = 0 := by
          rw [ep, elen]
          exact (isW_place hp24 hlen).mpr (by omega)
        have hpay : (a_pay E x) = (-1, a_st x 5) := by
          unfold a_pay
          rw [if_pos hw]
        have hst : a_step E x = a_st x 5 := by
          unfold a_step
          rw [hpay, if_pos rfl]
        rw [hst]
        exact S_end h h7 (Or.inl rfl)
    · rw [if_neg h7]
      dsimp only
      rw [e4, if_neg h7]
      exact h

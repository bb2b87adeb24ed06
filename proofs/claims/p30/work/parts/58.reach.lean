/-! ===== what the numbers of a machine are, in a run ===== -/
def aFit (E : aE) : Prop := (∃ n : Nat, n ≤ 24 ∧ E.2.2.2 = nI n) ∧ ∀ j : Nat, j < 24 → nI j < E.2.2.2 → gFit (E.2.1 j) (E.2.2.1 j)
theorem sr_s (x : aM) (i : Nat) (v : Int32) : ((upd x.1 i v, x.2) : aM).1 i = v := upd_s _ _ _
theorem sr_o (x : aM) (i k : Nat) (v : Int32) (h : k ≠ i) : ((upd x.1 i v, x.2) : aM).1 k = x.1 k := upd_o _ _ h
theorem perf_cases {P : aM → Prop} (ans : Int32 → Int32 → Int32) (x : aM) (i v : Int32) (h0 : i = 0 → P (a_ask ans x v)) (hp : ∀ w, P (a_put x w)) (h3 : i = 3 → P (a_store x v)) (hc : P (a_comb x i)) (h8 : i = 8 → P (upd x.1 1 v, x.2)) (h9 : i = 9 → P (a_jz x v)) (h10 : P (upd x.1 3 (x.1 3 + v), x.2)) (hg : ∀ w, w ≠ 0 → P (a_st (a_gate x).2 w)) : P (a_perf ans x i v) := by
  unfold a_perf
  by_cases i0 : i = 0
  · rw [if_pos i0]; exact h0 i0
  rw [if_neg i0]
  by_cases i1 : i = 1
  · rw [if_pos i1]; exact hp _
  rw [if_neg i1]
  by_cases i2 : i = 2
  · rw [if_pos i2]; exact hp _
  rw [if_neg i2]
  by_cases i3 : i = 3
  · rw [if_pos i3]; exact h3 i3
  rw [if_neg i3]
  by_cases i4 : i = 4
  · rw [if_pos i4]; exact hc
  rw [if_neg i4]
  by_cases i5 : i = 5
  · rw [if_pos i5]; exact hc
  rw [if_neg i5]
  by_cases i6 : i = 6
  · rw [if_pos i6]; exact hc
  rw [if_neg i6]
  by_cases i7 : i = 7
  · rw [if_pos i7]; exact hc
  rw [if_neg i7]
  by_cases i8 : i = 8
  · rw [if_pos i8]; exact h8 i8
  rw [if_neg i8]
  by_cases i9 : i = 9
  · rw [if_pos i9]; exact h9 i9
  rw [if_neg i9]
  by_cases i10 : i = 10
  · rw [if_pos i10]; exact h10
  rw [if_neg i10]
  by_cases i11 : i = 11
  · rw [if_pos i11]; exact hg _ (gate_w (by decide) (by decide))
  rw [if_neg i11]
  by_cases i12 : i = 12
  · rw [if_pos i12]; exact hg _ (gate_w (by decide) (by decide))
  rw [if_neg i12]
  exact hc
/-- height, place, fuel -/
def aI (x : aM) : Prop := (∃ h : Nat, h ≤ 8 ∧ x.1 0 = nI h) ∧ (∃ p : Nat, p ≤ 24 ∧ x.1 1 = nI p) ∧ ∃ f : Nat, f ≤ 200 ∧ x.1 2 = nI f
theorem aI.reg {x : aM} (h : aI x) {i : Nat} (v : Int32) (hi : i ≠ 0 ∧ i ≠ 1 ∧ i ≠ 2) : aI (upd x.1 i v, x.2) := by
  obtain ⟨h0, h1, h2⟩ := h
  refine ⟨?_, ?_, ?_⟩
  · rw [show (upd x.1 i v, x.2).1 0 = x.1 0 from upd_o _ _ (Ne.symm hi.1)]; exact h0
  · rw [show (upd x.1 i v, x.2).1 1 = x.1 1 from upd_o _ _ (Ne.symm hi.2.1)]; exact h1
  · rw [show (upd x.1 i v, x.2).1 2 = x.1 2 from upd_o _ _ (Ne.symm hi.2.2)]; exact h2
theorem aI.oth {x y : aM} (h : aI x) (e : y.1 = x.1) : aI y := by
  unfold aI
  rw [e]
  exact h
theorem isW_put {h : Nat} (hh : h ≤ 8) : m_isWithin (nI h) 0 7 = 0 ↔ h = 8 := by
  have : ∀ h : Nat, h < 9 → (m_isWithin (nI h) 0 7 = 0 ↔ h = 8) := by decide
  exact this h (by omega)
theorem isW_take {h : Nat} (hh : h ≤ 8) : m_isWithin (nI h) 1 8 = 0 ↔ h = 0 := by
  have : ∀ h : Nat, h < 9 → (m_isWithin (nI h) 1 8 = 0 ↔ h = 0) := by decide
  exact this h (by omega)
theorem aI.put {x : aM} (h : aI x) (v : Int32) : aI (a_put x v) := by
  obtain ⟨k, hk, e⟩ := h.1
  unfold a_put
  split
  · exact h.reg 5 (by decide)
  · rename_i hw
    rw [e, isW_put hk] at hw
    refine ⟨⟨k + 1, by omega, ?_⟩, ?_, ?_⟩
    · show upd x.1 0 (x.1 0 + 1) 0 = _
      rw [upd_s, e, nI_1]
    · exact h.2.1
    · exact h.2.2
theorem aI.take {x : aM} (h : aI x) : aI (a_take x).2 := by
  obtain ⟨k, hk, e⟩ := h.1
  unfold a_take
  split
  · exact h.reg 5 (by decide)
  · rename_i hw
    rw [e, isW_take hk] at hw
    refine ⟨⟨k - 1, by omega, ?_⟩, h.2.1, h.2.2⟩
    show upd x.1 0 (x.1 0 - 1) 0 = _
    rw [upd_s, e]
    exact nat_sub rfl (show (1 : Int32) = nI 1 from rfl) (by omega)
theorem aI.place {x : aM} (h : aI x) {v : Int32} (hv : v = nI v.toNatClampNeg ∧ v.toNatClampNeg < 25) : aI (upd x.1 1 v, x.2) :=
  ⟨h.1, ⟨v.toNatClampNeg, by omega, (sr_s x 1 v).trans hv.1⟩, h.2.2⟩
/-- what a step does to fuel, gates and state -/
theorem a_put_r (x : aM) (v : Int32) {i : Nat} (h0 : i ≠ 0) (h4 : i ≠ 4) : (a_put x v).1 i = x.1 i := by
  unfold a_put
  split
  · exact upd_o _ _ h4
  · exact upd_o _ _ h0
theorem a_take_r (x : aM) {i : Nat} (h0 : i ≠ 0) (h4 : i ≠ 4) : (a_take x).2.1 i = x.1 i := by
  unfold a_take
  split
  · exact upd_o _ _ h4
  · exact upd_o _ _ h0
theorem a_store_r (x : aM) (v : Int32) {i : Nat} (h0 : i ≠ 0) (h4 : i ≠ 4) : (a_store x v).1 i = x.1 i := by
  have ht := a_take_r x h0 h4
  unfold a_store
  split
  · split <;> exact ht
  · exact ht
theorem a_jz_r (x : aM) (v : Int32) {i : Nat} (h0 : i ≠ 0) (h4 : i ≠ 4) (h1 : i ≠ 1) : (a_jz x v).1 i = x.1 i := by
  have ht := a_take_r x h0 h4
  unfold a_jz
  split
  · split
    · exact (upd_o _ _ h1).trans ht
    · exact ht
  · exact ht
theorem a_comb_r (x : aM) (v : Int32) {i : Nat} (h0 : i ≠ 0) (h4 : i ≠ 4) : (a_comb x v).1 i = x.1 i := by
  have ht := a_take_r x h0 h4
  have ht2 := a_take_r (a_take x).2 h0 h4
  unfold a_comb
  split
  · exact (a_put_r _ _ h0 h4).trans (ht2.trans ht)
  · exact ht2.trans ht
theorem a_ask_r (ans : Int32 → Int32 → Int32) (x : aM) (v : Int32) {i : Nat} (h0 : i ≠ 0) (h4 : i ≠ 4) (h5 : i ≠ 5) : (a_ask ans x v).1 i = x.1 i := by
  unfold a_ask
  split
  · exact (upd_o _ _ h4).trans (upd_o _ _ h5)
  · exact a_put_r _ _ h0 h4
theorem a_gate_r (x : aM) {k : Nat} (h6 : k ≠ 6) (h7 : k ≠ 7) : (a_gate x).2.1 k = x.1 k := by
  unfold a_gate
  split
  · show upd (upd x.1 7 (x.1 7 - 1)) 6 (x.1 6 + 1) k = x.1 k
    rw [upd_o _ _ h6, upd_o _ _ h7]
  · rfl
theorem a_perf_2 (ans : Int32 → Int32 → Int32) (x : aM) (i v : Int32) : (a_perf ans x i v).1 2 = x.1 2 :=
  perf_cases (P := fun y => y.1 2 = x.1 2) ans x i v (fun _ => a_ask_r _ _ _ (by decide) (by decide) (by decide)) (fun _ => a_put_r _ _ (by decide) (by decide)) (fun _ => a_store_r _ _ (by decide) (by decide)) (a_comb_r _ _ (by decide) (by decide)) (fun _ => sr_o x 1 2 _ (by decide)) (fun _ => a_jz_r _ _ (by decide) (by decide) (by decide)) (sr_o x 3 2 _ (by decide)) (fun w _ => (sr_o (a_gate x).2 4 2 w (by decide)).trans (a_gate_r x (by decide) (by decide)))
theorem aI.gate {x : aM} (h : aI x) : aI (a_gate x).2 := by
  unfold a_gate
  split
  · exact (h.reg _ (by decide)).reg _ (by decide)
  · exact h
theorem aI.perf {x : aM} (h : aI x) (ans : Int32 → Int32 → Int32) {i v : Int32} (hf : gFit i v) : aI (a_perf ans x i v) := by
  refine perf_cases ans x i v (fun _ => ?_) (fun w => h.put w) (fun _ => ?_) ?_ (fun e => h.place (gFit_8 hf e)) (fun e => ?_) (h.reg _ (by decide)) (fun w _ => h.gate.reg _ (by decide))
  · unfold a_ask
    split
    · exact ((h.oth (y := (x.1, x.2.1, x.2.2.1, m_addF 16 x.2.2.2 v 1)) rfl).reg (i := 5) v (by decide)).reg (i := 4) 0 (by decide)
    · exact (h.oth (y := (x.1, x.2.1, x.2.2.1, m_addF 16 x.2.2.2 v 1)) rfl).put _
  · unfold a_store
    split
    · split
      · exact h.take
      · exact h.take.oth rfl
    · exact h.take
  · unfold a_comb
    split
    · exact h.take.take.put _
    · exact h.take.take
  · unfold a_jz
    split
    · split
      · exact h.take.place (gFit_9 hf e)
      · exact h.take
    · exact h.take
/-- a machine that can pay: the place of its instruction, and what it pays -/
theorem a_pay_ok {E : aE} (hE : aFit E) {x : aM} (h : aI x) (hp : ¬ (a_pay E x).1 = -1) : ∃ (p n f c : Nat), p < n ∧ n ≤ 24 ∧ E.2.2.2 = nI n ∧ x.1 1 = nI p ∧ x.1 2 = nI f ∧ (c = 1 ∨ c = 3) ∧ c ≤ f ∧ f ≤ 200 ∧ a_cost E x = nI c ∧ m_at E.2.1 24 (x.1 1) = E.2.1 p ∧ (a_pay E x).1 = nI p ∧ (a_pay E x).2 = (upd (upd x.1 2 (nI (f - c))) 1 (nI (p + 1)), x.2) ∧ (a_cost E x = if E.2.1 p = 0 then 3 else 1) := by
  obtain ⟨n, hn, en⟩ := hE.1
  obtain ⟨-, ⟨p, hp24, ep⟩, f, hf, ef⟩ := h
  have hat : ∀ q : Nat, q < 24 → ∀ g : Nat → Int32, m_at g 24 (nI q) = g q := by
    intro q hq g
    unfold m_at
    rw [if_neg (fun e => absurd ((nat_lt rfl (show (0 : Int32) = nI 0 from rfl) (by omega) (by decide)).mp e) (Nat.not_lt_zero _)), if_neg (fun e => absurd ((nat_le rfl rfl (by decide) (by omega)).mp e) (by omega)), nI_clamp (by omega)]
  have hc : ∃ c : Nat, (c = 1 ∨ c = 3) ∧ a_cost E x = nI c := by
    unfold a_cost
    split
    · exact ⟨3, Or.inr rfl, rfl⟩
    · exact ⟨1, Or.inl rfl, rfl⟩
  obtain ⟨c, hc1, hc2⟩ := hc
  unfold a_pay at hp ⊢
  by_cases c1 : m_isWithin (x.1 1) 0 (E.2.2.2 - 1) = 0
  · rw [if_pos c1] at hp; exact absurd rfl hp
  rw [if_neg c1] at hp ⊢
  by_cases c2 : a_cost E x ≤ x.1 2
  · rw [if_pos c2]
    have hpn : p < n := by
      have := vp_lt (vp_in_wm (c := n) (by omega) (by rw [← en]; exact c1))
      rwa [ep, nI_clamp (by omega)] at this
    have hcf : c ≤ f := by
      rw [hc2, ef] at c2
      exact (nat_le rfl rfl (by omega) (by omega)).mp c2
    refine ⟨p, n, f, c, hpn, hn, en, ep, ef, hc1, hcf, hf, hc2, ?_, ?_, ?_, ?_⟩
    · rw [ep, hat p (by omega)]
    · show x.1 1 + 1 - 1 = nI p
      rw [Int32.add_sub_cancel, ep]
    · show (upd (upd x.1 2 (x.1 2 - a_cost E x)) 1 (x.1 1 + 1), x.2) = _
      rw [hc2, ef, ep, nI_1, nat_sub rfl rfl hcf]
    · unfold a_cost
      rw [ep, hat p (by omega)]
  · rw [if_neg c2] at hp; exact absurd rfl hp
theorem a_at24 (q : Nat) (hq : q < 24) (g : Nat → Int32) : m_at g 24 (nI q) = g q := by
  unfold m_at
  rw [if_neg (fun e => absurd ((nat_lt rfl (show (0 : Int32) = nI 0 from rfl) (by omega) (by decide)).mp e) (Nat.not_lt_zero _)), if_neg (fun e => absurd ((nat_le rfl rfl (by decide) (by omega)).mp e) (by omega)), nI_clamp (by omega)]
theorem a_pay_no {E : aE} {x : aM} (hp : (a_pay E x).1 = -1) (h : aI x) : (a_pay E x).2 = a_st x 5 ∨ (a_pay E x).2 = a_st x 4 := by
  obtain ⟨-, ⟨p, hp24, ep⟩, -⟩ := h
  unfold a_pay at hp ⊢
  split
  · exact Or.inl rfl
  · rename_i c1
    rw [if_neg c1] at hp
    split
    · rename_i c2
      rw [if_pos c2] at hp
      exfalso
      have hp : x.1 1 + 1 - 1 = -1 := hp
      rw [Int32.add_sub_cancel, ep] at hp
      have h2 : (nI p).toInt = (-1 : Int32).toInt := by rw [hp]
      rw [nI_toInt (by omega)] at h2
      exact absurd h2 (by simp)
    · exact Or.inr rfl
theorem aI.step {E : aE} (hE : aFit E) {x : aM} (h : aI x) : aI (a_step E x) := by
  unfold a_step
  by_cases hp : (a_pay E x).1 = -1
  · rw [if_pos hp]
    rcases a_pay_no hp h with e | e <;> rw [e] <;> exact h.reg _ (by decide)
  · rw [if_neg hp]
    obtain ⟨p, n, f, c, h1, h2, h3, h4, h5, h6, h7, h8, h9, h10, h11, h12, -⟩ := a_pay_ok hE h hp
    rw [h11, h12, a_at24 p (by omega), a_at24 p (by omega)]
    refine aI.perf ?_ _ (hE.2 p (by omega) (by rw [h3]; exact (nat_lt rfl rfl (by omega) (by omega)).mpr h1))
    refine ⟨?_, ⟨p + 1, by omega, ?_⟩, ⟨f - c, by omega, ?_⟩⟩
    · obtain ⟨k, hk, ek⟩ := h.1
      refine ⟨k, hk, ?_⟩
      show upd (upd x.1 2 (nI (f - c))) 1 (nI (p + 1)) 0 = nI k
      rw [upd_o _ _ (show (0 : Nat) ≠ 1 by decide), upd_o _ _ (show (0 : Nat) ≠ 2 by decide), ek]
    · show upd (upd x.1 2 (nI (f - c))) 1 (nI (p + 1)) 1 = nI (p + 1)
      rw [upd_s]
    · show upd (upd x.1 2 (nI (f - c))) 1 (nI (p + 1)) 2 = nI (f - c)
      rw [upd_o _ _ (show (2 : Nat) ≠ 1 by decide), upd_s]
/-- fuel falls -/
theorem a_step_fuel {E : aE} (hE : aFit E) {x : aM} (h : aI x) {f : Nat} (hf : x.1 2 = nI f) (hf2 : f ≤ 200) : ∃ f' : Nat, (a_step E x).1 2 = nI f' ∧ f' ≤ f ∧ (((a_step E x).1 4 = 4 ∨ (a_step E x).1 4 = 5) ∨ f' + 1 ≤ f) := by
  unfold a_step
  by_cases hp : (a_pay E x).1 = -1
  · rw [if_pos hp]
    rcases a_pay_no hp h with e | e <;> rw [e]
    · exact ⟨f, (sr_o x 4 2 5 (by decide)).trans hf, Nat.le_refl _, Or.inl (Or.inr (sr_s x 4 5))⟩
    · exact ⟨f, (sr_o x 4 2 4 (by decide)).trans hf, Nat.le_refl _, Or.inl (Or.inl (sr_s x 4 4))⟩
  · rw [if_neg hp]
    obtain ⟨p, n, f0, c, h1, h2, h3, h4, h5, h6, h7, h8, h9, h10, h11, h12, -⟩ := a_pay_ok hE h hp
    have e0 : f = f0 := (nI_eq (by omega) (by omega)).mp (hf.symm.trans h5)
    subst e0
    refine ⟨f - c, ?_, by omega, Or.inr (by omega)⟩
    rw [a_perf_2, h12]
    show upd (upd x.1 2 (nI (f - c))) 1 (nI (p + 1)) 2 = nI (f - c)
    rw [upd_o _ _ (show (2 : Nat) ≠ 1 by decide), upd_s]

/-! ===== a machine with other gates open ===== -/
def a_open (x : aM) (g : Int32) : aM := (upd x.1 7 g, x.2)
theorem upd_comm (f : Nat → Int32) {i j : Nat} (a b : Int32) (h : i ≠ j) : upd (upd f i a) j b = upd (upd f j b) i a := by
  funext k
  by_cases h1 : k = i
  · subst h1
    rw [upd_s, upd_o _ _ h, upd_s]
  · by_cases h2 : k = j
    · subst h2
      rw [upd_s, upd_o _ _ h1, upd_s]
    · rw [upd_o _ _ h2, upd_o _ _ h1, upd_o _ _ h1, upd_o _ _ h2]
theorem upd_upd (f : Nat → Int32) (i : Nat) (a b : Int32) : upd (upd f i a) i b = upd f i b := by
  funext k
  by_cases h1 : k = i
  · subst h1; rw [upd_s, upd_s]
  · rw [upd_o _ _ h1, upd_o _ _ h1, upd_o _ _ h1]
theorem upd_id (f : Nat → Int32) (i : Nat) {a : Int32} (h : f i = a) : upd f i a = f := by
  funext k
  by_cases h1 : k = i
  · subst h1; rw [upd_s, h]
  · rw [upd_o _ _ h1]
theorem O_r (x : aM) (g : Int32) {i : Nat} (h : i ≠ 7) : (a_open x g).1 i = x.1 i := upd_o _ _ h
theorem O_reg (x : aM) (g : Int32) (i : Nat) (v : Int32) (h : i ≠ 7) : (upd (a_open x g).1 i v, (a_open x g).2) = a_open (upd x.1 i v, x.2) g := Prod.ext (upd_comm _ _ _ (Ne.symm h)) rfl
theorem O_put (x : aM) (g v : Int32) : a_put (a_open x g) v = a_open (a_put x v) g := by
  unfold a_put
  rw [O_r x g (i := 0) (by decide)]
  split
  · exact O_reg x g 4 5 (by decide)
  · exact Prod.ext (upd_comm _ _ _ (by decide)) rfl
theorem O_take (x : aM) (g : Int32) : a_take (a_open x g) = ((a_take x).1, a_open (a_take x).2 g) := by
  unfold a_take
  rw [O_r x g (i := 0) (by decide)]
  split
  · exact Prod.ext rfl (O_reg x g 4 5 (by decide))
  · exact Prod.ext rfl (O_reg x g 0 _ (by decide))
theorem O_store (x : aM) (g v : Int32) : a_store (a_open x g) v = a_open (a_store x v) g := by
  unfold a_store
  rw [O_take]
  show (if (a_open (a_take x).2 g).1 4 = 7 then _ else _) = _
  rw [O_r _ g (i := 4) (by decide)]
  split
  · split <;> rfl
  · rfl
theorem O_jz (x : aM) (g v : Int32) : a_jz (a_open x g) v = a_open (a_jz x v) g := by
  unfold a_jz
  rw [O_take]
  show (if (a_open (a_take x).2 g).1 4 = 7 then _ else _) = _
  rw [O_r _ g (i := 4) (by decide)]
  split
  · split
    · exact O_reg _ g 1 v (by decide)
    · rfl
  · rfl
theorem O_comb (x : aM) (g v : Int32) : a_comb (a_open x g) v = a_open (a_comb x v) g := by
  unfold a_comb
  rw [O_take]
  show (if (a_take (a_open (a_take x).2 g)).2.1 4 = 7 then a_put (a_take (a_open (a_take x).2 g)).2 (m_combined v (a_take (a_open (a_take x).2 g)).1 (a_take x).1) else (a_take (a_open (a_take x).2 g)).2) = _
  rw [O_take]
  show (if (a_open (a_take (a_take x).2).2 g).1 4 = 7 then a_put (a_open (a_take (a_take x).2).2 g) _ else a_open (a_take (a_take x).2).2 g) = _
  rw [O_r _ g (i := 4) (by decide), O_put]
  split <;> rfl
theorem O_ask (ans : Int32 → Int32 → Int32) (x : aM) (g q : Int32) : a_ask ans (a_open x g) q = a_open (a_ask ans x q) g := by
  unfold a_ask
  show (if ans q (m_at (m_addF 16 x.2.2.2 q 1) 16 q) = -1 then _ else a_put (a_open (x.1, x.2.1, x.2.2.1, m_addF 16 x.2.2.2 q 1) g) _) = _
  rw [O_put]
  split
  · refine Prod.ext ?_ rfl
    show upd (upd (upd x.1 7 g) 5 q) 4 0 = upd (upd (upd x.1 5 q) 4 0) 7 g
    rw [upd_comm x.1 g q (by decide), upd_comm _ g 0 (by decide)]
  · rfl
/-- one step with d gates passed, whatever more are open -/
def aG (f : aM → aM) (x : aM) : Prop := ∀ g0 : Nat, g0 ≤ 1000 → x.1 7 = nI g0 → ∃ d : Nat, d ≤ 1 ∧ d ≤ g0 ∧ (f x).1 6 = x.1 6 + nI d ∧ (f x).1 7 = nI (g0 - d) ∧ ∀ e : Nat, e ≤ 1000 → ((f x).1 4 = 3 → e = 0) → f (a_open x (nI (d + e))) = a_open (f x) (nI e)
theorem aG.of {f : aM → aM} {x : aM} (h6 : (f x).1 6 = x.1 6) (h7 : (f x).1 7 = x.1 7) (ho : ∀ g, f (a_open x g) = a_open (f x) g) : aG f x := by
  intro g0 hg e7
  refine ⟨0, by omega, by omega, ?_, ?_, fun e _ _ => ?_⟩
  · rw [h6, nI_0, Int32.add_zero]
  · rw [h7, e7]; rfl
  · rw [Nat.zero_add]; exact ho _
theorem aG_gate (x : aM) (w : Int32) (hw : w ≠ 3) : aG (fun x => a_st (a_gate x).2 (if (a_gate x).1 = 0 then 3 else w)) x := by
  intro g0 hg e7
  have hp : ∀ (y : aM) (k : Nat), y.1 7 = nI (k + 1) → k ≤ 3000 → a_st (a_gate y).2 (if (a_gate y).1 = 0 then 3 else w) = (upd (upd (upd y.1 7 (nI k)) 6 (y.1 6 + 1)) 4 w, y.2) := by
    intro y k hy hk
    have hlt : (0 : Int32) < y.1 7 := by rw [hy]; exact (nat_lt (show (0 : Int32) = nI 0 from rfl) rfl (by decide) (by omega)).mpr (by omega)
    unfold a_gate
    rw [if_pos hlt, hy, show nI (k + 1) - 1 = nI k from nat_sub rfl (show (1 : Int32) = nI 1 from rfl) (by omega)]
    rfl
  by_cases h0 : g0 = 0
  · subst h0
    have hno : ∀ y : aM, y.1 7 = nI 0 → a_gate y = (0, y) := by
      intro y hy
      unfold a_gate
      rw [if_neg (by rw [hy]; decide)]
    have hs : a_st (a_gate x).2 (if (a_gate x).1 = 0 then 3 else w) = a_st x 3 := by rw [hno x e7]; rfl
    refine ⟨0, by omega, by omega, ?_, ?_, fun e _ h3 => ?_⟩
    · show (a_st (a_gate x).2 _).1 6 = _
      rw [hs, nI_0, Int32.add_zero]
      exact sr_o x 4 6 3 (by decide)
    · show (a_st (a_gate x).2 _).1 7 = _
      rw [hs]
      exact (sr_o x 4 7 3 (by decide)).trans e7
    · have he : e = 0 := h3 (by
        show (a_st (a_gate x).2 _).1 4 = 3
        rw [hs]
        exact sr_s x 4 3)
      subst he
      have hx : a_open x (nI 0) = x := Prod.ext (upd_id _ _ e7) rfl
      show a_st (a_gate (a_open x (nI (0 + 0)))).2 _ = a_open (a_st (a_gate x).2 _) (nI 0)
      rw [Nat.zero_add, hx, hs]
      exact (Prod.ext (upd_id _ _ ((sr_o x 4 7 3 (by decide)).trans e7)) rfl : a_open (a_st x 3) (nI 0) = a_st x 3).symm
  · obtain ⟨k, rfl⟩ : ∃ k, g0 = k + 1 := ⟨g0 - 1, by omega⟩
    refine ⟨1, by omega, by omega, ?_, ?_, fun e he _ => ?_⟩
    · show (a_st (a_gate x).2 _).1 6 = _
      rw [hp x k e7 (by omega)]
      show upd (upd (upd x.1 7 (nI k)) 6 (x.1 6 + 1)) 4 w 6 = x.1 6 + 1
      rw [upd_o _ _ (show (6 : Nat) ≠ 4 by decide), upd_s]
    · show (a_st (a_gate x).2 _).1 7 = _
      rw [hp x k e7 (by omega)]
      show upd (upd (upd x.1 7 (nI k)) 6 (x.1 6 + 1)) 4 w 7 = nI k
      rw [upd_o _ _ (show (7 : Nat) ≠ 4 by decide), upd_o _ _ (show (7 : Nat) ≠ 6 by decide), upd_s]
    · show a_st (a_gate (a_open x (nI (1 + e)))).2 _ = a_open (a_st (a_gate x).2 _) (nI e)
      rw [hp x k e7 (by omega), hp (a_open x (nI (1 + e))) e (by rw [Nat.add_comm]; exact upd_s x.1 7 (nI (e + 1))) (by omega), O_r x _ (i := 6) (by decide)]
      refine Prod.ext ?_ rfl
      show upd (upd (upd (upd x.1 7 (nI (1 + e))) 7 (nI e)) 6 (x.1 6 + 1)) 4 w = upd (upd (upd (upd x.1 7 (nI k)) 6 (x.1 6 + 1)) 4 w) 7 (nI e)
      rw [upd_upd, upd_comm (upd (upd x.1 7 (nI k)) 6 (x.1 6 + 1)) w (nI e) (by decide), upd_comm (upd x.1 7 (nI k)) (x.1 6 + 1) (nI e) (by decide), upd_upd]
theorem aG_perf (ans : Int32 → Int32 → Int32) (i v : Int32) (x : aM) : aG (fun x => a_perf ans x i v) x := by
  by_cases i11 : i = 11
  · subst i11
    exact aG_gate x 7 (by decide)
  by_cases i12 : i = 12
  · subst i12
    exact aG_gate x 2 (by decide)
  have e1 : ∀ y : aM, a_perf ans y i v = if i = 0 then a_ask ans y v else if i = 1 then a_put y v else if i = 2 then a_put y (m_at y.2.2.1 8 v) else if i = 3 then a_store y v else if i = 4 then a_comb y i else if i = 5 then a_comb y i else if i = 6 then a_comb y i else if i = 7 then a_comb y i else if i = 8 then (upd y.1 1 v, y.2) else if i = 9 then a_jz y v else if i = 10 then (upd y.1 3 (y.1 3 + v), y.2) else a_comb y i := by
    intro y
    unfold a_perf
    rw [if_neg i11, if_neg i12]
  have hr : ∀ k : Nat, k = 6 ∨ k = 7 → (a_perf ans x i v).1 k = x.1 k := by
    intro k hk
    have k0 : k ≠ 0 := by omega
    have k1 : k ≠ 1 := by omega
    have k3 : k ≠ 3 := by omega
    have k4 : k ≠ 4 := by omega
    have k5 : k ≠ 5 := by omega
    have hA := a_ask_r ans x v k0 k4 k5
    have hP := fun w => a_put_r x w k0 k4
    have hS := a_store_r x v k0 k4
    have hC := a_comb_r x i k0 k4
    have hJ := a_jz_r x v k0 k4 k1
    have h1 := sr_o x 1 k v k1
    have h3 := sr_o x 3 k (x.1 3 + v) k3
    rw [e1]
    by_cases i0 : i = 0
    · rw [if_pos i0]; exact hA
    rw [if_neg i0]
    by_cases i1 : i = 1
    · rw [if_pos i1]; exact hP _
    rw [if_neg i1]
    by_cases i2 : i = 2
    · rw [if_pos i2]; exact hP _
    rw [if_neg i2]
    by_cases i3 : i = 3
    · rw [if_pos i3]; exact hS
    rw [if_neg i3]
    by_cases i4 : i = 4
    · rw [if_pos i4]; exact hC
    rw [if_neg i4]
    by_cases i5 : i = 5
    · rw [if_pos i5]; exact hC
    rw [if_neg i5]
    by_cases i6 : i = 6
    · rw [if_pos i6]; exact hC
    rw [if_neg i6]
    by_cases i7 : i = 7
    · rw [if_pos i7]; exact hC
    rw [if_neg i7]
    by_cases i8 : i = 8
    · rw [if_pos i8]; exact h1
    rw [if_neg i8]
    by_cases i9 : i = 9
    · rw [if_pos i9]; exact hJ
    rw [if_neg i9]
    by_cases i10 : i = 10
    · rw [if_pos i10]; exact h3
    rw [if_neg i10]
    exact hC
  refine aG.of (hr 6 (Or.inl rfl)) (hr 7 (Or.inr rfl)) (fun g => ?_)
  show a_perf ans (a_open x g) i v = a_open (a_perf ans x i v) g
  rw [e1, e1, O_ask, O_put, O_put, O_store, O_comb, O_jz, O_reg x g 1 v (by decide), O_r x g (i := 3) (by decide), O_reg x g 3 _ (by decide)]
  simp only [apply_ite (fun y => a_open y g)]
  rfl
theorem O_pay (E : aE) (x : aM) (g : Int32) : a_pay E (a_open x g) = ((a_pay E x).1, a_open (a_pay E x).2 g) := by
  unfold a_pay a_cost
  rw [O_r x g (i := 1) (by decide), O_r x g (i := 2) (by decide)]
  by_cases c1 : m_isWithin (x.1 1) 0 (E.2.2.2 - 1) = 0
  · rw [if_pos c1, if_pos c1]; exact Prod.ext rfl (O_reg x g 4 5 (by decide))
  rw [if_neg c1, if_neg c1]
  by_cases c2 : (if m_at E.2.1 24 (x.1 1) = 0 then (3 : Int32) else 1) ≤ x.1 2
  · rw [if_pos c2, if_pos c2]
    refine Prod.ext rfl ?_
    refine Prod.ext ?_ rfl
    show upd (upd (upd x.1 7 g) 2 _) 1 _ = upd (upd (upd x.1 2 _) 1 _) 7 g
    rw [upd_comm x.1 g _ (by decide), upd_comm _ g _ (by decide)]
  rw [if_neg c2, if_neg c2]
  exact Prod.ext rfl (O_reg x g 4 4 (by decide))
theorem a_pay_r (E : aE) (x : aM) {k : Nat} (h1 : k ≠ 1) (h2 : k ≠ 2) (h4 : k ≠ 4) : (a_pay E x).2.1 k = x.1 k := by
  unfold a_pay
  split
  · exact sr_o x 4 k 5 h4
  · split
    · show upd (upd x.1 2 (x.1 2 - a_cost E x)) 1 (x.1 1 + 1) k = x.1 k
      rw [upd_o _ _ h1, upd_o _ _ h2]
    · exact sr_o x 4 k 4 h4
theorem aG_step (E : aE) (x : aM) : aG (a_step E) x := by
  intro g0 hg e7
  by_cases hp : (a_pay E x).1 = -1
  · have hs : ∀ g, a_step E (a_open x g) = a_open (a_pay E x).2 g := by
      intro g
      unfold a_step
      rw [O_pay, if_pos hp]
    have hx : a_step E x = (a_pay E x).2 := by
      unfold a_step
      rw [if_pos hp]
    refine aG.of (f := a_step E) ?_ ?_ (fun g => ?_) g0 hg e7
    · rw [hx]; exact a_pay_r E x (by decide) (by decide) (by decide)
    · rw [hx]; exact a_pay_r E x (by decide) (by decide) (by decide)
    · rw [hs, hx]
  · have hx : a_step E x = a_perf E.1 (a_pay E x).2 (m_at E.2.1 24 (a_pay E x).1) (m_at E.2.2.1 24 (a_pay E x).1) := by
      unfold a_step
      rw [if_neg hp]
    have hs : ∀ g, a_step E (a_open x g) = a_perf E.1 (a_open (a_pay E x).2 g) (m_at E.2.1 24 (a_pay E x).1) (m_at E.2.2.1 24 (a_pay E x).1) := by
      intro g
      unfold a_step
      rw [O_pay, if_neg hp]
    obtain ⟨d, h1, h2, h3, h4, h5⟩ := aG_perf E.1 (m_at E.2.1 24 (a_pay E x).1) (m_at E.2.2.1 24 (a_pay E x).1) (a_pay E x).2 g0 hg ((a_pay_r E x (by decide) (by decide) (by decide)).trans e7)
    refine ⟨d, h1, h2, ?_, ?_, fun e he h6 => ?_⟩
    · rw [hx]
      exact h3.trans (by rw [a_pay_r E x (by decide) (by decide) (by decide)])
    · rw [hx]; exact h4
    · rw [hs, hx]
      exact h5 e he (by rw [hx] at h6; exact h6)

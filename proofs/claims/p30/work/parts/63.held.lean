/-! ===== the values that a machine holds, and its bonus ===== -/
def in9 (v : Int32) : Prop := -9999 ≤ v ∧ v ≤ 9999
theorem in9_0 : in9 0 := ⟨by decide, by decide⟩
theorem in9_1 : in9 1 := ⟨by decide, by decide⟩
theorem in9_nI {n : Nat} (h : n < 10) : in9 (nI n) := by
  have : ∀ n : Nat, n < 10 → (-9999 ≤ nI n ∧ nI n ≤ 9999) := by decide
  exact this n h
theorem in9_n1 : in9 (-1) := ⟨by decide, by decide⟩
theorem held9 (n : Int32) : in9 (m_held n) := by
  unfold m_held
  dsimp only
  by_cases h1 : n < 9999
  · rw [if_pos h1]
    by_cases h2 : (-9999 : Int32) < n
    · rw [if_pos h2]; exact ⟨Int32.le_of_lt h2, Int32.le_of_lt h1⟩
    · rw [if_neg h2]; exact ⟨by decide, by decide⟩
  · rw [if_neg h1, if_pos (show (-9999 : Int32) < 9999 by decide)]; exact ⟨by decide, by decide⟩
theorem comb9 (i a b : Int32) : in9 (m_combined i a b) := by
  unfold m_combined
  dsimp only
  by_cases c4 : i = 4
  · rw [if_pos c4]; exact held9 _
  rw [if_neg c4]
  by_cases c5 : i = 5
  · rw [if_pos c5]; exact held9 _
  rw [if_neg c5]
  by_cases c6 : i = 6
  · rw [if_pos c6]; split
    · exact in9_0
    · exact in9_1
  rw [if_neg c6]
  split
  · exact in9_1
  · exact in9_0
/-- slots and stack are held; the bonus is bounded by what fuel was used -/
def a9 (k : Nat) (x : aM) : Prop := (∀ j, j < 8 → in9 (x.2.2.1 j)) ∧ (∀ j, j < 8 → j < (x.1 0).toNatClampNeg → in9 (x.2.1 j)) ∧ ∃ b f : Nat, x.1 3 = nI b ∧ x.1 2 = nI f ∧ b + 500 * f + k ≤ 100000
theorem a9.dn {k k' : Nat} {x : aM} (h : a9 k x) (hk : k' ≤ k) : a9 k' x := by
  obtain ⟨h1, h2, b, f, h3, h4, h5⟩ := h
  exact ⟨h1, h2, b, f, h3, h4, by omega⟩
theorem a9.reg {k : Nat} {x : aM} (h : a9 k x) {i : Nat} (v : Int32) (h0 : i ≠ 0) (h2 : i ≠ 2) (h3 : i ≠ 3) : a9 k (upd x.1 i v, x.2) := by
  obtain ⟨k1, k2, b, f, k3, k4, k5⟩ := h
  refine ⟨k1, fun j hj hjh => k2 j hj ?_, b, f, ?_, ?_, k5⟩
  · rw [sr_o x i 0 v (Ne.symm h0)] at hjh; exact hjh
  · rw [sr_o x i 3 v (Ne.symm h3)]; exact k3
  · rw [sr_o x i 2 v (Ne.symm h2)]; exact k4
theorem a9.tim {k : Nat} {x : aM} (h : a9 k x) (y : Nat → Int32) : a9 k (x.1, x.2.1, x.2.2.1, y) := h
theorem a9.put {k : Nat} {x : aM} (h : a9 k x) {v : Int32} (hv : in9 v) : a9 k (a_put x v) := by
  unfold a_put
  split
  · exact h.reg (i := 4) 5 (by decide) (by decide) (by decide)
  · rename_i hw
    have hs := within_suc hw
    obtain ⟨k1, k2, b, f, k3, k4, k5⟩ := h
    refine ⟨k1, fun j hj hjh => ?_, b, f, ?_, ?_, k5⟩
    · have hjh : j < (upd x.1 0 (x.1 0 + 1) 0).toNatClampNeg := hjh
      rw [upd_s, hs] at hjh
      show in9 (upd x.2.1 (x.1 0).toNatClampNeg v j)
      by_cases he : j = (x.1 0).toNatClampNeg
      · rw [he, upd_s]; exact hv
      · rw [upd_o _ _ he]; exact k2 j hj (by omega)
    · exact (upd_o x.1 (x.1 0 + 1) (show (3 : Nat) ≠ 0 by decide)).trans k3
    · exact (upd_o x.1 (x.1 0 + 1) (show (2 : Nat) ≠ 0 by decide)).trans k4
theorem a9.take {k : Nat} {x : aM} (h : a9 k x) (hI : aI x) : a9 k (a_take x).2 ∧ in9 (a_take x).1 := by
  unfold a_take
  split
  · exact ⟨h.reg (i := 4) 5 (by decide) (by decide) (by decide), in9_0⟩
  · rename_i hw
    have hs := within_pre hw
    obtain ⟨k0, hk, e0⟩ := hI.1
    have e8 : (x.1 0).toNatClampNeg ≤ 8 := by rw [e0, nI_clamp (by omega)]; exact hk
    obtain ⟨k1, k2, b, f, k3, k4, k5⟩ := h
    refine ⟨⟨k1, fun j hj hjh => ?_, b, f, ?_, ?_, k5⟩, k2 _ (by omega) (by omega)⟩
    · have hjh : j < (upd x.1 0 (x.1 0 - 1) 0).toNatClampNeg := hjh
      rw [upd_s] at hjh
      exact k2 j hj (by omega)
    · exact (upd_o x.1 (x.1 0 - 1) (show (3 : Nat) ≠ 0 by decide)).trans k3
    · exact (upd_o x.1 (x.1 0 - 1) (show (2 : Nat) ≠ 0 by decide)).trans k4
theorem a9.store {k : Nat} {x : aM} (h : a9 k x) (hI : aI x) (v : Int32) : a9 k (a_store x v) := by
  obtain ⟨h1, h2⟩ := h.take hI
  unfold a_store
  split
  · split
    · exact h1
    · refine ⟨fun j hj => ?_, h1.2.1, h1.2.2⟩
      show in9 (upd (a_take x).2.2.2.1 v.toNatClampNeg (a_take x).1 j)
      by_cases he : j = v.toNatClampNeg
      · rw [he, upd_s]; exact h2
      · rw [upd_o _ _ he]; exact h1.1 j hj
  · exact h1
theorem a9.jz {k : Nat} {x : aM} (h : a9 k x) (hI : aI x) (v : Int32) : a9 k (a_jz x v) := by
  obtain ⟨h1, h2⟩ := h.take hI
  unfold a_jz
  split
  · split
    · exact h1.reg (i := 1) v (by decide) (by decide) (by decide)
    · exact h1
  · exact h1
theorem a9.comb {k : Nat} {x : aM} (h : a9 k x) (hI : aI x) (v : Int32) : a9 k (a_comb x v) := by
  obtain ⟨h1, -⟩ := h.take hI
  obtain ⟨h2, -⟩ := h1.take hI.take
  unfold a_comb
  split
  · exact h2.put (comb9 _ _ _)
  · exact h2
theorem a9.gate {k : Nat} {x : aM} (h : a9 k x) : a9 k (a_gate x).2 := by
  unfold a_gate
  split
  · exact (h.reg (i := 7) _ (by decide) (by decide) (by decide)).reg (i := 6) _ (by decide) (by decide) (by decide)
  · exact h
theorem m_at9 {g : Nat → Int32} (h : ∀ j, j < 8 → in9 (g j)) (i : Int32) : in9 (m_at g 8 i) := by
  unfold m_at
  split
  · exact in9_0
  · split
    · exact in9_0
    · rename_i h1 h2
      obtain ⟨-, h4⟩ := q_isBelow_of (x := i) (n := nI 8) rfl (by decide) (fun e => by
        unfold q_isBelow at e
        rw [if_neg h1, if_neg h2] at e
        exact absurd e (by decide))
      exact h _ h4
theorem a9.ask {k : Nat} {x : aM} (h : a9 k x) {ans : Int32 → Int32 → Int32} (ha : ∀ q n, in9 (ans q n)) (q : Int32) : a9 k (a_ask ans x q) := by
  unfold a_ask
  split
  · exact ((h.tim (m_addF 16 x.2.2.2 q 1)).reg (i := 5) q (by decide) (by decide) (by decide)).reg (i := 4) 0 (by decide) (by decide) (by decide)
  · exact (h.tim (m_addF 16 x.2.2.2 q 1)).put (ha _ _)
theorem a9.perf {x : aM} (h : a9 500 x) (hI : aI x) {ans : Int32 → Int32 → Int32} (ha : ∀ q n, in9 (ans q n)) {i v : Int32} (hf : gFit i v) : a9 0 (a_perf ans x i v) := by
  have h0 : a9 0 x := h.dn (Nat.zero_le _)
  unfold a_perf
  by_cases i0 : i = 0
  · rw [if_pos i0]; exact h0.ask ha v
  rw [if_neg i0]
  by_cases i1 : i = 1
  · rw [if_pos i1]
    obtain ⟨h1, h2⟩ := hf.2.2.2.2.1 i1
    exact h0.put ⟨Int32.le_trans (by decide) h1, Int32.le_trans h2 (by decide)⟩
  rw [if_neg i1]
  by_cases i2 : i = 2
  · rw [if_pos i2]; exact h0.put (m_at9 h0.1 v)
  rw [if_neg i2]
  by_cases i3 : i = 3
  · rw [if_pos i3]; exact h0.store hI v
  rw [if_neg i3]
  by_cases i4 : i = 4
  · rw [if_pos i4]; exact h0.comb hI i
  rw [if_neg i4]
  by_cases i5 : i = 5
  · rw [if_pos i5]; exact h0.comb hI i
  rw [if_neg i5]
  by_cases i6 : i = 6
  · rw [if_pos i6]; exact h0.comb hI i
  rw [if_neg i6]
  by_cases i7 : i = 7
  · rw [if_pos i7]; exact h0.comb hI i
  rw [if_neg i7]
  by_cases i8 : i = 8
  · rw [if_pos i8]; exact h0.reg (i := 1) v (by decide) (by decide) (by decide)
  rw [if_neg i8]
  by_cases i9 : i = 9
  · rw [if_pos i9]; exact h0.jz hI v
  rw [if_neg i9]
  by_cases i10 : i = 10
  · rw [if_pos i10]
    obtain ⟨j, hj, rfl⟩ := hf.2.2.2.2.2 i10
    obtain ⟨k1, k2, b, f, k3, k4, k5⟩ := h
    refine ⟨k1, fun j hj hjh => k2 j hj ?_, b + j, f, ?_, ?_, by omega⟩
    · rw [sr_o x 3 0 _ (by decide)] at hjh; exact hjh
    · rw [sr_s, k3, nI_add]
    · rw [sr_o x 3 2 _ (by decide)]; exact k4
  rw [if_neg i10]
  by_cases i11 : i = 11
  · rw [if_pos i11]; exact h0.gate.reg (i := 4) _ (by decide) (by decide) (by decide)
  rw [if_neg i11]
  by_cases i12 : i = 12
  · rw [if_pos i12]; exact h0.gate.reg (i := 4) _ (by decide) (by decide) (by decide)
  rw [if_neg i12]
  exact h0.comb hI i
theorem a9.step {E : aE} (hE : aFit E) (ha : ∀ q n, in9 (E.1 q n)) {x : aM} (h : a9 0 x) (hI : aI x) : a9 0 (a_step E x) := by
  unfold a_step
  by_cases hp : (a_pay E x).1 = -1
  · rw [if_pos hp]
    rcases a_pay_no hp hI with e | e <;> rw [e] <;> exact h.reg (i := 4) _ (by decide) (by decide) (by decide)
  · rw [if_neg hp]
    obtain ⟨p, n, f, c, h1, h2, h3, h4, h5, h6, h7, h8, h9, h10, h11, h12, -⟩ := a_pay_ok hE hI hp
    rw [h11, h12, a_at24 p (by omega), a_at24 p (by omega)]
    have e0 : upd (upd x.1 2 (nI (f - c))) 1 (nI (p + 1)) 0 = x.1 0 := by rw [upd_o _ _ (show (0 : Nat) ≠ 1 by decide), upd_o _ _ (show (0 : Nat) ≠ 2 by decide)]
    have e1 : upd (upd x.1 2 (nI (f - c))) 1 (nI (p + 1)) 1 = nI (p + 1) := upd_s _ _ _
    have e2 : upd (upd x.1 2 (nI (f - c))) 1 (nI (p + 1)) 2 = nI (f - c) := by rw [upd_o _ _ (show (2 : Nat) ≠ 1 by decide), upd_s]
    have e3 : upd (upd x.1 2 (nI (f - c))) 1 (nI (p + 1)) 3 = x.1 3 := by rw [upd_o _ _ (show (3 : Nat) ≠ 1 by decide), upd_o _ _ (show (3 : Nat) ≠ 2 by decide)]
    have hI2 : aI (upd (upd x.1 2 (nI (f - c))) 1 (nI (p + 1)), x.2) := by
      obtain ⟨k, hk, ek⟩ := hI.1
      exact ⟨⟨k, hk, e0.trans ek⟩, ⟨p + 1, by omega, e1⟩, ⟨f - c, by omega, e2⟩⟩
    refine a9.perf ?_ hI2 ha (hE.2 p (by omega) (by rw [h3]; exact (nat_lt rfl rfl (by omega) (by omega)).mpr h1))
    obtain ⟨k1, k2, b, f0, k3, k4, k5⟩ := h
    have ef : f0 = f := by
      have e : nI f0 = nI f := k4.symm.trans h5
      exact (nI_eq (by omega) (by omega)).mp e
    subst ef
    refine ⟨k1, fun j hj hjh => k2 j hj ?_, b, f0 - c, e3.trans k3, e2, by omega⟩
    have hjh : j < (upd (upd x.1 2 (nI (f0 - c))) 1 (nI (p + 1)) 0).toNatClampNeg := hjh
    rw [e0] at hjh; exact hjh
theorem a9.loop {E : aE} (hE : aFit E) (ha : ∀ q n, in9 (E.1 q n)) : ∀ (n : Nat) {x : aM}, a9 0 x → aI x → a9 0 (a_L E n x) := by
  intro n
  induction n with
  | zero => intro x h _; exact h
  | succ n ih =>
    intro x h hI
    unfold a_L
    by_cases h7 : x.1 4 = 7
    · rw [if_pos h7]; exact ih (h.step hE ha hI) (hI.step hE)
    · rw [if_neg h7]; exact h
theorem a9.reset (y : aM) {f : Nat} (hf : f ≤ 200) : a9 0 (a_reset y (nI f)) := by
  have hr := a_reset_r y (nI f)
  refine ⟨fun j hj => ?_, fun j _ hjh => ?_, 0, f, hr.2.2.2.1, hr.2.2.1, by omega⟩
  · show in9 (if j < 8 then 0 else y.2.2.1 j)
    rw [if_pos hj]; exact in9_0
  · rw [hr.1] at hjh; exact absurd hjh (Nat.not_lt_zero _)
/-- what answers a machine may find -/
theorem m_nth_L9 {C : gCT} {r c : Nat} (hc : C 2 r 1 = nI c) (hc2 : c ≤ 512) (hv : ∀ j, j < c → in9 (C 13 (1024 * r + j) 2)) (q n w : Int32) : ∀ (n0 j : Nat) (f : Int32), j ≤ c → in9 (m_nth_L n0 C r q n w f (nI j)).1 := by
  intro n0
  induction n0 with
  | zero => intro j f _; exact in9_0
  | succ n0 ih =>
    intro j f hj
    unfold m_nth_L
    dsimp only
    rw [hc]
    by_cases c1 : nI c ≤ nI j
    · rw [if_pos c1]; exact in9_n1
    · have hjc : j < c := Nat.not_le.mp (fun z => c1 ((nat_le rfl rfl (by omega) (by omega)).mpr z))
      rw [if_neg c1, nI_clamp (by omega), nI_1]
      split
      · split
        · split
          · exact hv j hjc
          · exact ih (j + 1) _ (by omega)
        · exact ih (j + 1) _ (by omega)
      · exact ih (j + 1) _ (by omega)

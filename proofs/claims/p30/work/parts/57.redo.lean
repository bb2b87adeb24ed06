/-! ===== alike, but for what no one reads ===== -/
def sEq (x y : aM) : Prop := (∀ i, i < 8 → i ≠ 5 → x.1 i = y.1 i) ∧ (x.1 4 = 0 → x.1 5 = y.1 5) ∧ (∀ j, j < 8 → x.2.2.1 j = y.2.2.1 j) ∧ (∀ q, q < 16 → x.2.2.2 q = y.2.2.2 q) ∧ ∀ j, j < (x.1 0).toNatClampNeg → x.2.1 j = y.2.1 j
theorem sEq.rf {x : aM} : sEq x x := ⟨fun _ _ _ => rfl, fun _ => rfl, fun _ _ => rfl, fun _ _ => rfl, fun _ _ => rfl⟩
theorem upd_cong {f g : Nat → Int32} {i : Nat} (j : Nat) (v : Int32) (h : f i = g i) : upd f j v i = upd g j v i := by
  by_cases hj : i = j
  · subst hj; rw [upd_s, upd_s]
  · rw [upd_o _ _ hj, upd_o _ _ hj, h]
theorem sEq.reg {x y : aM} (h : sEq x y) (i : Nat) (v : Int32) (h0 : i ≠ 0) (h4 : i ≠ 4) (h5 : i ≠ 5) : sEq (upd x.1 i v, x.2) (upd y.1 i v, y.2) := by
  refine ⟨fun j h1 h2 => upd_cong i v (h.1 j h1 h2), fun hz => ?_, h.2.2.1, h.2.2.2.1, fun j hj => ?_⟩
  · show upd x.1 i v 5 = upd y.1 i v 5
    rw [upd_o _ _ (Ne.symm h5), upd_o _ _ (Ne.symm h5)]
    exact h.2.1 (by rw [← upd_o x.1 v (Ne.symm h4)]; exact hz)
  · refine h.2.2.2.2 j ?_
    have e : upd x.1 i v 0 = x.1 0 := upd_o _ _ (Ne.symm h0)
    rw [← e]; exact hj
theorem sEq.sta {x y : aM} (h : sEq x y) {w : Int32} (hw : w ≠ 0) : sEq (a_st x w) (a_st y w) := by
  refine ⟨fun j h1 h2 => upd_cong 4 w (h.1 j h1 h2), fun hz => ?_, h.2.2.1, h.2.2.2.1, fun j hj => ?_⟩
  · exact absurd (show w = 0 by rw [← upd_s x.1 4 w]; exact hz) hw
  · refine h.2.2.2.2 j ?_
    have e : upd x.1 4 w 0 = x.1 0 := upd_o _ _ (by decide)
    rw [← e]; exact hj
theorem in_of_within {x : Int32} {k : Int32} {n : Nat} (h : ¬ m_isWithin x 0 k = 0) (hk : k.toInt < n) : x.toNatClampNeg < n := vp_lt (vp_in_w h hk)
theorem within_suc {x : Int32} (h : ¬ m_isWithin x 0 7 = 0) : (x + 1).toNatClampNeg = x.toNatClampNeg + 1 := by
  obtain ⟨h1, h2⟩ := q_isWithin_of (x := x) (n := 7) (N := 7) rfl (by decide) h
  rw [h1, nI_1, nI_clamp (by omega), nI_clamp (by omega)]
theorem within_pre {x : Int32} (h : ¬ m_isWithin x 1 8 = 0) : (x - 1).toNatClampNeg + 1 = x.toNatClampNeg := by
  have h3 : ¬ x = 0 := fun e => h (by rw [e]; decide)
  obtain ⟨h1, h2⟩ := q_isWithin1_of (x := x) (n := 8) (N := 8) rfl (by decide) h
  have h4 : x.toNatClampNeg ≠ 0 := fun e => h3 (by rw [h1, e]; rfl)
  have h5 : x - 1 = nI (x.toNatClampNeg - 1) := nat_sub h1 (show (1 : Int32) = nI 1 from rfl) (by omega)
  rw [h5, nI_clamp (by omega)]
  omega
theorem sEq.put {x y : aM} (h : sEq x y) (v : Int32) : sEq (a_put x v) (a_put y v) := by
  have h0 := h.1 0 (by decide) (by decide)
  unfold a_put
  rw [← h0]
  split
  · exact h.sta (by decide)
  · rename_i hw
    refine ⟨fun j h1 h2 => upd_cong 0 _ (h.1 j h1 h2), fun hz => ?_, h.2.2.1, h.2.2.2.1, fun j hj => ?_⟩
    · exact h.2.1 hz
    · have hj : j < (upd x.1 0 (x.1 0 + 1) 0).toNatClampNeg := hj
      rw [upd_s, within_suc hw] at hj
      show upd x.2.1 _ v j = upd y.2.1 _ v j
      by_cases he : j = (x.1 0).toNatClampNeg
      · rw [he, upd_s, upd_s]
      · rw [upd_o _ _ he, upd_o _ _ he]
        exact h.2.2.2.2 j (by omega)
theorem sEq.take {x y : aM} (h : sEq x y) : (a_take x).1 = (a_take y).1 ∧ sEq (a_take x).2 (a_take y).2 := by
  have h0 := h.1 0 (by decide) (by decide)
  unfold a_take
  rw [← h0]
  split
  · exact ⟨rfl, h.sta (by decide)⟩
  · rename_i hw
    have hp := within_pre hw
    refine ⟨h.2.2.2.2 _ (by omega), fun j h1 h2 => upd_cong 0 _ (h.1 j h1 h2), fun hz => h.2.1 hz, h.2.2.1, h.2.2.2.1, fun j hj => ?_⟩
    have hj : j < (upd x.1 0 (x.1 0 - 1) 0).toNatClampNeg := hj
    rw [upd_s] at hj
    exact h.2.2.2.2 j (by omega)
theorem sEq.slot {x y : aM} (h : sEq x y) (i : Nat) (v : Int32) : sEq (x.1, x.2.1, upd x.2.2.1 i v, x.2.2.2) (y.1, y.2.1, upd y.2.2.1 i v, y.2.2.2) :=
  ⟨h.1, h.2.1, fun j hj => upd_cong i v (h.2.2.1 j hj), h.2.2.2.1, h.2.2.2.2⟩
theorem m_at_cong {f g : Nat → Int32} {N : Nat} (hN : N < 2 ^ 31) (h : ∀ j, j < N → f j = g j) (i : Int32) : m_at f N i = m_at g N i := by
  unfold m_at
  split
  · rfl
  · split
    · rfl
    · rename_i h1 h2
      obtain ⟨h3, h4⟩ := q_isBelow_of (x := i) (n := nI N) rfl hN (fun e => by
        unfold q_isBelow at e
        rw [if_neg h1, if_neg h2] at e
        exact absurd e (by decide))
      exact h _ h4
theorem m_addF_cong {f g : Nat → Int32} {N : Nat} (hN : N < 2 ^ 31) (h : ∀ j, j < N → f j = g j) (i v : Int32) : ∀ j, j < N → m_addF N f i v j = m_addF N g i v j := by
  intro j hj
  unfold m_addF
  split
  · exact h j hj
  · split
    · exact h j hj
    · rename_i h1 h2
      obtain ⟨h3, h4⟩ := q_isBelow_of (x := i) (n := nI N) rfl hN (fun e => by
        unfold q_isBelow at e
        rw [if_neg h1, if_neg h2] at e
        exact absurd e (by decide))
      rw [h _ h4]
      exact upd_cong _ _ (h j hj)
theorem sEq.store {x y : aM} (h : sEq x y) (v : Int32) : sEq (a_store x v) (a_store y v) := by
  obtain ⟨h1, h2⟩ := h.take
  have h4 := h2.1 4 (by decide) (by decide)
  unfold a_store
  rw [← h4, ← h1]
  split
  · split
    · exact h2
    · exact h2.slot _ _
  · exact h2
theorem sEq.jz {x y : aM} (h : sEq x y) (v : Int32) : sEq (a_jz x v) (a_jz y v) := by
  obtain ⟨h1, h2⟩ := h.take
  have h4 := h2.1 4 (by decide) (by decide)
  unfold a_jz
  rw [← h4, ← h1]
  split
  · split
    · exact h2.reg 1 v (by decide) (by decide) (by decide)
    · exact h2
  · exact h2
theorem sEq.comb {x y : aM} (h : sEq x y) (v : Int32) : sEq (a_comb x v) (a_comb y v) := by
  obtain ⟨h1, h2⟩ := h.take
  obtain ⟨h3, h5⟩ := h2.take
  have h4 := h5.1 4 (by decide) (by decide)
  unfold a_comb
  rw [← h4, ← h1, ← h3]
  split
  · exact h5.put _
  · exact h5
theorem sEq.gate {x y : aM} (h : sEq x y) : (a_gate x).1 = (a_gate y).1 ∧ sEq (a_gate x).2 (a_gate y).2 := by
  have h7 := h.1 7 (by decide) (by decide)
  have h6 := h.1 6 (by decide) (by decide)
  unfold a_gate
  rw [← h7, ← h6]
  split
  · exact ⟨rfl, (h.reg 7 _ (by decide) (by decide) (by decide)).reg 6 _ (by decide) (by decide) (by decide)⟩
  · exact ⟨rfl, h⟩
theorem sEq.askd {x y : aM} (h : sEq x y) {f g : Nat → Int32} (hf : ∀ j, j < 16 → f j = g j) : sEq (x.1, x.2.1, x.2.2.1, f) (y.1, y.2.1, y.2.2.1, g) := ⟨h.1, h.2.1, h.2.2.1, hf, h.2.2.2.2⟩
theorem sEq.ask {x y : aM} (h : sEq x y) (ans : Int32 → Int32 → Int32) (q : Int32) : sEq (a_ask ans x q) (a_ask ans y q) := by
  have hf := m_addF_cong (N := 16) (by decide) h.2.2.2.1 q 1
  have hn := m_at_cong (N := 16) (by decide) hf q
  unfold a_ask
  rw [← hn]
  split
  · refine ⟨fun j h1 h2 => upd_cong 4 _ (upd_cong 5 _ (h.1 j h1 h2)), fun _ => ?_, h.2.2.1, hf, fun j hj => ?_⟩
    · show upd (upd x.1 5 q) 4 0 5 = upd (upd y.1 5 q) 4 0 5
      rw [upd_o _ (0 : Int32) (show (5 : Nat) ≠ 4 by decide), upd_o _ (0 : Int32) (show (5 : Nat) ≠ 4 by decide), upd_s, upd_s]
    · refine h.2.2.2.2 j ?_
      have e : upd (upd x.1 5 q) 4 0 0 = x.1 0 := by rw [upd_o _ _ (by decide), upd_o _ _ (by decide)]
      rw [← e]; exact hj
  · exact (h.askd hf).put _
theorem gate_w {c : Prop} [Decidable c] {a b : Int32} (ha : a ≠ 0) (hb : b ≠ 0) : (if c then a else b) ≠ 0 := by
  split
  · exact ha
  · exact hb
theorem sEq.perf {x y : aM} (h : sEq x y) (ans : Int32 → Int32 → Int32) (i v : Int32) : sEq (a_perf ans x i v) (a_perf ans y i v) := by
  obtain ⟨g1, g2⟩ := h.gate
  have h3 := h.1 3 (by decide) (by decide)
  unfold a_perf
  rw [← h3, ← g1, m_at_cong (N := 8) (by decide) h.2.2.1 v]
  by_cases i0 : i = 0
  · rw [if_pos i0, if_pos i0]; exact h.ask ans v
  rw [if_neg i0, if_neg i0]
  by_cases i1 : i = 1
  · rw [if_pos i1, if_pos i1]; exact h.put v
  rw [if_neg i1, if_neg i1]
  by_cases i2 : i = 2
  · rw [if_pos i2, if_pos i2]; exact h.put _
  rw [if_neg i2, if_neg i2]
  by_cases i3 : i = 3
  · rw [if_pos i3, if_pos i3]; exact h.store v
  rw [if_neg i3, if_neg i3]
  by_cases i4 : i = 4
  · rw [if_pos i4, if_pos i4]; exact h.comb i
  rw [if_neg i4, if_neg i4]
  by_cases i5 : i = 5
  · rw [if_pos i5, if_pos i5]; exact h.comb i
  rw [if_neg i5, if_neg i5]
  by_cases i6 : i = 6
  · rw [if_pos i6, if_pos i6]; exact h.comb i
  rw [if_neg i6, if_neg i6]
  by_cases i7 : i = 7
  · rw [if_pos i7, if_pos i7]; exact h.comb i
  rw [if_neg i7, if_neg i7]
  by_cases i8 : i = 8
  · rw [if_pos i8, if_pos i8]; exact h.reg 1 v (by decide) (by decide) (by decide)
  rw [if_neg i8, if_neg i8]
  by_cases i9 : i = 9
  · rw [if_pos i9, if_pos i9]; exact h.jz v
  rw [if_neg i9, if_neg i9]
  by_cases i10 : i = 10
  · rw [if_pos i10, if_pos i10]; exact h.reg 3 _ (by decide) (by decide) (by decide)
  rw [if_neg i10, if_neg i10]
  by_cases i11 : i = 11
  · rw [if_pos i11, if_pos i11]; exact g2.sta (gate_w (by decide) (by decide))
  rw [if_neg i11, if_neg i11]
  by_cases i12 : i = 12
  · rw [if_pos i12, if_pos i12]; exact g2.sta (gate_w (by decide) (by decide))
  rw [if_neg i12, if_neg i12]
  exact h.comb i
theorem sEq.pay {x y : aM} (h : sEq x y) (E : aE) : (a_pay E x).1 = (a_pay E y).1 ∧ sEq (a_pay E x).2 (a_pay E y).2 := by
  have h1 := h.1 1 (by decide) (by decide)
  have h2 := h.1 2 (by decide) (by decide)
  unfold a_pay a_cost
  rw [← h1, ← h2]
  by_cases c1 : m_isWithin (x.1 1) 0 (E.2.2.2 - 1) = 0
  · rw [if_pos c1, if_pos c1]; exact ⟨rfl, h.sta (by decide)⟩
  rw [if_neg c1, if_neg c1]
  by_cases c2 : (if m_at E.2.1 24 (x.1 1) = 0 then (3 : Int32) else 1) ≤ x.1 2
  · rw [if_pos c2, if_pos c2]; exact ⟨rfl, (h.reg 2 _ (by decide) (by decide) (by decide)).reg 1 _ (by decide) (by decide) (by decide)⟩
  rw [if_neg c2, if_neg c2]
  exact ⟨rfl, h.sta (by decide)⟩
theorem sEq.step {x y : aM} (h : sEq x y) (E : aE) : sEq (a_step E x) (a_step E y) := by
  obtain ⟨h1, h2⟩ := h.pay E
  unfold a_step
  rw [← h1]
  by_cases c : (a_pay E x).1 = -1
  · rw [if_pos c, if_pos c]; exact h2
  · rw [if_neg c, if_neg c]; exact h2.perf _ _ _
/-! ===== a way from one state to another, in n steps ===== -/
def aP (E : aE) : Nat → aM → aM → Prop
  | 0, y, x => sEq y x
  | n + 1, y, x => y.1 4 = 7 ∧ aP E n (a_step E y) x
theorem aP.snoc {E : aE} : ∀ (n : Nat) {y z : aM}, aP E n y z → z.1 4 = 7 → aP E (n + 1) y (a_step E z) := by
  intro n
  induction n with
  | zero => intro y z h h7; exact ⟨(h.1 4 (by decide) (by decide)).trans h7, h.step E⟩
  | succ n ih => intro y z h h7; exact ⟨h.1, ih h.2 h7⟩
theorem aP.fin {E : aE} : ∀ (n N : Nat) {y z : aM}, aP E n y z → z.1 4 ≠ 7 → n ≤ N → sEq (a_L E N y) z := by
  intro n
  induction n with
  | zero =>
    intro N y z h h7 _
    have e : y.1 4 ≠ 7 := fun e => h7 ((h.1 4 (by decide) (by decide)).symm.trans e)
    cases N with
    | zero => exact h
    | succ N => unfold a_L; rw [if_neg e]; exact h
  | succ n ih =>
    intro N y z h h7 hN
    cases N with
    | zero => omega
    | succ N => unfold a_L; rw [if_pos h.1]; exact ih N h.2 h7 (by omega)

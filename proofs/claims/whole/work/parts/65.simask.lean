/-! ===== what the reference answers from what was kept, told by the state it had ===== -/
theorem q_answerOf_L_cong {M M0 : gCT} (h0 : M 20 0 2 = M0 20 0 2) (h30 : M 21 30 = M0 21 30) (h31 : M 21 31 = M0 21 31) (h32 : M 21 32 = M0 21 32) (h27 : M 21 27 = M0 21 27) (n0 r w : Nat) (v lf fd : Int32) (k : Nat) : (q_answerOf_L n0 M r w v lf fd k).1 = (q_answerOf_L n0 M0 r w v lf fd k).1 := by
  induction n0 generalizing lf fd k with
  | zero => rfl
  | succ n0 ih =>
    unfold q_answerOf_L
    simp only [h0, h30, h31, h32, h27]
    by_cases c : M0 20 0 2 ≤ nI k
    · rw [if_pos c, if_pos c]
    · rw [if_neg c, if_neg c]
      exact ih _ _ _
/-- the n-th answer of the run to the question, or -1 -/
def q_ans (M0 : gCT) (r q : Nat) (n : Int32) : Int32 := if (q_answerOf M0 r q n).1 < 0 then -1 else M0 21 33 (q_answerOf M0 r q n).1.toNatClampNeg
theorem S_ask {M0 : gCT} {r : Nat} {x : aM} {M : gCT} (h : aS M0 r x M) (h7 : x.1 4 = 7) (hI : aI x) {ans : Int32 → Int32 → Int32} {q : Nat} (hq : q < 16) {d : Nat} (hd : x.2.2.2 q = nI d) (ha : ans (nI q) (nI (d + 1)) = q_ans M0 r q (nI (d + 1))) (hneg : ¬ (q_answerOf M0 r q (nI (d + 1))).1 < 0 → ¬ M0 21 33 (q_answerOf M0 r q (nI (d + 1))).1.toNatClampNeg = -1) : aS M0 r (a_ask ans x (nI q)) (q_asks M r q) := by
  have hm := h.qm (Or.inl h7)
  have has := h.1.2.2.2.1 q hq
  have hR := h.1.askd hq (nI (d + 1))
  have hm1 := qm_cs hm (n := 28) (16 * r + q) (nI (d + 1)) (by decide)
  have et : (m_addF 16 x.2.2.2 (nI q) 1) = upd x.2.2.2 q (nI (d + 1)) := by rw [(m_addF_at x.2.2.2 hq 1).1, hd, nI_1]
  have en : m_at (m_addF 16 x.2.2.2 (nI q) 1) 16 (nI q) = nI (d + 1) := by rw [(m_addF_at x.2.2.2 hq 1).2, et, upd_s]
  have f0 : cs M 21 28 (16 * r + q) (nI (d + 1)) 20 0 2 = M0 20 0 2 := hR.fr (by unfold mach; omega) (by unfold mony; omega)
  have f30 := hR.fr21 (n := 30) (by decide)
  have f31 := hR.fr21 (n := 31) (by decide)
  have f32 := hR.fr21 (n := 32) (by decide)
  have f33 := h.1.fr21 (n := 33) (by decide)
  have f27 := hR.fr21 (n := 27) (by decide)
  have eA : (q_answerOf (cs M 21 28 (16 * r + q) (nI (d + 1))) r q (nI (d + 1))).1 = (q_answerOf M0 r q (nI (d + 1))).1 := q_answerOf_L_cong f0 f30 f31 f32 f27 _ _ _ _ _ _ _
  have hqs : q_asks M r q = if (q_answerOf M0 r q (nI (d + 1))).1 < 0 then cs (cs (cs M 21 28 (16 * r + q) (nI (d + 1))) 21 24 r 0) 21 25 r (nI q) else q_puts (cs M 21 28 (16 * r + q) (nI (d + 1))) r (M0 21 33 (q_answerOf M0 r q (nI (d + 1))).1.toNatClampNeg) := by
    unfold q_asks
    dsimp only
    rw [has, hd, nI_1, eA, f33]
  rw [hqs]
  unfold a_ask
  rw [en, et, ha]
  unfold q_ans
  by_cases c : (q_answerOf M0 r q (nI (d + 1))).1 < 0
  · rw [if_pos c, if_pos c, if_pos rfl]
    have hW := hR.waits (nI q)
    have e4 : (upd (upd x.1 5 (nI q)) 4 0) 4 = 0 := upd_s _ _ _
    exact aS.mk hW (Or.inr (Or.inl e4)) (qm_cs (qm_cs hm1 _ _ (by decide)) _ _ (by decide))
  · rw [if_neg c, if_neg c, if_neg (hneg c)]
    have hS : aS M0 r (x.1, x.2.1, x.2.2.1, upd x.2.2.2 q (nI (d + 1))) (cs M 21 28 (16 * r + q) (nI (d + 1))) := aS.mk hR (Or.inl h7) hm1
    exact S_put hS h7 (hI.oth rfl) _
/-- an instruction -/
def qE (M0 : gCT) (r : Nat) (o : Nat) (E : aE) : Prop := (∀ j : Nat, j < 24 → nI j < E.2.2.2 → E.2.1 j = M0 21 3 (24 * o + j) ∧ E.2.2.1 j = M0 21 4 (24 * o + j)) ∧ E.2.2.2 = M0 21 5 o ∧ ∀ q, q < 16 → ∀ d : Nat, 1 ≤ d → d ≤ 1000 → E.1 (nI q) (nI d) = q_ans M0 r q (nI d) ∧ (¬ (q_answerOf M0 r q (nI d)).1 < 0 → ¬ M0 21 33 (q_answerOf M0 r q (nI d)).1.toNatClampNeg = -1)
theorem q_does_at (M : gCT) (r : Nat) (w a : Int32) : (w = 0 → q_does M r w a = q_asks M r a.toNatClampNeg) ∧ (w = 1 → q_does M r w a = q_puts M r a) ∧ (w = 2 → q_does M r w a = q_puts M r (M 21 21 (8 * r + a.toNatClampNeg))) ∧ (w = 3 → q_does M r w a = q_moves M r 3 a) ∧ (w = 4 ∨ w = 5 ∨ w = 6 ∨ w = 7 → q_does M r w a = q_reckons M r w) ∧ (w = 8 → q_does M r w a = q_moves M r 8 a) ∧ (w = 9 → q_does M r w a = q_moves M r 9 a) ∧ (w = 10 → q_does M r w a = q_moves M r 10 a) ∧ (w = 11 → q_does M r w a = q_finishes M r 0) ∧ (w = 12 → q_does M r w a = q_finishes M r 1) := by
  refine ⟨?_, ?_, ?_, ?_, ?_, ?_, ?_, ?_, ?_, ?_⟩
  · rintro rfl; rfl
  · rintro rfl; rfl
  · rintro rfl; rfl
  · rintro rfl; rfl
  · rintro (rfl | rfl | rfl | rfl) <;> rfl
  · rintro rfl; rfl
  · rintro rfl; rfl
  · rintro rfl; rfl
  · rintro rfl; rfl
  · rintro rfl; rfl
theorem S_does {M0 : gCT} {r o : Nat} {E : aE} (hE : qE M0 r o E) {x : aM} {M : gCT} (h : aS M0 r x M) (h7 : x.1 4 = 7) (hI : aI x) (hg : gOpen M0 r x) {i v : Int32} (hf : gFit i v) (hK : ∀ q, q < 16 → ∃ d : Nat, d ≤ 513 ∧ x.2.2.2 q = nI d) : aS M0 r (a_perf E.1 x i v) (q_does M r i v) := by
  obtain ⟨d0, d1, d2, d3, d4, d8, d9, d10, d11, d12⟩ := q_does_at M r i v
  unfold a_perf
  by_cases i0 : i = 0
  · rw [if_pos i0, d0 i0]
    obtain ⟨q1, q2⟩ := gFit_0 hf i0
    obtain ⟨d, hd1, hd2⟩ := hK _ q2
    have hv : a_ask E.1 x v = a_ask E.1 x (nI v.toNatClampNeg) := by rw [← q1]
    rw [hv]
    obtain ⟨k1, k2⟩ := hE.2.2 _ q2 (d + 1) (by omega) (by omega)
    exact S_ask h h7 hI q2 hd2 k1 k2
  rw [if_neg i0]
  by_cases i1 : i = 1
  · rw [if_pos i1, d1 i1]; exact S_put h h7 hI v
  rw [if_neg i1]
  by_cases i2 : i = 2
  · rw [if_pos i2, d2 i2]
    obtain ⟨q1, q2⟩ := gFit_2 hf i2
    have ev : m_at x.2.2.1 8 v = M 21 21 (8 * r + v.toNatClampNeg) := by
      rw [h.1.2.2.1 _ q2]
      unfold m_at
      rw [if_neg, if_neg]
      · rw [q1]; exact fun e => absurd ((nat_le (show nI 8 = nI 8 from rfl) rfl (by decide) (by omega)).mp e) (by omega)
      · rw [q1]; exact fun e => absurd ((nat_lt rfl (show (0 : Int32) = nI 0 from rfl) (by omega) (by decide)).mp e) (Nat.not_lt_zero _)
    rw [ev]
    exact S_put h h7 hI _
  rw [if_neg i2]
  by_cases i3 : i = 3
  · rw [if_pos i3, d3 i3]; exact S_store h h7 hI (gFit_3 hf i3)
  rw [if_neg i3]
  by_cases i4 : i = 4
  · rw [if_pos i4, d4 (Or.inl i4)]; exact S_reckon h h7 hI i
  rw [if_neg i4]
  by_cases i5 : i = 5
  · rw [if_pos i5, d4 (Or.inr (Or.inl i5))]; exact S_reckon h h7 hI i
  rw [if_neg i5]
  by_cases i6 : i = 6
  · rw [if_pos i6, d4 (Or.inr (Or.inr (Or.inl i6)))]; exact S_reckon h h7 hI i
  rw [if_neg i6]
  by_cases i7 : i = 7
  · rw [if_pos i7, d4 (Or.inr (Or.inr (Or.inr i7)))]; exact S_reckon h h7 hI i
  rw [if_neg i7]
  by_cases i8 : i = 8
  · rw [if_pos i8, d8 i8]; exact S_jump h h7 v
  rw [if_neg i8]
  by_cases i9 : i = 9
  · rw [if_pos i9, d9 i9]; exact S_jz h h7 hI v
  rw [if_neg i9]
  by_cases i10 : i = 10
  · rw [if_pos i10, d10 i10]; exact S_bonus h h7 v
  rw [if_neg i10]
  by_cases i11 : i = 11
  · rw [if_pos i11, d11 i11]; exact S_gate h h7 hg false
  rw [if_neg i11]
  by_cases i12 : i = 12
  · rw [if_pos i12, d12 i12]; exact S_gate h h7 hg true
  exfalso
  obtain ⟨k, hk, ek⟩ := hf.1
  have : k = 0 ∨ k = 1 ∨ k = 2 ∨ k = 3 ∨ k = 4 ∨ k = 5 ∨ k = 6 ∨ k = 7 ∨ k = 8 ∨ k = 9 ∨ k = 10 ∨ k = 11 ∨ k = 12 := by omega
  rcases this with rfl | rfl | rfl | rfl | rfl | rfl | rfl | rfl | rfl | rfl | rfl | rfl | rfl
  · exact i0 ek
  · exact i1 ek
  · exact i2 ek
  · exact i3 ek
  · exact i4 ek
  · exact i5 ek
  · exact i6 ek
  · exact i7 ek
  · exact i8 ek
  · exact i9 ek
  · exact i10 ek
  · exact i11 ek
  · exact i12 ek

/-! ===== pure rows ===== -/
/-- an instruction and an argument that the tool takes -/
def gFit (w a : Int32) : Prop := (∃ i, i < 13 ∧ w = nI i) ∧ (w = 0 → ∃ j, j < 16 ∧ a = nI j) ∧ (w = 2 ∨ w = 3 → ∃ j, j < 8 ∧ a = nI j) ∧ (w = 8 ∨ w = 9 → ∃ j, j < 25 ∧ a = nI j) ∧ (w = 1 → -99 ≤ a ∧ a ≤ 99) ∧ (w = 10 → ∃ j, j < 501 ∧ a = nI j)
theorem nat_sub {x y : Int32} {a b : Nat} (hx : x = nI a) (hy : y = nI b) (h : b ≤ a) : x - y = nI (a - b) := by
  have e : nI a = nI (a - b) + nI b := by rw [nI_add]; congr 1; omega
  rw [hx, hy, e, Int32.add_sub_cancel]
theorem nat_lt {x y : Int32} {a b : Nat} (hx : x = nI a) (hy : y = nI b) (ha : a < 2 ^ 31) (hb : b < 2 ^ 31) : x < y ↔ a < b := by rw [hx, hy]; exact nI_ltI ha hb
theorem nat_le {x y : Int32} {a b : Nat} (hx : x = nI a) (hy : y = nI b) (ha : a < 2 ^ 31) (hb : b < 2 ^ 31) : x ≤ y ↔ a ≤ b := by rw [hx, hy]; exact nI_leI ha hb
def q_isBelow (n1 n2 : Int32) : Int32 :=
  if n1 < 0 then (
    0
  ) else (
    if n2 ≤ n1 then (
      0
    ) else (
      1
    )
  )
def q_isWithin (n1 n2 n3 : Int32) : Int32 :=
  if n1 < n2 then (
    0
  ) else (
    if n3 < n1 then (
      0
    ) else (
      1
    )
  )
theorem q_isBelow_of {x n : Int32} {N : Nat} (hn : n = nI N) (hN : N < 2 ^ 31) (h : ¬ q_isBelow x n = 0) : x = nI x.toNatClampNeg ∧ x.toNatClampNeg < N := by
  unfold q_isBelow at h
  have h1 : 0 ≤ x := by
    by_cases q : x < 0
    · exact absurd (if_pos q) h
    · exact Int32.not_lt.mp q
  have h2 : x < n := by
    refine Int32.not_le.mp (fun q => h ?_)
    rw [if_neg (Int32.not_lt.mpr h1), if_pos q]
  have h3 : (0 : Int) ≤ x.toInt := Int32.le_iff_toInt_le.mp h1
  have h4 := Int32.lt_iff_toInt_lt.mp h2
  rw [hn, nI_toInt hN] at h4
  have h5 : (x.toNatClampNeg : Int) = x.toInt := by
    rw [← Int32.toNat_toInt]; omega
  refine ⟨?_, by omega⟩
  refine Int32.toInt_inj.mp ?_
  rw [nI_toInt (by omega)]
  omega
theorem q_isWithin_of {x n : Int32} {N : Nat} (hn : n = nI N) (hN : N < 2 ^ 31) (h : ¬ q_isWithin x 0 n = 0) : x = nI x.toNatClampNeg ∧ x.toNatClampNeg ≤ N := by
  unfold q_isWithin at h
  have h1 : 0 ≤ x := by
    by_cases q : x < 0
    · exact absurd (if_pos q) h
    · exact Int32.not_lt.mp q
  have h2 : x ≤ n := by
    refine Int32.not_lt.mp (fun q => h ?_)
    rw [if_neg (Int32.not_lt.mpr h1), if_pos q]
  have h3 : (0 : Int) ≤ x.toInt := Int32.le_iff_toInt_le.mp h1
  have h4 := Int32.le_iff_toInt_le.mp h2
  rw [hn, nI_toInt hN] at h4
  have h5 : (x.toNatClampNeg : Int) = x.toInt := by
    rw [← Int32.toNat_toInt]; omega
  refine ⟨?_, by omega⟩
  refine Int32.toInt_inj.mp ?_
  rw [nI_toInt (by omega)]
  omega
theorem gFit_n {a : Int32} {N : Nat} (hN : N < 100) (h : ∃ j, j < N ∧ a = nI j) : a = nI a.toNatClampNeg ∧ a.toNatClampNeg < N := by
  obtain ⟨j, h1, rfl⟩ := h
  rw [nI_clamp (by omega)]
  exact ⟨rfl, h1⟩
theorem gFit_0 {w a : Int32} (h : gFit w a) (e : w = 0) : a = nI a.toNatClampNeg ∧ a.toNatClampNeg < 16 := gFit_n (by decide) (h.2.1 e)
theorem gFit_8 {w a : Int32} (h : gFit w a) (e : w = 8) : a = nI a.toNatClampNeg ∧ a.toNatClampNeg < 25 := gFit_n (by decide) (h.2.2.2.1 (Or.inl e))
theorem gFit_9 {w a : Int32} (h : gFit w a) (e : w = 9) : a = nI a.toNatClampNeg ∧ a.toNatClampNeg < 25 := gFit_n (by decide) (h.2.2.2.1 (Or.inr e))
theorem q_isWithin1_of {x n : Int32} {N : Nat} (hn : n = nI N) (hN : N < 2 ^ 31) (h : ¬ q_isWithin x 1 n = 0) : x = nI x.toNatClampNeg ∧ x.toNatClampNeg ≤ N := by
  refine q_isWithin_of hn hN (fun q => h ?_)
  unfold q_isWithin at q ⊢
  by_cases h1 : x < 0
  · rw [if_pos (Int32.lt_trans h1 (by decide))]
  · rw [if_neg h1] at q
    by_cases h2 : n < x
    · rw [if_pos h2]; split <;> rfl
    · rw [if_neg h2] at q; exact absurd q (by decide)

/-! ===== at the beginning both are alike ===== -/
theorem sRel_0 : sRel 0 gC0 gMz := by
  have z : ∀ κ n j, ¬ (κ = 21 ∧ (n = 7 ∨ n = 9)) → gMz κ n j = 0 := fun κ n j h => gMz_0 κ n j h
  refine ⟨⟨0, Nat.le_refl _, ?_, fun k hk => absurd hk (Nat.not_lt_zero k), fun r hr => absurd hr (Nat.not_lt_zero r)⟩, fun f hf => ?_, fun q hq => ?_, ?_, ?_, fun r _ _ => ?_⟩
  · rw [z 20 0 2 (by omega)]; rfl
  · refine ⟨⟨?_, ?_, ?_⟩, fun p hp => ⟨?_, ?_⟩, ⟨?_, fun j hj => ?_⟩, fun w hw => absurd hw (Nat.not_lt_zero w)⟩
    · rw [z 21 6 f (by omega)]; rfl
    · rw [gMz_7 f hf]; rfl
    · rw [z 21 8 f (by omega)]; rfl
    · rw [gMz_9 (4 * f + p) (by omega)]
      have : ∀ p : Nat, p < 4 → gQ0 p = nI 20 := by decide
      exact this p hp
    · rw [z 21 10 _ (by omega)]; rfl
    · rw [z 21 2 f (by omega)]; rfl
    · rw [z 21 2 f (by omega)] at hj
      exact absurd hj (by rw [show (0 : Int32).toNatClampNeg = 0 by decide]; omega)
  · rw [z 21 11 q (by omega), z 21 12 q (by omega), z 21 13 q (by omega)]
    exact ⟨rfl, rfl, rfl⟩
  · rw [z 20 0 0 (by omega)]; rfl
  · rw [z 20 0 1 (by omega)]; rfl
  · rw [z 21 26 r (by omega)]

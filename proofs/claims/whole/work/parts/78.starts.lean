/-! ===== a run starts over, on both sides ===== -/
def w2 (D : gCT) (r k : Nat) : gCT := fun κ n j => if κ = 21 ∧ n = 27 ∧ 16 * r + k ≤ j ∧ j < 16 * r + 16 then D 21 12 (j - 16 * r) else if κ = 21 ∧ n = 28 ∧ 16 * r + k ≤ j ∧ j < 16 * r + 16 then 0 else D κ n j
def w1 (D : gCT) (r k : Nat) : gCT := fun κ n j => if κ = 21 ∧ n = 21 ∧ 8 * r + k ≤ j ∧ j < 8 * r + 8 then 0 else D κ n j
theorem q_starts_2 (r : Nat) : ∀ (m k : Nat) (D : gCT), k + m = 16 → q_starts_L2 (m + 1) D r k = q_goesOn (w2 D r k) r := by
  intro m
  induction m with
  | zero =>
    intro k D hk
    unfold q_starts_L2
    rw [if_pos (show (16 : Int32) ≤ nI k by rw [show k = 16 by omega]; decide)]
    have e : w2 D r k = D := by
      funext κ n j
      unfold w2
      rw [if_neg (by omega), if_neg (by omega)]
    rw [e]
  | succ m ih =>
    intro k D hk
    unfold q_starts_L2
    dsimp only
    rw [if_neg (fun q => absurd ((nat_le (show (16 : Int32) = nI 16 from rfl) rfl (by decide) (by omega)).mp q) (by omega)), ih (k + 1) _ (by omega)]
    congr 1
    funext κ n j
    unfold w2
    by_cases h27 : κ = 21 ∧ n = 27 ∧ 16 * r + k ≤ j ∧ j < 16 * r + 16
    · rw [if_pos h27]
      obtain ⟨rfl, rfl, h1, h2⟩ := h27
      by_cases e : j = 16 * r + k
      · rw [if_neg (by omega), if_neg (by omega), cs_rd, if_neg (by omega), cs_rd, if_pos ⟨rfl, rfl, e⟩, show j - 16 * r = k by omega]
      · rw [if_pos ⟨rfl, rfl, by omega, h2⟩, cs_rd, if_neg (by omega), cs_rd, if_neg (by omega)]
    · rw [if_neg h27]
      by_cases h28 : κ = 21 ∧ n = 28 ∧ 16 * r + k ≤ j ∧ j < 16 * r + 16
      · rw [if_pos h28, if_neg (by omega)]
        by_cases e : j = 16 * r + k
        · rw [if_neg (by omega), cs_rd, if_pos ⟨h28.1, h28.2.1, e⟩]
        · rw [if_pos (by omega)]
      · rw [if_neg h28, if_neg (by omega), if_neg (by omega), cs_rd, if_neg (by omega), cs_rd, if_neg (by omega)]
theorem q_starts_1 (r : Nat) : ∀ (m k : Nat) (D : gCT), k + m = 8 → q_starts_L1 (m + 1) D r k = q_starts_L2 17 (w1 D r k) r 0 := by
  intro m
  induction m with
  | zero =>
    intro k D hk
    unfold q_starts_L1
    rw [if_pos (show (8 : Int32) ≤ nI k by rw [show k = 8 by omega]; decide)]
    have e : w1 D r k = D := by
      funext κ n j
      unfold w1
      rw [if_neg (by omega)]
    rw [e]
  | succ m ih =>
    intro k D hk
    unfold q_starts_L1
    dsimp only
    rw [if_neg (fun q => absurd ((nat_le (show (8 : Int32) = nI 8 from rfl) rfl (by decide) (by omega)).mp q) (by omega)), ih (k + 1) _ (by omega)]
    congr 1
    funext κ n j
    unfold w1
    by_cases h27 : κ = 21 ∧ n = 21 ∧ 8 * r + k ≤ j ∧ j < 8 * r + 8
    · rw [if_pos h27]
      by_cases e : j = 8 * r + k
      · rw [if_neg (by omega), cs_rd, if_pos ⟨h27.1, h27.2.1, e⟩]
      · rw [if_pos (by omega)]
    · rw [if_neg h27, if_neg (by omega), cs_rd, if_neg (by omega)]
/-- what it touches -/
def stTo (r κ n j : Nat) : Prop := κ = 21 ∧ (((n = 17 ∨ n = 18 ∨ n = 20 ∨ n = 22 ∨ n = 23 ∨ n = 24) ∧ j = r) ∨ (n = 21 ∧ j / 8 = r) ∨ ((n = 27 ∨ n = 28) ∧ j / 16 = r))
theorem q_starts_at {M : gCT} (hB : MBI M) {r f vn F : Nat} (hr : r < 24) (hf : f < 4) (h16 : M 21 16 r = nI f) (h6 : M 21 6 f = nI vn) (hvn : 1 ≤ vn) (hvn6 : vn ≤ 6) (h7 : M 21 7 f = nI F) (hF : F ≤ 200) : ∃ N : gCT, MBI N ∧ q_starts M r = q_goesOn_L 203 N r (6 * f + (vn - 1)) ∧ (∀ κ n j, ¬ stTo r κ n j → N κ n j = M κ n j) ∧ (N 21 17 r = nI (vn - 1) ∧ N 21 23 r = nI F ∧ N 21 18 r = 0 ∧ N 21 20 r = 0 ∧ N 21 22 r = 0 ∧ N 21 24 r = 7) ∧ (∀ j, j < 8 → N 21 21 (8 * r + j) = 0) ∧ ∀ q, q < 16 → N 21 27 (16 * r + q) = M 21 12 q ∧ N 21 28 (16 * r + q) = 0 := by
  have e1 : q_starts M r = q_goesOn (w2 (w1 (cs (cs (cs (cs (cs M 21 17 r (M 21 6 (M 21 16 r).toNatClampNeg - 1)) 21 23 r (M 21 7 (M 21 16 r).toNatClampNeg)) 21 18 r 0) 21 20 r 0) 21 22 r 0) r 0) r 0) r := (q_starts_1 r 8 0 _ (by omega)).trans (q_starts_2 r 16 0 _ (by omega))
  rw [h16, nI_clamp (by omega), h6, h7, show nI vn - 1 = nI (vn - 1) from nat_sub rfl (show (1 : Int32) = nI 1 from rfl) hvn] at e1
  generalize hA : cs (cs (cs (cs (cs M 21 17 r (nI (vn - 1))) 21 23 r (nI F)) 21 18 r 0) 21 20 r 0) 21 22 r 0 = A at e1
  have bA : MBI A := by
    rw [← hA]
    exact ((((hB.set (k := 17) rfl (fun _ => ⟨vn - 1, show vn - 1 < 6 by omega, rfl⟩)).set (k := 23) rfl (fun _ => ⟨F, show F < 201 by omega, rfl⟩)).set rfl (fun _ => ⟨0, by decide, rfl⟩)).set rfl (fun _ => ⟨0, by decide, rfl⟩)).set rfl (fun h => absurd rfl h)
  have cong : ∀ {P Q : gCT}, (∀ κ n j, ¬ (κ = 21 ∧ (n = 21 ∨ n = 27 ∨ n = 28)) → Q κ n j = P κ n j) → MBI P → MBI Q := by
    intro P Q h b
    refine ⟨fun k j hj hk => ?_, ?_, ?_, fun j hj => ?_, fun j hj => ?_⟩
    · rw [h 21 k j (fun q => by rcases q.2 with rfl | rfl | rfl <;> exact hk rfl)]; exact b.1 k j hj hk
    · rw [h 20 0 1 (by omega)]; exact b.2.1
    · rw [h 20 0 2 (by omega)]; exact b.2.2.1
    · rw [h 21 0 j (by omega), h 21 1 j (by omega)]; exact b.2.2.2.1 j hj
    · rw [h 21 3 j (by omega), h 21 4 j (by omega)]; exact b.2.2.2.2 j hj
  have f1 : ∀ κ n j, ¬ (κ = 21 ∧ (n = 21 ∨ n = 27 ∨ n = 28)) → w2 (w1 A r 0) r 0 κ n j = A κ n j := by
    intro κ n j h
    unfold w2 w1
    rw [if_neg (by omega), if_neg (by omega), if_neg (by omega)]
  have b2 : MBI (w2 (w1 A r 0) r 0) := cong f1 bA
  have hq : ∀ X : gCT, q_goesOn X r = q_goesOn_L 203 (cs X 21 24 r 7) r (6 * (X 21 16 r).toNatClampNeg + (X 21 17 r).toNatClampNeg) := fun _ => rfl
  have a16 : w2 (w1 A r 0) r 0 21 16 r = nI f := by
    rw [f1 21 16 r (by omega), ← hA, cs_rd, if_neg (by omega), cs_rd, if_neg (by omega), cs_rd, if_neg (by omega), cs_rd, if_neg (by omega), cs_rd, if_neg (by omega)]
    exact h16
  have a17 : w2 (w1 A r 0) r 0 21 17 r = nI (vn - 1) := by
    rw [f1 21 17 r (by omega), ← hA, cs_rd, if_neg (by omega), cs_rd, if_neg (by omega), cs_rd, if_neg (by omega), cs_rd, if_neg (by omega), cs_s]
  rw [hq, a16, a17, nI_clamp (by omega), nI_clamp (by omega)] at e1
  refine ⟨cs (w2 (w1 A r 0) r 0) 21 24 r 7, b2.set rfl (fun h => absurd rfl h), e1, fun κ n j h => ?_, ⟨?_, ?_, ?_, ?_, ?_, cs_s _ _ _ _ _⟩, fun j hj => ?_, fun q hq => ⟨?_, ?_⟩⟩
  · unfold stTo at h
    rw [cs_rd, if_neg (by omega)]
    unfold w2 w1
    rw [if_neg (by omega), if_neg (by omega), if_neg (by omega), ← hA, cs_rd, if_neg (by omega), cs_rd, if_neg (by omega), cs_rd, if_neg (by omega), cs_rd, if_neg (by omega), cs_rd, if_neg (by omega)]
  · rw [cs_rd, if_neg (by omega)]; exact a17
  · rw [cs_rd, if_neg (by omega), f1 21 23 r (by omega), ← hA, cs_rd, if_neg (by omega), cs_rd, if_neg (by omega), cs_rd, if_neg (by omega), cs_s]
  · rw [cs_rd, if_neg (by omega), f1 21 18 r (by omega), ← hA, cs_rd, if_neg (by omega), cs_rd, if_neg (by omega), cs_s]
  · rw [cs_rd, if_neg (by omega), f1 21 20 r (by omega), ← hA, cs_rd, if_neg (by omega), cs_s]
  · rw [cs_rd, if_neg (by omega), f1 21 22 r (by omega), ← hA, cs_s]
  · rw [cs_rd, if_neg (by omega)]
    unfold w2 w1
    rw [if_neg (by omega), if_neg (by omega), if_pos (by omega)]
  · rw [cs_rd, if_neg (by omega)]
    unfold w2 w1
    rw [if_pos (by omega), if_neg (by omega), show 16 * r + q - 16 * r = q by omega, ← hA, cs_rd, if_neg (by omega), cs_rd, if_neg (by omega), cs_rd, if_neg (by omega), cs_rd, if_neg (by omega), cs_rd, if_neg (by omega)]
  · rw [cs_rd, if_neg (by omega)]
    unfold w2 w1
    rw [if_neg (by omega), if_pos (by omega)]
/-- the class's side -/
theorem m_startOver_at {C : gCT} (hI : gInv C) {r f F : Nat} (hf : f < 4) (h6 : C 11 r 6 = nI f) (hv : 1 ≤ gVn C f) (h41 : C 4 f 1 = nI F) : aGet (m_startOver C r) r = a_reset (aGet C r) (nI F) ∧ (∀ κ n, κ = 7 ∨ κ = 8 ∨ κ = 9 ∨ κ = 10 ∨ κ = 11 ∨ κ = 12 → n ≠ r → m_startOver C r κ n = C κ n) ∧ (m_startOver C r 11 r 7 = nI (8 * f + gVn C f) ∧ m_startOver C r 11 r 2 = nI (gVn C f - 1) ∧ m_startOver C r 11 r 3 = nI F) ∧ (∀ j, j ≠ 7 → j ≠ 2 → j ≠ 3 → m_startOver C r 11 r j = C 11 r j) ∧ ∀ q, q < 16 → m_startOver C r 12 r q = C 18 0 q := by
  have hvn := hI.vn hf
  have e1 : m_takeNewest C r = g2 (cs (cs (cs C 11 r 7 (nI (8 * f + gVn C f))) 11 r 2 (nI (gVn C f - 1))) 11 r 3 (nI F)) 12 r (va_cpy (C 18 0) (C 12 r) 0 0 16) := by
    unfold m_takeNewest
    dsimp only
    rw [m_newest_1, h6, nI_clamp (by omega)]
    have k6 : ∀ v, cs C 11 r 7 v 11 r 6 = nI f := fun v => (cs_o _ _ _ _ (by decide)).trans h6
    rw [k6, nI_clamp (by omega), cs_k _ _ _ _ (show (4 : Nat) ≠ 11 by decide), hvn.2.1, nI_clamp (by omega), show nI (gVn C f) - 1 = nI (gVn C f - 1) from nat_sub rfl (show (1 : Int32) = nI 1 from rfl) hv]
    have k6b : ∀ v w, cs (cs C 11 r 7 v) 11 r 2 w 11 r 6 = nI f := fun v w => (cs_o _ _ _ _ (by decide)).trans (k6 v)
    rw [k6b, nI_clamp (by omega), cs_k _ _ _ _ (show (4 : Nat) ≠ 11 by decide), cs_k _ _ _ _ (show (4 : Nat) ≠ 11 by decide), h41]
    rw [cs_k _ _ _ _ (show (18 : Nat) ≠ 11 by decide), cs_k _ _ _ _ (show (18 : Nat) ≠ 11 by decide), cs_k _ _ _ _ (show (18 : Nat) ≠ 11 by decide), cs_k _ _ _ _ (show (12 : Nat) ≠ 11 by decide), cs_k _ _ _ _ (show (12 : Nat) ≠ 11 by decide), cs_k _ _ _ _ (show (12 : Nat) ≠ 11 by decide)]
    rfl
  have e3 : m_takeNewest C r 11 r 3 = nI F := by rw [e1, g2_k _ _ (by decide), cs_s]
  have eD : m_startOver C r = aPut (m_takeNewest C r) r (a_reset (aGet (m_takeNewest C r) r) (nI F)) := by
    unfold m_startOver
    dsimp only
    rw [e3]
    have := A_reset (m_takeNewest C r) r (aGet (m_takeNewest C r) r) (nI F)
    rwa [aPut_aGet] at this
  have ek : ∀ {κ : Nat}, κ ≠ 11 → κ ≠ 12 → m_takeNewest C r κ = C κ := fun h1 h2 => m_takeNewest_k C r h1 h2
  have eG : aGet (m_takeNewest C r) r = aGet C r := by
    unfold aGet
    rw [ek (by decide) (by decide), ek (by decide) (by decide), ek (by decide) (by decide), ek (by decide) (by decide)]
  rw [eG] at eD
  rw [eD]
  have p11 : aPut (m_takeNewest C r) r (a_reset (aGet C r) (nI F)) 11 = m_takeNewest C r 11 := aPut_k _ _ _ (by decide)
  have p12 : aPut (m_takeNewest C r) r (a_reset (aGet C r) (nI F)) 12 = m_takeNewest C r 12 := aPut_k _ _ _ (by decide)
  refine ⟨aGet_aPut _ _ _, fun κ n hk hn => ?_, ⟨?_, ?_, ?_⟩, fun j h1 h2 h3 => ?_, fun q hq => ?_⟩
  · rw [aPut_n _ _ _ hn, e1, g2_n _ _ (fun e => hn e.2)]
    by_cases e : κ = 11
    · subst e; rw [cs_n _ _ _ _ hn, cs_n _ _ _ _ hn, cs_n _ _ _ _ hn]
    · rw [cs_k _ _ _ _ e, cs_k _ _ _ _ e, cs_k _ _ _ _ e]
  · rw [p11, e1, g2_k _ _ (by decide), cs_o _ _ _ _ (by decide), cs_o _ _ _ _ (by decide), cs_s]
  · rw [p11, e1, g2_k _ _ (by decide), cs_o _ _ _ _ (by decide), cs_s]
  · rw [p11, e1, g2_k _ _ (by decide), cs_s]
  · rw [p11, e1, g2_k _ _ (by decide), cs_o _ _ _ _ h3, cs_o _ _ _ _ h2, cs_o _ _ _ _ h1]
  · rw [p12, e1, g2_s]
    unfold va_cpy
    rw [if_pos (by omega), Nat.zero_add, Nat.sub_zero]

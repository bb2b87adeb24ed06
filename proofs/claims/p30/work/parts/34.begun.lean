/-! ===== begin's middle ===== -/
def m_begun (C : gCT) (n1 : Int32) (f : Nat) : gCT := m_ladd (m_newRun C n1 f) 24
theorem m_newRun_cnt (C : gCT) (n1 : Int32) (f : Nat) {n : Nat} (h : n ≠ gRc C) : gCnt (m_newRun C n1 f) n = gCnt C n := by unfold gCnt; rw [m_newRun_n _ _ _ _ h]
theorem m_newRun_cap (C : gCT) (n1 : Int32) (f : Nat) {n : Nat} (h : n ≠ gRc C) : gCap (m_newRun C n1 f) n = gCap C n := by unfold gCap; rw [m_newRun_n _ _ _ _ h]
theorem m_begun_24 (C : gCT) (n1 : Int32) (f : Nat) (hrc : gRc C < 24) : m_begun C n1 f 2 24 1 = nI (gRc C + 1) ∧ m_begun C n1 f 2 24 2 = nI (lCap (gCap C 24) (gRc C)) ∧ m_begun C n1 f 3 24 = lRow (lCap (gCap C 24) (gRc C)) (gRc C + 1) := by
  have h := m_ladd_2 (m_newRun C n1 f) 24
  have h3 := m_ladd_3 (m_newRun C n1 f) 24
  rw [m_newRun_cnt C n1 f (by omega), m_newRun_cap C n1 f (by omega)] at h h3
  exact ⟨h.1, h.2, h3⟩
theorem m_begun_rc (C : gCT) (n1 : Int32) (f : Nat) (hrc : gRc C < 24) : gRc (m_begun C n1 f) = gRc C + 1 := by
  show (m_begun C n1 f 2 24 1).toNatClampNeg = _
  rw [(m_begun_24 C n1 f hrc).1, nI_clamp (by omega)]
theorem m_begun_n (C : gCT) (n1 : Int32) (f : Nat) (κ : Nat) {n : Nat} (h : n ≠ gRc C) (h24 : n ≠ 24) : m_begun C n1 f κ n = C κ n := by
  unfold m_begun
  by_cases h2 : κ = 2
  · subst h2; rw [m_ladd_2n _ _ h24, m_newRun_n _ _ _ _ h]
  · by_cases h3 : κ = 3
    · subst h3; rw [m_ladd_3n _ _ h24, m_newRun_n _ _ _ _ h]
    · rw [m_ladd_k _ _ h2 h3, m_newRun_n _ _ _ _ h]
theorem m_begun_k (C : gCT) (n1 : Int32) (f : Nat) {κ : Nat} (n : Nat) (h3 : κ ≠ 3) (h11 : κ ≠ 11) (h7 : κ ≠ 7) (h8 : κ ≠ 8) (h9 : κ ≠ 9) (h10 : κ ≠ 10) (h12 : κ ≠ 12) (h2 : κ ≠ 2) : m_begun C n1 f κ n = C κ n := by
  unfold m_begun
  rw [m_ladd_k _ _ h2 h3, m_newRun_k _ _ _ _ h11 h7 h8 h9 h10 h12 h2]
theorem m_begun_new (C : gCT) (n1 : Int32) (f : Nat) (hrc : gRc C < 24) {κ : Nat} (h3 : κ ≠ 3) : m_begun C n1 f κ (gRc C) = m_newRun C n1 f κ (gRc C) := by
  unfold m_begun
  by_cases h2 : κ = 2
  · subst h2; rw [m_ladd_2n _ _ (by omega)]
  · rw [m_ladd_k _ _ h2 h3]
theorem m_begun_vn (C : gCT) (n1 : Int32) (f : Nat) : gVn (m_begun C n1 f) = gVn C := by
  funext n
  unfold gVn
  rw [m_begun_k _ _ _ _ (by decide) (by decide) (by decide) (by decide) (by decide) (by decide) (by decide) (by decide)]
theorem m_begun_cnt (C : gCT) (n1 : Int32) (f : Nat) (hrc : gRc C < 24) (n : Nat) (h24 : n ≠ 24) : gCnt (m_begun C n1 f) n = if n = gRc C then 0 else gCnt C n := by
  unfold gCnt
  by_cases h : n = gRc C
  · rw [if_pos h, h, m_begun_new C n1 f hrc (by decide)]
    show (m_newRun C n1 f 2 (gRc C) 1).toNatClampNeg = 0
    unfold m_newRun
    rw [if_pos rfl]
    rfl
  · rw [if_neg h, m_begun_n _ _ _ _ h h24]
theorem m_begun_inv {C : gCT} (n1 : Int32) {f : Nat} (hI : gInv C) (hrc : gRc C < 24) (hf : f < 4) : gInv (m_begun C n1 f) := by
  have e1 := m_begun_rc C n1 f hrc
  have h24 := hI.cnt (n := 24) (Or.inr rfl)
  have hv := hI.vn hf
  have hl := lCap_le (cap := gCap C 24) (c := gRc C) (by omega) h24.2.2.1 h24.2.2.2.1 (by omega)
  refine ⟨by rw [e1]; omega, fun n hn => ?_, ?_, ?_⟩
  · rw [e1] at hn
    by_cases hn24 : n = 24
    · subst hn24
      obtain ⟨z1, z2, z3⟩ := m_begun_24 C n1 f hrc
      exact ⟨gRc C + 1, _, z1, z2, hl.1, hl.2, by omega, fun _ => by rw [z3]; exact ⟨rfl, rfl⟩⟩
    · by_cases hnr : n = gRc C
      · subst hnr
        refine ⟨0, 0, ?_, ?_, Nat.le_refl _, by omega, by omega, fun h => absurd rfl h⟩
        · rw [m_begun_new C n1 f hrc (by decide)]
          unfold m_newRun
          rw [if_pos rfl]
          exact nI_0.symm
        · rw [m_begun_new C n1 f hrc (by decide)]
          unfold m_newRun
          rw [if_pos rfl]
          exact nI_0.symm
      · unfold gList
        rw [m_begun_n _ _ _ _ hnr hn24, m_begun_n _ _ _ _ hnr hn24]
        exact hI.2.1 n (by omega)
  · intro f' hf'
    rw [m_begun_k _ _ _ _ (by decide) (by decide) (by decide) (by decide) (by decide) (by decide) (by decide) (by decide)]
    obtain ⟨v, z1, z2, z3⟩ := hI.2.2.1 f' hf'
    refine ⟨v, z1, z2, ?_⟩
    rw [m_begun_k _ _ _ _ (by decide) (by decide) (by decide) (by decide) (by decide) (by decide) (by decide) (by decide)]
    exact z3
  · intro r hr
    rw [e1] at hr
    rw [m_begun_vn]
    by_cases hnr : r = gRc C
    · subst hnr
      rw [m_begun_new C n1 f hrc (by decide)]
      refine ⟨f, 8 * f + gVn C f, hf, ?_, by omega, ?_, ?_⟩
      · unfold m_newRun; rw [if_pos rfl]; rfl
      · rw [show (8 * f + gVn C f) / 8 = f by omega]; omega
      · unfold m_newRun; rw [if_pos rfl]; rfl
    · rw [m_begun_n _ _ _ _ hnr (by omega)]
      exact hI.2.2.2 r (by omega)
theorem m_begun_lv {C : gCT} (n1 : Int32) {f : Nat} (hI : gInv C) (hrc : gRc C < 24) : g2 (g2 (g2 (g2 (g2 (g2 (g2 (g2 (gLvO C) 11 (gRc C) True) 7 (gRc C) True) 8 (gRc C) True) 9 (gRc C) True) 10 (gRc C) True) 2 (gRc C) True) 12 (gRc C) True) 3 24 True = gLvO (m_begun C n1 f) := by
  have e1 := m_begun_rc C n1 f hrc
  have e2 := m_begun_vn C n1 f
  have h24 := hI.cnt (n := 24) (Or.inr rfl)
  have hl := lCap_le (cap := gCap C 24) (c := gRc C) (by omega) h24.2.2.1 h24.2.2.2.1 (by omega)
  have hz : ∀ {κ n : Nat}, ¬ (κ = 3 ∧ n = 24) → ¬ n = gRc C → (g2 (g2 (g2 (g2 (g2 (g2 (g2 (g2 (gLvO C) 11 (gRc C) True) 7 (gRc C) True) 8 (gRc C) True) 9 (gRc C) True) 10 (gRc C) True) 2 (gRc C) True) 12 (gRc C) True) 3 24 True κ n = gLvO C κ n) := by
    intro κ n h1 h2
    simp only [g2, if_neg h1, h2, and_false, if_false]
  have hy : ∀ {κ n : Nat}, ¬ (κ = 3) → n = gRc C → (g2 (g2 (g2 (g2 (g2 (g2 (g2 (g2 (gLvO C) 11 (gRc C) True) 7 (gRc C) True) 8 (gRc C) True) 9 (gRc C) True) 10 (gRc C) True) 2 (gRc C) True) 12 (gRc C) True) 3 24 True κ n ↔ (κ = 12 ∨ κ = 2 ∨ κ = 10 ∨ κ = 9 ∨ κ = 8 ∨ κ = 7 ∨ κ = 11 ∨ gLvO C κ n)) := by
    intro κ n h1 h2
    simp only [g2, h1, h2, false_and, and_true, if_false]
    constructor
    · intro h
      repeat' split at h
      all_goals first | (simp [*]; done) | (exact Or.inr (Or.inr (Or.inr (Or.inr (Or.inr (Or.inr (Or.inr h)))))))
    · intro h
      repeat' split
      all_goals first | trivial | (simp_all; done)
  funext κ n
  refine propext ?_
  by_cases h3 : κ = 3
  · subst h3
    by_cases hn : n = 24
    · subst hn
      rw [g2_s]
      refine ⟨fun _ => ⟨Or.inr rfl, ?_⟩, fun _ => trivial⟩
      rw [(m_begun_24 C n1 f hrc).2.1]
      exact nI_ne0 (by omega) (by omega)
    · by_cases hr : n = gRc C
      · have e : g2 (g2 (g2 (g2 (g2 (g2 (g2 (g2 (gLvO C) 11 (gRc C) True) 7 (gRc C) True) 8 (gRc C) True) 9 (gRc C) True) 10 (gRc C) True) 2 (gRc C) True) 12 (gRc C) True) 3 24 True 3 n = gLvO C 3 n := by simp only [g2, hn, hr]; simp; exact Or.inl (by omega)
        rw [e]
        show ((n < gRc C ∨ n = 24) ∧ _) ↔ (_ ∧ m_begun C n1 f 2 n 2 ≠ 0)
        refine ⟨fun h => absurd h.1 (by omega), fun h => absurd ?_ h.2⟩
        rw [hr, m_begun_new C n1 f hrc (by decide)]
        unfold m_newRun
        rw [if_pos rfl]
        rfl
      · rw [hz (fun e => hn e.2) hr]
        show ((n < gRc C ∨ n = 24) ∧ _) ↔ ((n < gRc (m_begun C n1 f) ∨ n = 24) ∧ m_begun C n1 f 2 n 2 ≠ 0)
        rw [e1, m_begun_n _ _ _ _ hr hn, show (n < gRc C + 1 ∨ n = 24) ↔ (n < gRc C ∨ n = 24) from by omega]
  · by_cases h13 : κ = 13
    · subst h13
      have e : g2 (g2 (g2 (g2 (g2 (g2 (g2 (g2 (gLvO C) 11 (gRc C) True) 7 (gRc C) True) 8 (gRc C) True) 9 (gRc C) True) 10 (gRc C) True) 2 (gRc C) True) 12 (gRc C) True) 3 24 True 13 n = gLvO C 13 n := by simp only [g2]; simp
      rw [e]
      show (n / 1024 < gRc C ∧ n % 1024 < gCnt C (n / 1024)) ↔ (n / 1024 < gRc (m_begun C n1 f) ∧ n % 1024 < gCnt (m_begun C n1 f) (n / 1024))
      rw [e1]
      constructor
      · intro h
        rw [m_begun_cnt C n1 f hrc _ (by omega), if_neg (by omega)]
        omega
      · intro h
        rw [m_begun_cnt C n1 f hrc _ (by omega)] at h
        by_cases hq : n / 1024 = gRc C
        · rw [if_pos hq] at h; omega
        · rw [if_neg hq] at h; omega
    · by_cases hr : n = gRc C
      · rw [hy h3 hr]
        subst hr
        have hlt : ∀ k, gLvO (m_begun C n1 f) k (gRc C) ↔ gLvO (m_begun C n1 f) k (gRc C) := fun _ => Iff.rfl
        unfold gLvO
        split <;> (try simp only [e1, e2]) <;> first | omega | (simp; done) | (simp; omega) | exact absurd rfl h3 | exact absurd rfl h13 | (simp_all; done)
      · rw [hz (fun e => h3 e.1) hr]
        unfold gLvO
        split <;> (try simp only [e1, e2]) <;> first | omega | (exact absurd rfl h3) | (exact absurd rfl h13)

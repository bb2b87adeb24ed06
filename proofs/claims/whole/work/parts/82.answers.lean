/-! ===== answer: what the class does, what is found after it ===== -/
def anD (C : gCT) (r f p : Nat) (v pr : Int32) : gCT := aPut (g2 (cs (cs (m_keepAnswer C r v) 11 r 5 (C 11 r 5 + pr)) 4 f 2 (C 4 f 2 - pr)) 19 0 (upd (C 19 0) p (C 19 0 p + pr))) r (a_put (a_st (aGet C r) 7) v)
theorem an_at {C : gCT} {r f p : Nat} (v pr : Int32) (hf : f < 4) (h6 : C 11 r 6 = nI f) (hp : p < 16) (h0 : C 11 r 0 = nI p) : m_takeAnswer (m_pay2 (cs (m_keepAnswer C r v) 11 r 5 (m_keepAnswer C r v 11 r 5 + pr)) r pr) r v = anD C r f p v pr := by
  have k : ∀ {κ : Nat}, κ ≠ 2 → κ ≠ 3 → κ ≠ 13 → m_keepAnswer C r v κ = C κ := fun h2 h3 h13 => m_keepAnswer_k C r v h2 h3 h13
  have e2 : m_pay2 (cs (m_keepAnswer C r v) 11 r 5 (C 11 r 5 + pr)) r pr = g2 (cs (cs (m_keepAnswer C r v) 11 r 5 (C 11 r 5 + pr)) 4 f 2 (C 4 f 2 - pr)) 19 0 (upd (C 19 0) p (C 19 0 p + pr)) := by
    have j6 : (cs (m_keepAnswer C r v) 11 r 5 (C 11 r 5 + pr) 11 r 6).toNatClampNeg = f := by
      rw [cs_o _ _ _ _ (by decide), k (by decide) (by decide) (by decide), h6, nI_clamp (by omega)]
    have j0 : ∀ w, cs (cs (m_keepAnswer C r v) 11 r 5 (C 11 r 5 + pr)) 4 f 2 w 11 r 0 = nI p := fun w => by
      rw [cs_k _ _ _ _ (by decide), cs_o _ _ _ _ (by decide), k (by decide) (by decide) (by decide), h0]
    have j4 : cs (m_keepAnswer C r v) 11 r 5 (C 11 r 5 + pr) 4 = C 4 := by
      rw [cs_k _ _ _ _ (by decide), k (by decide) (by decide) (by decide)]
    have j19 : ∀ w, cs (cs (m_keepAnswer C r v) 11 r 5 (C 11 r 5 + pr)) 4 f 2 w 19 = C 19 := fun w => by
      rw [cs_k _ _ _ _ (by decide), cs_k _ _ _ _ (by decide), k (by decide) (by decide) (by decide)]
    unfold m_pay2
    dsimp only
    rw [j6, j4, j0]
    unfold m_addTo
    rw [j19, (m_at_nat (C 19 0) hp (by decide) pr).2]
  rw [k (show 11 ≠ 2 by decide) (show 11 ≠ 3 by decide) (show 11 ≠ 13 by decide), e2]
  have eG : aGet (g2 (cs (cs (m_keepAnswer C r v) 11 r 5 (C 11 r 5 + pr)) 4 f 2 (C 4 f 2 - pr)) 19 0 (upd (C 19 0) p (C 19 0 p + pr))) r = aGet C r := by
    have j : ∀ {κ : Nat}, κ ≠ 2 → κ ≠ 3 → κ ≠ 13 → κ ≠ 11 → κ ≠ 4 → κ ≠ 19 → g2 (cs (cs (m_keepAnswer C r v) 11 r 5 (C 11 r 5 + pr)) 4 f 2 (C 4 f 2 - pr)) 19 0 (upd (C 19 0) p (C 19 0 p + pr)) κ = C κ := fun h1 h2 h3 h4 h5 h6 => by
      rw [g2_k _ _ h6, cs_k _ _ _ _ h5, cs_k _ _ _ _ h4, k h1 h2 h3]
    unfold aGet
    rw [j (by decide) (by decide) (by decide) (by decide) (by decide) (by decide), j (by decide) (by decide) (by decide) (by decide) (by decide) (by decide), j (by decide) (by decide) (by decide) (by decide) (by decide) (by decide), j (by decide) (by decide) (by decide) (by decide) (by decide) (by decide)]
  unfold anD
  have := A_takeAnswer (g2 (cs (cs (m_keepAnswer C r v) 11 r 5 (C 11 r 5 + pr)) 4 f 2 (C 4 f 2 - pr)) 19 0 (upd (C 19 0) p (C 19 0 p + pr))) r (aGet C r) v
  rw [← eG] at this
  rw [aPut_aGet, eG] at this
  exact this
theorem anD_k (C : gCT) (r f p : Nat) (v pr : Int32) {κ : Nat} (h : κ ≠ 2 ∧ κ ≠ 3 ∧ κ ≠ 4 ∧ κ ≠ 7 ∧ κ ≠ 8 ∧ κ ≠ 9 ∧ κ ≠ 10 ∧ κ ≠ 11 ∧ κ ≠ 13 ∧ κ ≠ 19) : anD C r f p v pr κ = C κ := by
  unfold anD
  rw [aPut_k _ _ _ (by omega), g2_k _ _ (by omega), cs_k _ _ _ _ (by omega), cs_k _ _ _ _ (by omega), m_keepAnswer_k C r v (by omega) (by omega) (by omega)]
theorem anD_2 (C : gCT) (r f p : Nat) (v pr : Int32) : anD C r f p v pr 2 = m_keepAnswer C r v 2 := by
  unfold anD
  rw [aPut_k _ _ _ (by decide), g2_k _ _ (by decide), cs_k _ _ _ _ (by decide), cs_k _ _ _ _ (by decide)]
theorem anD_13 (C : gCT) (r f p : Nat) (v pr : Int32) : anD C r f p v pr 13 = g2 C 13 (1024 * r + gCnt C r) (m_ans C r v) 13 := by
  unfold anD
  rw [aPut_k _ _ _ (by decide), g2_k _ _ (by decide), cs_k _ _ _ _ (by decide), cs_k _ _ _ _ (by decide), m_keepAnswer_13]
theorem anD_4 (C : gCT) (r f p : Nat) (v pr : Int32) : anD C r f p v pr 4 = cs C 4 f 2 (C 4 f 2 - pr) 4 := by
  unfold anD
  rw [aPut_k _ _ _ (by decide), g2_k _ _ (by decide)]
  funext n j
  rw [cs_rd C 4 f 2, cs_rd _ 4 f 2, cs_k _ _ _ _ (show (4 : Nat) ≠ 11 by decide), m_keepAnswer_k C r v (by decide) (by decide) (by decide)]
theorem anD_11 (C : gCT) (r f p : Nat) (v pr : Int32) : anD C r f p v pr 11 = cs C 11 r 5 (C 11 r 5 + pr) 11 := by
  unfold anD
  rw [aPut_k _ _ _ (by decide), g2_k _ _ (by decide), cs_k _ _ _ _ (by decide)]
  funext n j
  rw [cs_rd, cs_rd, m_keepAnswer_k C r v (by decide) (by decide) (by decide)]
theorem anD_19 (C : gCT) (r f p : Nat) (v pr : Int32) : anD C r f p v pr 19 0 = upd (C 19 0) p (C 19 0 p + pr) := by
  unfold anD
  rw [aPut_k _ _ _ (by decide), g2_s]
theorem anD_m (C : gCT) (r f p : Nat) (v pr : Int32) {κ s : Nat} (hs : s ≠ r) (h : κ = 7 ∨ κ = 8 ∨ κ = 9 ∨ κ = 10) : anD C r f p v pr κ s = C κ s := by
  unfold anD
  rw [aPut_n _ _ _ hs, g2_k _ _ (by omega), cs_k _ _ _ _ (by omega), cs_k _ _ _ _ (by omega), m_keepAnswer_k C r v (by omega) (by omega) (by omega)]
theorem anD_inv {C : gCT} {r f p : Nat} (hI : gInv C) (hr : r < gRc C) (hc : gCnt C r ≤ 511) (v pr : Int32) : gInv (anD C r f p v pr) := by
  have h1 := m_keepAnswer_inv v hI hr hc
  have h2 : gSx (m_keepAnswer C r v) (g2 (cs (cs (m_keepAnswer C r v) 11 r 5 (C 11 r 5 + pr)) 4 f 2 (C 4 f 2 - pr)) 19 0 (upd (C 19 0) p (C 19 0 p + pr))) := ((gSx.rf.cs1 rfl).cs1 rfl).g21 (by decide) (by decide) (by decide) (by decide) (by decide)
  have h3 : gSx (m_keepAnswer C r v) (anD C r f p v pr) := by
    unfold anD
    refine h2.tr ⟨aPut_k _ _ _ (by decide), aPut_k _ _ _ (by decide), fun g => by rw [aPut_k _ _ _ (by decide)], fun s => by rw [aPut_k _ _ _ (by decide)]; exact ⟨rfl, rfl⟩, aPut_k _ _ _ (by decide)⟩
  exact h3.inv h1
theorem m_nth_L_ext {C D : gCT} {r c : Nat} (hc : C 2 r 1 = nI c) (hc2 : c ≤ 511) (hd : D 2 r 1 = nI (c + 1)) (h13 : ∀ j, j < c → cT D r j = cT C r j) (q n w : Int32) : ∀ (n0 j : Nat) (f : Int32), j ≤ c → ¬ (m_nth_L n0 C r q n w f (nI j)).1 = -1 → (m_nth_L n0 D r q n w f (nI j)).1 = (m_nth_L n0 C r q n w f (nI j)).1 := by
  intro n0
  induction n0 with
  | zero => intro j f _ _; rfl
  | succ n0 ih =>
    intro j f hj hne
    unfold m_nth_L at hne ⊢
    dsimp only at hne ⊢
    rw [hc] at hne ⊢
    rw [hd]
    by_cases c1 : nI c ≤ nI j
    · rw [if_pos c1] at hne
      exact absurd rfl hne
    · have hjc : j < c := Nat.not_le.mp (fun z => c1 ((nat_le rfl rfl (by omega) (by omega)).mpr z))
      have c1' : ¬ nI (c + 1) ≤ nI j := fun z => absurd ((nat_le rfl rfl (by omega) (by omega)).mp z) (by omega)
      have e := h13 j hjc
      have e0 : D 13 (1024 * r + j) 0 = C 13 (1024 * r + j) 0 := congrArg Prod.fst e
      have e1 : D 13 (1024 * r + j) 1 = C 13 (1024 * r + j) 1 := congrArg (fun z => z.2.1) e
      have e2 : D 13 (1024 * r + j) 2 = C 13 (1024 * r + j) 2 := congrArg (fun z => z.2.2) e
      rw [if_neg c1, nI_clamp (by omega), nI_1] at hne
      rw [if_neg c1, if_neg c1', nI_clamp (by omega), e0, e1, e2, nI_1]
      have k := fun g => ih (j + 1) g (by omega)
      by_cases d1 : C 13 (1024 * r + j) 0 = q
      · rw [if_pos d1] at hne
        rw [if_pos d1, if_pos d1]
        by_cases d2 : C 13 (1024 * r + j) 1 = w
        · rw [if_pos d2] at hne
          rw [if_pos d2, if_pos d2]
          by_cases d3 : f + 1 = n
          · rw [if_pos d3, if_pos d3]
          · rw [if_neg d3] at hne
            rw [if_neg d3, if_neg d3]; exact k _ hne
        · rw [if_neg d2] at hne
          rw [if_neg d2, if_neg d2]; exact k _ hne
      · rw [if_neg d1] at hne
        rw [if_neg d1, if_neg d1]; exact k _ hne
theorem cs_cs (C : gCT) (κ n j : Nat) (v w : Int32) : cs (cs C κ n j v) κ n j w = cs C κ n j w := by
  funext a b i
  rw [cs_rd, cs_rd, cs_rd]
  split
  · rfl
  · rfl
theorem q_puts_7 (X : gCT) (r : Nat) (v : Int32) : (X 21 20 r = 8 → q_puts (cs X 21 24 r 7) r v = q_puts X r v ∧ q_puts X r v 21 24 r = 5) ∧ (¬ X 21 20 r = 8 → cs (q_puts X r v) 21 24 r 7 = q_puts (cs X 21 24 r 7) r v ∧ q_puts X r v 21 24 r = X 21 24 r) := by
  have hq : ∀ Y : gCT, q_puts Y r v = if Y 21 20 r = 8 then q_ends Y r 5 else cs (cs Y 21 19 (8 * r + (Y 21 20 r).toNatClampNeg) v) 21 20 r (Y 21 20 r + 1) := fun _ => rfl
  have e20 : cs X 21 24 r 7 21 20 r = X 21 20 r := by rw [cs_n _ _ _ _ (by decide)]
  refine ⟨fun h => ?_, fun h => ?_⟩
  · rw [hq, hq, e20, if_pos h, if_pos h]
    refine ⟨?_, q_ends_state _ _ _⟩
    have he : ∀ Y : gCT, q_ends Y r 5 = cs (cs (cs Y 21 24 r 5) 20 0 0 (Y 20 0 0 + Y 21 26 r)) 21 8 (Y 21 16 r).toNatClampNeg (Y 21 8 (Y 21 16 r).toNatClampNeg + Y 21 26 r) := fun _ => rfl
    rw [he, he, cs_cs, cs_k _ _ _ _ (show (20 : Nat) ≠ 21 by decide), cs_n _ _ _ _ (show (26 : Nat) ≠ 24 by decide), cs_n _ _ _ _ (show (16 : Nat) ≠ 24 by decide), cs_n _ _ _ _ (show (8 : Nat) ≠ 24 by decide)]
  · rw [hq, hq, e20, if_neg h, if_neg h]
    refine ⟨?_, ?_⟩
    · funext a b i
      rw [cs_rd, cs_rd, cs_rd, cs_rd, cs_rd, cs_rd]
      by_cases h24 : a = 21 ∧ b = 24 ∧ i = r
      · rw [if_pos h24, if_neg (by omega), if_neg (by omega), if_pos h24]
      · rw [if_neg h24, if_neg h24]
    · rw [cs_rd, if_neg (by omega), cs_rd, if_neg (by omega)]

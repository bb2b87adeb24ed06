/-! ===== begin: a run is made, and kept ===== -/
def m_newRun (C : gCT) (n1 : Int32) (f : Nat) : gCT := fun κ n => if n = gRc C then (match κ with
  | 11 => fun j => if j = 0 then n1 else if j = 1 then n1 - n1 / 4 * 4 else if j = 6 then nI f else if j = 7 then nI (8 * f + gVn C f) else 0
  | 7 => fun _ => 0
  | 8 => fun _ => 0
  | 9 => fun _ => 0
  | 10 => fun _ => 0
  | 12 => fun _ => 0
  | 2 => fun _ => 0
  | κ => C κ n) else C κ n
theorem m_newRun_n (C : gCT) (n1 : Int32) (f : Nat) (κ : Nat) {n : Nat} (h : n ≠ gRc C) : m_newRun C n1 f κ n = C κ n := if_neg h
theorem m_newRun_k (C : gCT) (n1 : Int32) (f : Nat) {κ : Nat} (n : Nat) (h11 : κ ≠ 11) (h7 : κ ≠ 7) (h8 : κ ≠ 8) (h9 : κ ≠ 9) (h10 : κ ≠ 10) (h12 : κ ≠ 12) (h2 : κ ≠ 2) : m_newRun C n1 f κ n = C κ n := by
  unfold m_newRun
  split
  · split <;> first | (exfalso; omega) | rfl
  · rfl
theorem gB_new (G : gG) (x : Nat → Int32) (ad : gAd) (n : Nat) {f w : Nat} (hf : f < 2 ^ 31) (hw : w < 2 ^ 31) (h6 : x 6 = nI f) (h7 : x 7 = nI w) : gB G 11 n x ad = .inr (5, [.int (x 0), .int (x 1), .ref (ad 4 f), .ref (ad 7 n), .ref (ad 2 n), .ref (ad 12 n), .ref (ad 14 w), .int (x 2), .int (x 3), .int (x 4), .int (x 5)]) := by
  unfold gB
  simp only [h6, h7, nI_clamp hf, nI_clamp hw]
set_option maxHeartbeats 4000000 in
theorem newRun_cong (G : gG) (C : gCT) (ad : gAd) (n1 : Int32) (f : Nat) (q1 q2 q3 q4 q5 q6 q7 : Nat) (hI : gInv C) (hrc : gRc C < 24) (hf : f < 4) (hN : ∀ κ, κ ∈ [11, 7, 8, 9, 10, 2, 12] → ¬ gLvO C κ (gRc C)) : ∀ κ n, (g2 (g2 (g2 (g2 (g2 (g2 (g2 (gLvO C) 11 (gRc C) True) 7 (gRc C) True) 8 (gRc C) True) 9 (gRc C) True) 10 (gRc C) True) 2 (gRc C) True) 12 (gRc C) True) κ n → (g2 (g2 (g2 (g2 (g2 (g2 (g2 (gF G C ad) 11 (gRc C) (.inr (5, [.int n1, .int (n1 - n1 / 4 * 4), .ref (ad 4 f), .ref q2, .ref q6, .ref q7, .ref (ad 14 (8 * f + gVn C f)), .int 0, .int 0, .int 0, .int 0]))) 7 (gRc C) (.inr (4, [.ref q3, .ref q4, .ref q5, .int 0, .int 0, .int 0, .int 0, .int 0, .int 0, .int 0, .int 0]))) 8 (gRc C) (.inl (G.2.1, 8, .inl (fun _ => 0)))) 9 (gRc C) (.inl (G.2.1, 8, .inl (fun _ => 0)))) 10 (gRc C) (.inl (G.2.1, 16, .inl (fun _ => 0)))) 2 (gRc C) (.inr (0, [.int 0, .ref (G.2.2.2.2.2 2), .int 0]))) 12 (gRc C) (.inl (G.2.1, 16, .inl (fun _ => 0)))) κ n = gF G (m_newRun C n1 f) (g2 (g2 (g2 (g2 (g2 (g2 (g2 ad 11 (gRc C) q1) 7 (gRc C) q2) 8 (gRc C) q3) 9 (gRc C) q4) 10 (gRc C) q5) 2 (gRc C) q6) 12 (gRc C) q7) κ n := by
  intro a b hab
  have hv := (hI.vn hf).1
  by_cases k1 : a = 11 ∧ b = gRc C
  · obtain ⟨rfl, rfl⟩ := k1
    refine (show _ = (.inr (5, [.int n1, .int (n1 - n1 / 4 * 4), .ref (ad 4 f), .ref q2, .ref q6, .ref q7, .ref (ad 14 (8 * f + gVn C f)), .int 0, .int 0, .int 0, .int 0]) : va_E) from (g2_n _ _ (fun e => absurd e.1 (by decide))).trans ((g2_n _ _ (fun e => absurd e.1 (by decide))).trans ((g2_n _ _ (fun e => absurd e.1 (by decide))).trans ((g2_n _ _ (fun e => absurd e.1 (by decide))).trans ((g2_n _ _ (fun e => absurd e.1 (by decide))).trans ((g2_n _ _ (fun e => absurd e.1 (by decide))).trans (g2_s _ _ _ _))))))).trans ?_
    show _ = gB G 11 (gRc C) (m_newRun C n1 f 11 (gRc C)) _
    rw [gB_new (f := f) (w := 8 * f + gVn C f) G _ _ _ (by omega) (by omega) (by unfold m_newRun; rw [if_pos rfl]; rfl) (by unfold m_newRun; rw [if_pos rfl]; rfl), show (g2 (g2 (g2 (g2 (g2 (g2 (g2 ad 11 (gRc C) q1) 7 (gRc C) q2) 8 (gRc C) q3) 9 (gRc C) q4) 10 (gRc C) q5) 2 (gRc C) q6) 12 (gRc C) q7) 4 f = (ad 4 f) from (g2_n _ _ (fun e => absurd e.1 (by decide))).trans ((g2_n _ _ (fun e => absurd e.1 (by decide))).trans ((g2_n _ _ (fun e => absurd e.1 (by decide))).trans ((g2_n _ _ (fun e => absurd e.1 (by decide))).trans ((g2_n _ _ (fun e => absurd e.1 (by decide))).trans ((g2_n _ _ (fun e => absurd e.1 (by decide))).trans ((g2_n _ _ (fun e => absurd e.1 (by decide))))))))), show (g2 (g2 (g2 (g2 (g2 (g2 (g2 ad 11 (gRc C) q1) 7 (gRc C) q2) 8 (gRc C) q3) 9 (gRc C) q4) 10 (gRc C) q5) 2 (gRc C) q6) 12 (gRc C) q7) 7 (gRc C) = q2 from (g2_n _ _ (fun e => absurd e.1 (by decide))).trans ((g2_n _ _ (fun e => absurd e.1 (by decide))).trans ((g2_n _ _ (fun e => absurd e.1 (by decide))).trans ((g2_n _ _ (fun e => absurd e.1 (by decide))).trans ((g2_n _ _ (fun e => absurd e.1 (by decide))).trans (g2_s _ _ _ _))))), show (g2 (g2 (g2 (g2 (g2 (g2 (g2 ad 11 (gRc C) q1) 7 (gRc C) q2) 8 (gRc C) q3) 9 (gRc C) q4) 10 (gRc C) q5) 2 (gRc C) q6) 12 (gRc C) q7) 2 (gRc C) = q6 from (g2_n _ _ (fun e => absurd e.1 (by decide))).trans (g2_s _ _ _ _), show (g2 (g2 (g2 (g2 (g2 (g2 (g2 ad 11 (gRc C) q1) 7 (gRc C) q2) 8 (gRc C) q3) 9 (gRc C) q4) 10 (gRc C) q5) 2 (gRc C) q6) 12 (gRc C) q7) 12 (gRc C) = q7 from g2_s _ _ _ _, show (g2 (g2 (g2 (g2 (g2 (g2 (g2 ad 11 (gRc C) q1) 7 (gRc C) q2) 8 (gRc C) q3) 9 (gRc C) q4) 10 (gRc C) q5) 2 (gRc C) q6) 12 (gRc C) q7) 14 (8 * f + gVn C f) = (ad 14 (8 * f + gVn C f)) from (g2_n _ _ (fun e => absurd e.1 (by decide))).trans ((g2_n _ _ (fun e => absurd e.1 (by decide))).trans ((g2_n _ _ (fun e => absurd e.1 (by decide))).trans ((g2_n _ _ (fun e => absurd e.1 (by decide))).trans ((g2_n _ _ (fun e => absurd e.1 (by decide))).trans ((g2_n _ _ (fun e => absurd e.1 (by decide))).trans ((g2_n _ _ (fun e => absurd e.1 (by decide)))))))))]
    unfold m_newRun
    simp
  by_cases k2 : a = 7 ∧ b = gRc C
  · obtain ⟨rfl, rfl⟩ := k2
    refine (show _ = (.inr (4, [.ref q3, .ref q4, .ref q5, .int 0, .int 0, .int 0, .int 0, .int 0, .int 0, .int 0, .int 0]) : va_E) from (g2_n _ _ (fun e => absurd e.1 (by decide))).trans ((g2_n _ _ (fun e => absurd e.1 (by decide))).trans ((g2_n _ _ (fun e => absurd e.1 (by decide))).trans ((g2_n _ _ (fun e => absurd e.1 (by decide))).trans ((g2_n _ _ (fun e => absurd e.1 (by decide))).trans (g2_s _ _ _ _)))))).trans ?_
    show _ = gB G 7 (gRc C) (m_newRun C n1 f 7 (gRc C)) _
    simp only [gB, show (g2 (g2 (g2 (g2 (g2 (g2 (g2 ad 11 (gRc C) q1) 7 (gRc C) q2) 8 (gRc C) q3) 9 (gRc C) q4) 10 (gRc C) q5) 2 (gRc C) q6) 12 (gRc C) q7) 8 (gRc C) = q3 from (g2_n _ _ (fun e => absurd e.1 (by decide))).trans ((g2_n _ _ (fun e => absurd e.1 (by decide))).trans ((g2_n _ _ (fun e => absurd e.1 (by decide))).trans ((g2_n _ _ (fun e => absurd e.1 (by decide))).trans (g2_s _ _ _ _)))), show (g2 (g2 (g2 (g2 (g2 (g2 (g2 ad 11 (gRc C) q1) 7 (gRc C) q2) 8 (gRc C) q3) 9 (gRc C) q4) 10 (gRc C) q5) 2 (gRc C) q6) 12 (gRc C) q7) 9 (gRc C) = q4 from (g2_n _ _ (fun e => absurd e.1 (by decide))).trans ((g2_n _ _ (fun e => absurd e.1 (by decide))).trans ((g2_n _ _ (fun e => absurd e.1 (by decide))).trans (g2_s _ _ _ _))), show (g2 (g2 (g2 (g2 (g2 (g2 (g2 ad 11 (gRc C) q1) 7 (gRc C) q2) 8 (gRc C) q3) 9 (gRc C) q4) 10 (gRc C) q5) 2 (gRc C) q6) 12 (gRc C) q7) 10 (gRc C) = q5 from (g2_n _ _ (fun e => absurd e.1 (by decide))).trans ((g2_n _ _ (fun e => absurd e.1 (by decide))).trans (g2_s _ _ _ _))]
    unfold m_newRun
    simp
  by_cases k3 : a = 8 ∧ b = gRc C
  · obtain ⟨rfl, rfl⟩ := k3
    refine (show _ = (.inl (G.2.1, 8, .inl (fun _ => 0)) : va_E) from (g2_n _ _ (fun e => absurd e.1 (by decide))).trans ((g2_n _ _ (fun e => absurd e.1 (by decide))).trans ((g2_n _ _ (fun e => absurd e.1 (by decide))).trans ((g2_n _ _ (fun e => absurd e.1 (by decide))).trans (g2_s _ _ _ _))))).trans ?_
    show _ = gB G 8 (gRc C) (m_newRun C n1 f 8 (gRc C)) _
    simp only [gB]
    unfold m_newRun
    simp
  by_cases k4 : a = 9 ∧ b = gRc C
  · obtain ⟨rfl, rfl⟩ := k4
    refine (show _ = (.inl (G.2.1, 8, .inl (fun _ => 0)) : va_E) from (g2_n _ _ (fun e => absurd e.1 (by decide))).trans ((g2_n _ _ (fun e => absurd e.1 (by decide))).trans ((g2_n _ _ (fun e => absurd e.1 (by decide))).trans (g2_s _ _ _ _)))).trans ?_
    show _ = gB G 9 (gRc C) (m_newRun C n1 f 9 (gRc C)) _
    simp only [gB]
    unfold m_newRun
    simp
  by_cases k5 : a = 10 ∧ b = gRc C
  · obtain ⟨rfl, rfl⟩ := k5
    refine (show _ = (.inl (G.2.1, 16, .inl (fun _ => 0)) : va_E) from (g2_n _ _ (fun e => absurd e.1 (by decide))).trans ((g2_n _ _ (fun e => absurd e.1 (by decide))).trans (g2_s _ _ _ _))).trans ?_
    show _ = gB G 10 (gRc C) (m_newRun C n1 f 10 (gRc C)) _
    simp only [gB]
    unfold m_newRun
    simp
  by_cases k6 : a = 2 ∧ b = gRc C
  · obtain ⟨rfl, rfl⟩ := k6
    refine (show _ = (.inr (0, [.int 0, .ref (G.2.2.2.2.2 2), .int 0]) : va_E) from (g2_n _ _ (fun e => absurd e.1 (by decide))).trans (g2_s _ _ _ _)).trans ?_
    show _ = gB G 2 (gRc C) (m_newRun C n1 f 2 (gRc C)) _
    simp only [gB]
    unfold m_newRun
    simp
  by_cases k7 : a = 12 ∧ b = gRc C
  · obtain ⟨rfl, rfl⟩ := k7
    refine (show _ = (.inl (G.2.1, 16, .inl (fun _ => 0)) : va_E) from g2_s _ _ _ _).trans ?_
    show _ = gB G 12 (gRc C) (m_newRun C n1 f 12 (gRc C)) _
    simp only [gB]
    unfold m_newRun
    simp
  have hl : gLvO C a b := by
    have hz : (g2 (g2 (g2 (g2 (g2 (g2 (g2 (gLvO C) 11 (gRc C) True) 7 (gRc C) True) 8 (gRc C) True) 9 (gRc C) True) 10 (gRc C) True) 2 (gRc C) True) 12 (gRc C) True) a b = gLvO C a b := by simp only [g2, if_neg k1, if_neg k2, if_neg k3, if_neg k4, if_neg k5, if_neg k6, if_neg k7]
    exact Eq.mp hz hab
  have hz : (g2 (g2 (g2 (g2 (g2 (g2 (g2 (gF G C ad) 11 (gRc C) (.inr (5, [.int n1, .int (n1 - n1 / 4 * 4), .ref (ad 4 f), .ref q2, .ref q6, .ref q7, .ref (ad 14 (8 * f + gVn C f)), .int 0, .int 0, .int 0, .int 0]))) 7 (gRc C) (.inr (4, [.ref q3, .ref q4, .ref q5, .int 0, .int 0, .int 0, .int 0, .int 0, .int 0, .int 0, .int 0]))) 8 (gRc C) (.inl (G.2.1, 8, .inl (fun _ => 0)))) 9 (gRc C) (.inl (G.2.1, 8, .inl (fun _ => 0)))) 10 (gRc C) (.inl (G.2.1, 16, .inl (fun _ => 0)))) 2 (gRc C) (.inr (0, [.int 0, .ref (G.2.2.2.2.2 2), .int 0]))) 12 (gRc C) (.inl (G.2.1, 16, .inl (fun _ => 0)))) a b = gF G C ad a b := by simp only [g2, if_neg k1, if_neg k2, if_neg k3, if_neg k4, if_neg k5, if_neg k6, if_neg k7]
  rw [hz, ← gF_ad hI (ad := ad) (ad' := (g2 (g2 (g2 (g2 (g2 (g2 (g2 ad 11 (gRc C) q1) 7 (gRc C) q2) 8 (gRc C) q3) 9 (gRc C) q4) 10 (gRc C) q5) 2 (gRc C) q6) 12 (gRc C) q7)) (fun κ n h => ?_) a b hl]
  · show gB G a b (C a b) _ = gB G a b (m_newRun C n1 f a b) _
    congr 1
    by_cases hb : b = gRc C
    · exact (m_newRun_k C n1 f b (fun e => k1 ⟨e, hb⟩) (fun e => k2 ⟨e, hb⟩) (fun e => k3 ⟨e, hb⟩) (fun e => k4 ⟨e, hb⟩) (fun e => k5 ⟨e, hb⟩) (fun e => k7 ⟨e, hb⟩) (fun e => k6 ⟨e, hb⟩)).symm
    · exact (m_newRun_n C n1 f a hb).symm
  · simp only [g2]
    simp only [if_neg (show ¬ (κ = 11 ∧ n = gRc C) from fun e => hN 11 (by decide) (by rw [← e.1, ← e.2]; exact h)), if_neg (show ¬ (κ = 7 ∧ n = gRc C) from fun e => hN 7 (by decide) (by rw [← e.1, ← e.2]; exact h)), if_neg (show ¬ (κ = 8 ∧ n = gRc C) from fun e => hN 8 (by decide) (by rw [← e.1, ← e.2]; exact h)), if_neg (show ¬ (κ = 9 ∧ n = gRc C) from fun e => hN 9 (by decide) (by rw [← e.1, ← e.2]; exact h)), if_neg (show ¬ (κ = 10 ∧ n = gRc C) from fun e => hN 10 (by decide) (by rw [← e.1, ← e.2]; exact h)), if_neg (show ¬ (κ = 2 ∧ n = gRc C) from fun e => hN 2 (by decide) (by rw [← e.1, ← e.2]; exact h)), if_neg (show ¬ (κ = 12 ∧ n = gRc C) from fun e => hN 12 (by decide) (by rw [← e.1, ← e.2]; exact h))]

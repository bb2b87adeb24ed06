/-! ===== a run starts over: the relation after it ===== -/
theorem s_start {C M : gCT} {a n r f p : Nat} (hI : gInv C) (hB : MBI M) (hr : r < gRc C) (ha : a ≤ 512) (han : a ≤ n) (hO : sOth a r C M) (hf : f < 4) (h6 : C 11 r 6 = nI f) (m16 : M 21 16 r = nI f) (hv : 1 ≤ gVn C f) (hp : p < 16) (h0 : C 11 r 0 = nI p) (m15 : M 21 15 r = nI p) (h1 : C 11 r 1 = nI (p % 4)) (h5 : C 11 r 5 = M 21 26 r) (hL : cLf C r 0 (gCnt C r) = rLf M r 0 a) :
    sRel n (m_go (m_startOver C r) r) (q_starts M r) ∧ q_starts M r 20 0 1 = M 20 0 1 ∧ q_starts M r 20 0 3 = M 20 0 3 := by
  have h24 := hI.1
  have hvn := hI.vn hf
  obtain ⟨o1, o2, o3, o4, o5, o6, o7, o8⟩ := hO
  have hF := o4 f hf
  obtain ⟨F, hF200, eF⟩ : ∃ F : Nat, F ≤ 200 ∧ M 21 7 f = nI F := by
    obtain ⟨d, d1, d2⟩ := hB.1 7 f hf (by decide)
    have d1 : d < 201 := d1
    exact ⟨d, by omega, d2⟩
  have c41 : C 4 f 1 = nI F := hF.1.2.1.trans eF
  have m6 : M 21 6 f = nI (gVn C f) := hF.1.1.symm.trans hvn.2.1
  obtain ⟨N, bN, eN, nF, ⟨n17, n23, n18, n20, n22, n24⟩, n21, n27⟩ := q_starts_at hB (show r < 24 by omega) hf m16 m6 hv hvn.1 eF hF200
  obtain ⟨d1, d2, ⟨d3, d4, d5⟩, d6, d7⟩ := m_startOver_at hI hf h6 hv c41
  have dk : ∀ {κ : Nat}, κ < 7 ∨ 12 < κ → m_startOver C r κ = C κ := fun h => m_startOver_k C r (by omega) (by omega) (by omega) (by omega) (by omega) (by omega)
  have dI := m_startOver_inv hI hr
  rw [eN]
  generalize m_startOver C r = D at d1 d2 d3 d4 d5 d6 d7 dk dI ⊢
  have hrc : gRc D = gRc C := by unfold gRc; rw [dk (by decide)]
  have hvD : gVn D = gVn C := by funext k; unfold gVn; rw [dk (by decide)]
  have hcnt : gCnt D = gCnt C := by funext k; unfold gCnt; rw [dk (by decide)]
  have g21 : ∀ k, k ≠ 17 → k ≠ 18 → k ≠ 20 → k ≠ 22 → k ≠ 23 → k ≠ 24 → k ≠ 21 → k ≠ 27 → k ≠ 28 → N 21 k = M 21 k := fun k k1 k2 k3 k4 k5 k6 k7 k8 k9 => by
    funext j
    exact nF 21 k j (by unfold stTo; omega)
  have hrl : ∀ s, rLf N s 0 a = rLf M s 0 a := fun s => rLf_cong a 0 (fun j _ => by
    unfold rT
    rw [g21 30 (by decide) (by decide) (by decide) (by decide) (by decide) (by decide) (by decide) (by decide) (by decide), g21 31 (by decide) (by decide) (by decide) (by decide) (by decide) (by decide) (by decide) (by decide) (by decide), g21 32 (by decide) (by decide) (by decide) (by decide) (by decide) (by decide) (by decide) (by decide) (by decide), g21 33 (by decide) (by decide) (by decide) (by decide) (by decide) (by decide) (by decide) (by decide) (by decide)]
    exact ⟨rfl, rfl⟩)
  have hcl : ∀ s m, cLf D s 0 m = cLf C s 0 m := fun s m => cLf_cong _ _ (fun j _ => by unfold cT; rw [dk (by decide)])
  have w1 : N 20 0 1 = M 20 0 1 := nF 20 0 1 (by unfold stTo; omega)
  have w3 : N 20 0 3 = M 20 0 3 := nF 20 0 3 (by unfold stTo; omega)
  have hSt : sSt a r f (gVn C f - 1) p F D N := by
    refine ⟨⟨hf, (d6 6 (by decide) (by decide) (by decide)).trans h6, ?_, by rw [hvD]; omega, d4, n17, by rw [d3, show 8 * f + (gVn C f - 1) + 1 = 8 * f + gVn C f by omega]⟩, ⟨hp, (d6 0 (by decide) (by decide) (by decide)).trans h0, ?_, (d6 1 (by decide) (by decide) (by decide)).trans h1⟩, ?_, fun q hq => ?_, ?_, hF200, d5⟩
    · exact (nF 21 16 r (by unfold stTo; omega)).trans m16
    · exact (nF 21 15 r (by unfold stTo; omega)).trans m15
    · rw [d6 5 (by decide) (by decide) (by decide), nF 21 26 r (by unfold stTo; omega)]; exact h5
    · rw [d7 q hq, (n27 q hq).1]; exact (o5 q hq).2.1
    · rw [hcnt, hcl, hrl]; exact hL
  have hOD : sOth a r D N := by
    refine ⟨(nF 20 0 2 (by unfold stTo; omega)).trans o1, ?_, fun s hs hsr => ?_, fun g hg => ?_, fun q hq => ?_, ?_, ?_, ?_⟩
    · rw [hrc, g21 30 (by decide) (by decide) (by decide) (by decide) (by decide) (by decide) (by decide) (by decide) (by decide), g21 33 (by decide) (by decide) (by decide) (by decide) (by decide) (by decide) (by decide) (by decide) (by decide)]
      exact o2
    · rw [hrc] at hs
      refine sU_gen hI hs (fun k => by rw [hvD]; exact Nat.le_refl _) ?_ (fun k w _ _ => by rw [dk (by decide), dk (by decide), dk (by decide)]; exact ⟨rfl, rfl, rfl⟩) ?_ (hrl s) (o3 s hs hsr)
      · unfold cSm cT
        rw [d2 11 s (by decide) hsr, d2 12 s (by decide) hsr, dk (show 2 < 7 ∨ 12 < 2 by decide), dk (show 13 < 7 ∨ 12 < 13 by decide), d2 7 s (by decide) hsr, d2 8 s (by decide) hsr, d2 9 s (by decide) hsr, d2 10 s (by decide) hsr]
        exact ⟨rfl, rfl, rfl, fun _ _ => rfl, rfl, rfl, rfl, rfl⟩
      · refine ⟨fun k hk => nF 21 k s (by unfold stTo; omega), fun j hj => ⟨nF 21 19 _ (by unfold stTo; omega), nF 21 21 _ (by unfold stTo; omega)⟩, fun q hq => ⟨nF 21 27 _ (by unfold stTo; omega), nF 21 28 _ (by unfold stTo; omega)⟩⟩
    · have := o4 g hg
      unfold sF sCd at this ⊢
      rw [hvD, dk (show 4 < 7 ∨ 12 < 4 by decide), dk (show 5 < 7 ∨ 12 < 5 by decide), dk (show 6 < 7 ∨ 12 < 6 by decide), dk (show 14 < 7 ∨ 12 < 14 by decide), dk (show 15 < 7 ∨ 12 < 15 by decide), dk (show 16 < 7 ∨ 12 < 16 by decide)]
      rw [g21 6 (by decide) (by decide) (by decide) (by decide) (by decide) (by decide) (by decide) (by decide) (by decide), g21 7 (by decide) (by decide) (by decide) (by decide) (by decide) (by decide) (by decide) (by decide) (by decide), g21 8 (by decide) (by decide) (by decide) (by decide) (by decide) (by decide) (by decide) (by decide) (by decide), g21 9 (by decide) (by decide) (by decide) (by decide) (by decide) (by decide) (by decide) (by decide) (by decide), g21 10 (by decide) (by decide) (by decide) (by decide) (by decide) (by decide) (by decide) (by decide) (by decide), g21 2 (by decide) (by decide) (by decide) (by decide) (by decide) (by decide) (by decide) (by decide) (by decide), g21 0 (by decide) (by decide) (by decide) (by decide) (by decide) (by decide) (by decide) (by decide) (by decide), g21 (0 + 1) (by decide) (by decide) (by decide) (by decide) (by decide) (by decide) (by decide) (by decide) (by decide), g21 5 (by decide) (by decide) (by decide) (by decide) (by decide) (by decide) (by decide) (by decide) (by decide), g21 3 (by decide) (by decide) (by decide) (by decide) (by decide) (by decide) (by decide) (by decide) (by decide), g21 (3 + 1) (by decide) (by decide) (by decide) (by decide) (by decide) (by decide) (by decide) (by decide) (by decide)]
      exact this
    · rw [dk (show 17 < 7 ∨ 12 < 17 by decide), dk (show 18 < 7 ∨ 12 < 18 by decide), dk (show 19 < 7 ∨ 12 < 19 by decide), g21 11 (by decide) (by decide) (by decide) (by decide) (by decide) (by decide) (by decide) (by decide) (by decide), g21 12 (by decide) (by decide) (by decide) (by decide) (by decide) (by decide) (by decide) (by decide) (by decide), g21 13 (by decide) (by decide) (by decide) (by decide) (by decide) (by decide) (by decide) (by decide) (by decide)]
      exact o5 q hq
    · rw [dk (show 0 < 7 ∨ 12 < 0 by decide), nF 20 0 0 (by unfold stTo; omega)]; exact o6
    · rw [dk (show 2 < 7 ∨ 12 < 2 by decide), w1]; exact o7
    · rw [hrc, g21 26 (by decide) (by decide) (by decide) (by decide) (by decide) (by decide) (by decide) (by decide) (by decide)]; exact o8
  have hr0 := a_reset_r (aGet C r) (nI F)
  have hop : a_open (a_reset (aGet C r) (nI F)) ((a_reset (aGet C r) (nI F)).1 7) = a_reset (aGet C r) (nI F) := Prod.ext (upd_id _ _ rfl) rfl
  have hx7 : (aGet D r).1 4 = 7 := by rw [d1]; exact hr0.2.2.2.2.1
  have hAr : aR N r (aGet D r) N := by
    rw [d1]
    refine ⟨⟨?_, ?_, ?_, ?_, ?_⟩, fun hz => ?_, fun j hj => ?_, fun q hq => ?_, fun j _ hjh => ?_, fun κ n j _ _ => rfl⟩
    · rw [n20, hr0.1]
    · rw [n18, hr0.2.1]
    · rw [n23, hr0.2.2.1]
    · rw [n22, hr0.2.2.2.1]
    · rw [n24, hr0.2.2.2.2.1]
    · rw [hr0.2.2.2.2.1] at hz; exact absurd hz (by decide)
    · rw [n21 j hj]; exact (if_pos hj : (if j < 8 then (0 : Int32) else (aGet C r).2.2.1 j) = 0).symm
    · rw [(n27 q hq).2]; exact (if_pos hq : (if q < 16 then (0 : Int32) else (aGet C r).2.2.2 q) = 0).symm
    · rw [hr0.1] at hjh; exact absurd hjh (Nat.not_lt_zero _)
  obtain ⟨c1, -, c3, c4⟩ := s_core (n := n) dI bN (by rw [hrc]; exact hr) ha han hOD hSt (Or.inl hx7) (aS.mk hAr (Or.inl hx7) ⟨rfl, rfl, rfl, rfl⟩) (by rw [d1, ← hop]; exact aI.reset hF200 _) ⟨fun q hq => ⟨0, by rw [d1]; exact (if_pos hq : (if q < 16 then (0 : Int32) else (aGet C r).2.2.2 q) = 0), Nat.zero_le _, ⟨fun e => by omega, fun e => absurd (hx7.symm.trans e.1) (by decide)⟩⟩, fun e => absurd (hx7.symm.trans e) (by decide)⟩ (by rw [d1, ← hop]; exact reach_0 _ hF200 _ _)
  exact ⟨c1, c3.trans w1, c4.trans w3⟩

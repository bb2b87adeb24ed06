/-! ===== a run goes on, starts over: what holds after it ===== -/
def zV (w : Int32) : Prop := w = 0 ∨ w = 2 ∨ w = 3 ∨ w = 4 ∨ w = 5
theorem k_core {C : gCT} {n r F : Nat} {fd : Int32} (hn : n ≤ 700) (hI : gInv C) (hF : kF C) (hQ : kQ n C) (hr : r < gRc C) (hO : ∀ s, s < gRc C → s ≠ r → kU n C s) (hR : kR n C r) (h42 : ¬ C 11 r 4 = 2) (h4 : (aGet C r).1 4 = 7 ∨ (aGet C r).1 4 = 5) (hAI : aI (aGet C r)) (hK : aK (sCt C r) (aGet C r)) (h9 : a9 0 (aGet C r)) (hF2 : F ≤ 200) (f3 : C 11 r 3 = nI F) (hG : gReach (envC C r) (nI F) (aGet C r)) (hM : kM n fd C) (hD : kD C) :
    kJ (n + 1) fd (m_go C r) ∧ ∃ z : aM, goK C (m_go C r) r z ∧ zV (z.1 4) := by
  have hE := k_fit hI hF hR
  have hC := k_cnt hI hr hR
  have hA := k_in9 hI hr hR
  have hR0 := hR
  obtain ⟨⟨f, v, k1, k2, k3, k4, k5⟩, ⟨p, p1, p2, p3⟩, -, -, d, d1, d2⟩ := hR0
  have hg1000 : goG C f p ≤ 1000 := by unfold goG; split <;> omega
  have hyI : aI (a_open (aGet C r) (nI (goG C f p))) := hAI.reg (i := 7) _ (by decide)
  have hyK := hK.op (nI (goG C f p))
  have hyR := reach.op hG (nI (goG C f p))
  have hy9 : a9 0 (a_open (aGet C r) (nI (goG C f p))) := h9.reg (i := 7) _ (by decide) (by decide) (by decide)
  have hy7 : (a_open (aGet C r) (nI (goG C f p))).1 7 = nI (goG C f p) := upd_s (aGet C r).1 7 (nI (goG C f p))
  obtain ⟨fu, hfu, efu⟩ := hyI.2.2
  have hV0 : aV ((a_open (aGet C r) (nI (goG C f p))).1 4) := by
    rw [O_r _ _ (i := 4) (by decide)]
    unfold aV
    rcases h4 with h4 | h4 <;> rw [h4] <;> decide
  have hz1 := reach_L hE 201 hyR hyI hg1000 hy7
  have hz2 := aK.loop hE hC 201 hyK hyI
  have hz3 := a_L_ends hE 201 hyI efu hfu (by omega)
  have hz4 := aV.loop hE 201 hyI hV0
  have hz9 := a9.loop hE hA 201 hy9 hyI
  have eZ : a_L (envC C r) 201 (a_open (aGet C r) (nI (goG C f p))) = goZ C r f p := rfl
  rw [eZ] at hz1 hz2 hz3 hz4 hz9
  have gK := go_K (r := r) k1 k2 p3 p1 p2
  have gM : kM (n + 1) fd (m_go C r) := by
    obtain ⟨-, -, b, fb, b1, -, b3⟩ := hz9
    exact go_M hn k1 k2 p3 p1 p2 d2 d1 b1 (by omega) hM
  have gD := go_D hr k1 k2 p3 p1 p2 h42 hD
  have gI : gInv (m_go C r) := (m_go_str gSx.rf r : gSx C (m_go C r)).inv hI
  have hzV : zV ((goZ C r f p).1 4) := by
    unfold aV at hz4
    unfold zV
    rcases hz4 with q | q | q | q | q | q
    · exact Or.inl q
    · exact Or.inr (Or.inl q)
    · exact Or.inr (Or.inr (Or.inl q))
    · exact Or.inr (Or.inr (Or.inr (Or.inl q)))
    · exact Or.inr (Or.inr (Or.inr (Or.inr q)))
    · exact absurd q hz3
  refine ⟨?_, goZ C r f p, gK, hzV⟩
  obtain ⟨g1, g2, g3, g4, g5⟩ := gK
  generalize m_go C r = D at g1 g2 g3 g4 g5 gM gD gI ⊢
  generalize goZ C r f p = z at hz1 hz2 hz9 hzV g3 g4
  have hrc : gRc D = gRc C := by unfold gRc; rw [g1 2 (by decide)]
  have hvn : gVn D = gVn C := by funext k; unfold gVn; rw [g5 k 0 (by decide)]
  have hcnt : gCnt D = gCnt C := by funext k; unfold gCnt; rw [g1 2 (by decide)]
  refine ⟨gI, kF_same (fun f => ⟨g5 f 0 (by decide), g5 f 1 (by decide)⟩) (g1 5 (by decide)) (g1 14 (by decide)) (g1 15 (by decide)) (g1 16 (by decide)) hF, (kQ_same (g1 17 (by decide)) (g1 18 (by decide)) hQ).up (Nat.le_succ n), fun s hs => ?_, gM, gD⟩
  rw [hrc] at hs
  refine kU.up (n := n) ?_ (Nat.le_succ n)
  by_cases e : s = r
  · subst e
    have eE : envC D s = envC C s := envC_cong (by rw [g1 12 (by decide)]) (by rw [g1 2 (by decide)]) (g1 13 (by decide)) (by rw [g3, if_neg (by decide)]) (g1 15 (by decide)) (g1 16 (by decide)) (g1 14 (by decide))
    have eL : cLf D s 0 (gCnt C s) = cLf C s 0 (gCnt C s) := cLf_cong _ _ (fun j _ => by unfold cT; rw [g1 13 (by decide)])
    have eS : sCt D s = sCt C s := by unfold sCt; rw [hcnt, eL, g1 12 (by decide)]
    have eG : aGet D s = z := by unfold aGet; rw [g4.1, g4.2.1, g4.2.2.1, g4.2.2.2]
    refine ⟨kR_gen (fun k => by rw [hvn]; exact Nat.le_refl _) (fun j hj => by rw [g3, if_neg hj]) (fun q _ => by rw [g1 12 (by decide)]) (by rw [g1 2 (by decide)]) (fun j _ => by unfold cT; rw [g1 13 (by decide)]) hR, ?_, ?_⟩
    · unfold kS
      rw [g3, if_pos rfl, g4.1]
      unfold zV at hzV
      rcases hzV with q | q | q | q | q
      · exact Or.inl ⟨Or.inl q, q⟩
      · exact Or.inr ⟨rfl, Or.inl q⟩
      · exact Or.inr ⟨rfl, Or.inr (Or.inl q)⟩
      · exact Or.inr ⟨rfl, Or.inr (Or.inr (Or.inl q))⟩
      · exact Or.inr ⟨rfl, Or.inr (Or.inr (Or.inr q))⟩
    · unfold kN
      rw [eG, eS, eE, g3, if_neg (by decide)]
      exact ⟨⟨hz1.2, hz2, hz9⟩, F, hF2, f3, hz1.1⟩
  · refine kU_gen hI hs (fun k => by rw [hvn]; exact Nat.le_refl _) ?_ (fun k w _ _ => by rw [g1 15 (by decide), g1 16 (by decide), g1 14 (by decide)]; exact ⟨rfl, rfl, rfl⟩) (hO s hs e)
    unfold cSm cT
    rw [g2 11 s (by decide) e, g1 12 (by decide), g1 2 (by decide), g1 13 (by decide), g2 7 s (by decide) e, g2 8 s (by decide) e, g2 9 s (by decide) e, g2 10 s (by decide) e]
    exact ⟨rfl, rfl, rfl, fun _ _ => rfl, rfl, rfl, rfl, rfl⟩
theorem k_start {C : gCT} {n r f p : Nat} {fd : Int32} (hn : n ≤ 700) (hI : gInv C) (hF : kF C) (hQ : kQ n C) (hr : r < gRc C) (hO : ∀ s, s < gRc C → s ≠ r → kU n C s) (hf : f < 4) (h6 : C 11 r 6 = nI f) (hv : 1 ≤ gVn C f) (hp : p < 16) (h0 : C 11 r 0 = nI p) (h1 : C 11 r 1 = nI (p % 4)) (hT : ∀ j, j < gCnt C r → kT n (cT C r j)) (h5 : ∃ d : Nat, d ≤ 1000 * n ∧ C 11 r 5 = nI d) (h42 : ¬ C 11 r 4 = 2) (hM : kM n fd C) (hD : kD C) :
    kJ (n + 1) fd (m_go (m_startOver C r) r) ∧ ∃ z : aM, goK (m_startOver C r) (m_go (m_startOver C r) r) r z ∧ zV (z.1 4) := by
  have hvn := hI.vn hf
  obtain ⟨⟨F, F1, F2, eF⟩, -⟩ := hF f hf
  obtain ⟨d1, d2, ⟨d3, d4, d5⟩, d6, d7⟩ := m_startOver_at hI hf h6 hv eF
  have dk : ∀ {κ : Nat}, κ < 7 ∨ 12 < κ → m_startOver C r κ = C κ := fun h => m_startOver_k C r (by omega) (by omega) (by omega) (by omega) (by omega) (by omega)
  have dI := m_startOver_inv hI hr
  generalize m_startOver C r = D at d1 d2 d3 d4 d5 d6 d7 dk dI ⊢
  have hrc : gRc D = gRc C := by unfold gRc; rw [dk (by decide)]
  have hvD : gVn D = gVn C := by funext k; unfold gVn; rw [dk (by decide)]
  have hcnt : gCnt D = gCnt C := by funext k; unfold gCnt; rw [dk (by decide)]
  have hr0 := a_reset_r (aGet C r) (nI F)
  have hop : a_open (a_reset (aGet C r) (nI F)) ((a_reset (aGet C r) (nI F)).1 7) = a_reset (aGet C r) (nI F) := Prod.ext (upd_id _ _ rfl) rfl
  have hx7 : (aGet D r).1 4 = 7 := by rw [d1]; exact hr0.2.2.2.2.1
  have hRD : kR n D r := by
    refine ⟨⟨f, gVn C f - 1, hf, (d6 6 (by decide) (by decide) (by decide)).trans h6, by rw [hvD]; omega, d4, by rw [d3, show 8 * f + (gVn C f - 1) + 1 = 8 * f + gVn C f by omega]⟩, ⟨p, hp, (d6 0 (by decide) (by decide) (by decide)).trans h0, (d6 1 (by decide) (by decide) (by decide)).trans h1⟩, fun q hq => ?_, fun j hj => ?_, ?_⟩
    · rw [d7 q hq]; exact (hQ q hq).2
    · rw [hcnt] at hj
      have e : cT D r j = cT C r j := by unfold cT; rw [dk (by decide)]
      rw [e]; exact hT j hj
    · rw [d6 5 (by decide) (by decide) (by decide)]; exact h5
  refine k_core hn dI (kF_same (fun g => by rw [dk (by decide)]; exact ⟨rfl, rfl⟩) (dk (by decide)) (dk (by decide)) (dk (by decide)) (dk (by decide)) hF) (kQ_same (dk (by decide)) (dk (by decide)) hQ) (by rw [hrc]; exact hr) (fun s hs hsr => ?_) hRD ?_ (Or.inl hx7) (by rw [d1, ← hop]; exact aI.reset F2 _) ⟨fun q hq => ⟨0, by rw [d1]; exact (if_pos hq : (if q < 16 then (0 : Int32) else (aGet C r).2.2.2 q) = 0), Nat.zero_le _, ⟨fun e => by omega, fun e => absurd (hx7.symm.trans e.1) (by decide)⟩⟩, fun e => absurd (hx7.symm.trans e) (by decide)⟩ (by rw [d1]; exact a9.reset _ F2) F2 d5 (by rw [d1, ← hop]; exact reach_0 _ F2 _ _) (kM_same (by rw [dk (by decide)]) (fun g => by rw [dk (by decide)]) (by rw [dk (by decide)]) hM) (kD_same (by rw [dk (by decide)]) (dk (by decide)) (fun s hs => ?_) hD)
  · rw [hrc] at hs
    refine kU_gen hI hs (fun k => by rw [hvD]; exact Nat.le_refl _) ?_ (fun k w _ _ => by rw [dk (by decide), dk (by decide), dk (by decide)]; exact ⟨rfl, rfl, rfl⟩) (hO s hs hsr)
    unfold cSm cT
    rw [d2 11 s (by decide) hsr, d2 12 s (by decide) hsr, dk (show 2 < 7 ∨ 12 < 2 by decide), dk (show 13 < 7 ∨ 12 < 13 by decide), d2 7 s (by decide) hsr, d2 8 s (by decide) hsr, d2 9 s (by decide) hsr, d2 10 s (by decide) hsr]
    exact ⟨rfl, rfl, rfl, fun _ _ => rfl, rfl, rfl, rfl, rfl⟩
  · rw [d6 4 (by decide) (by decide) (by decide)]; exact h42
  · by_cases e : s = r
    · subst e; exact d6 4 (by decide) (by decide) (by decide)
    · rw [d2 11 s (by decide) e]

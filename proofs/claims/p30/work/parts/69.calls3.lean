/-! ===== wake, begin, answer ===== -/
theorem go_22 {C : gCT} {r f p : Nat} (hf : f < 4) (h6 : C 11 r 6 = nI f) (h1 : C 11 r 1 = nI (p % 4)) (hp : p < 16) (h0 : C 11 r 0 = nI p) : m_go C r 22 = C 22 := by
  rw [go_at hf h6 h1 hp h0]
  generalize goZ C r f p = z
  have e : go8 C r z 22 = C 22 := go8_k C r z (by decide)
  by_cases c2 : z.1 4 = 2
  · rw [if_pos c2, g2_k _ _ (by decide), cs_k _ _ _ _ (by decide), g2_k _ _ (by decide), e]
  rw [if_neg c2]
  by_cases c5 : z.1 4 = 5
  · rw [if_pos c5, cs_k _ _ _ _ (by decide), cs_k _ _ _ _ (by decide), e]
  rw [if_neg c5]
  by_cases c4 : z.1 4 = 4
  · rw [if_pos c4, cs_k _ _ _ _ (by decide), cs_k _ _ _ _ (by decide), e]
  rw [if_neg c4, e]
theorem x_start {C : gCT} {r f p F : Nat} (hI : gInv C) (hf : f < 4) (h6 : C 11 r 6 = nI f) (hv : 1 ≤ gVn C f) (hp : p < 16) (h0 : C 11 r 0 = nI p) (h1 : C 11 r 1 = nI (p % 4)) (eF : C 4 f 1 = nI F) : m_go (m_startOver C r) r 22 = C 22 ∧ m_go (m_startOver C r) r 14 = C 14 ∧ (∀ g, m_go (m_startOver C r) r 4 g 0 = C 4 g 0) ∧ m_go (m_startOver C r) r 2 = C 2 ∧ (∀ s, s ≠ r → m_go (m_startOver C r) r 11 s = C 11 s) ∧ m_go (m_startOver C r) r 11 r 2 = nI (gVn C f - 1) := by
  obtain ⟨d1, d2, ⟨d3, d4, d5⟩, d6, d7⟩ := m_startOver_at hI hf h6 hv eF
  have dk : ∀ {κ : Nat}, κ < 7 ∨ 12 < κ → m_startOver C r κ = C κ := fun h => m_startOver_k C r (by omega) (by omega) (by omega) (by omega) (by omega) (by omega)
  have b6 := (d6 6 (by decide) (by decide) (by decide)).trans h6
  have b0 := (d6 0 (by decide) (by decide) (by decide)).trans h0
  have b1 := (d6 1 (by decide) (by decide) (by decide)).trans h1
  have g22 := go_22 hf b6 b1 hp b0
  obtain ⟨g1, g2, g3, g4, g5⟩ := go_K hf b6 b1 hp b0
  refine ⟨g22.trans (dk (by decide)), (g1 14 (by decide)).trans (dk (by decide)), fun g => (g5 g 0 (by decide)).trans (by rw [dk (by decide)]), (g1 2 (by decide)).trans (dk (by decide)), fun s hs => (g2 11 s (by decide) hs).trans (d2 11 s (by decide) hs), ?_⟩
  rw [g3, if_neg (by decide), d4]
theorem f_wake1 {C : gCT} (hI : gInv C) {r : Nat} (hr : r < gRc C) (h : ¬ C 11 r 4 = 1) : m_wake C (nI r) = (3, 0, C) := by
  have h24 := hI.1
  unfold m_wake
  dsimp only
  rw [ru_ok hI hr, if_pos rfl, nI_clamp (by omega), if_neg h]
theorem f_wake {C : gCT} {n r : Nat} {fd : Int32} (hn : n ≤ 700) (h : kJ n fd C) (hr : r < gRc C) (h1 : C 11 r 4 = 1) : ∃ (v : Int32) (D : gCT), m_wake C (nI r) = (0, v, D) ∧ kJ (n + 1) fd D ∧ kX C D ∧ D 2 = C 2 ∧ ((v = 0 ∧ D 11 r 4 = 0 ∧ D 7 r = C 7 r ∧ D 11 r 2 = C 11 r 2) ∨ v = 1) := by
  have hI := h.1
  have h24 := hI.1
  have e0 : m_wake C (nI r) = if (m_isOutdated C r).1 = 0 then (0, 0, cs C 11 r 4 0) else (0, 1, m_go (m_startOver C r) r) := by
    unfold m_wake
    dsimp only
    rw [ru_ok hI hr, if_pos rfl, nI_clamp (by omega), if_pos h1]
  rw [e0]
  by_cases c : (m_isOutdated C r).1 = 0
  · rw [if_pos c]
    obtain ⟨k1, k2⟩ := j_state hr (Or.inr h1) (Or.inl rfl) h
    exact ⟨0, _, rfl, k1, k2, cs_k _ _ _ _ (by decide), Or.inl ⟨rfl, cs_s _ _ _ _ _, by rw [cs_k _ _ _ _ (by decide)], cs_o _ _ _ _ (by decide)⟩⟩
  · rw [if_neg c]
    obtain ⟨-, hF, hQ, hU, hM, hD⟩ := h
    obtain ⟨⟨⟨f, v, k1, k2, k3, k4, k5⟩, ⟨p, p1, p2, p3⟩, k6, k7, k8⟩, -⟩ := hU r hr
    obtain ⟨⟨F, F1, F2, eF⟩, -⟩ := hF f k1
    obtain ⟨j1, -⟩ := k_start (fd := fd) hn hI hF hQ hr (fun s hs _ => hU s hs) k1 k2 (by omega) p1 p2 p3 k7 k8 (by rw [h1]; decide) hM hD
    obtain ⟨x1, x2, x3, x4, x5, -⟩ := x_start hI k1 k2 (by omega) p1 p2 p3 eF
    refine ⟨1, _, rfl, j1, ⟨x1, x2, x3, by unfold gRc; rw [x4]; exact Nat.le_refl _, fun s hs hs1 => ?_⟩, x4, Or.inr rfl⟩
    by_cases es : s = r
    · subst es; rw [h1] at hs1; exact absurd hs1 (by decide)
    · rw [x5 s es]
theorem hb_0 {C : gCT} (h : C 2 24 1 = nI 0) (x : Int32) (f : Nat) : (m_hasBegun C x f).1 = 0 := by
  unfold m_hasBegun m_hasBegun_L
  dsimp only
  rw [h, if_pos (show nI 0 ≤ 0 by decide)]
theorem f_begin {C : gCT} {n p f : Nat} {fd : Int32} (hn : n ≤ 700) (h : kJ n fd C) (hp : p < 16) (hf : f < 4) : (m_begin C (nI p) (nI f) = (3, 0, C) ∧ (gVn C f = 0 ∨ 0 < gRc C)) ∨ (1 ≤ gVn C f ∧ ∃ D : gCT, m_begin C (nI p) (nI f) = (0, nI (gRc C), D) ∧ kJ (n + 1) fd D ∧ kX C D ∧ gRc D = gRc C + 1 ∧ D 11 (gRc C) 2 = nI (gVn C f - 1) ∧ D 2 (gRc C) 1 = 0) := by
  have hI := h.1
  have hrc := hI.1
  have hvn := hI.vn hf
  have eC1 : C 2 24 1 = nI (gRc C) := (hI.cnt (Or.inr rfl)).1
  have e0 : m_begin C (nI p) (nI f) = if C 4 f 0 = 0 then (3, 0, C) else if (m_hasBegun C (nI p) f).1 = 0 then (if C 2 24 1 < 24 then (0, m_go (m_startOver (m_begun C (nI p) f) (gRc C)) (gRc C) 2 24 1 - 1, m_go (m_startOver (m_begun C (nI p) f) (gRc C)) (gRc C)) else (3, 0, C)) else (3, 0, C) := by
    unfold m_begin
    dsimp only
    rw [show m_isWithin (nI p) 0 15 = 1 from isW_lo (b := 15) (by omega) (by decide), if_neg one_ne, fm_ok C hf, if_pos rfl, nI_clamp (by omega)]
  rw [e0, hvn.2.1]
  by_cases cv : gVn C f = 0
  · rw [cv, if_pos (show nI 0 = 0 from rfl)]; exact Or.inl ⟨rfl, Or.inl rfl⟩
  rw [if_neg (nI_ne0 (by omega) (by omega))]
  by_cases cb : (m_hasBegun C (nI p) f).1 = 0
  rotate_left
  · rw [if_neg cb]
    refine Or.inl ⟨rfl, Or.inr ?_⟩
    refine Nat.pos_of_ne_zero (fun z => cb ?_)
    exact hb_0 (by rw [eC1, z]) _ _
  rw [if_pos cb, eC1]
  by_cases c24 : gRc C < 24
  rotate_left
  · rw [if_neg (fun q => c24 ((nat_lt rfl (show (24 : Int32) = nI 24 from rfl) (by omega) (by decide)).mp q))]
    exact Or.inl ⟨rfl, Or.inr (by omega)⟩
  rw [if_pos ((nat_lt rfl (show (24 : Int32) = nI 24 from rfl) (by omega) (by decide)).mpr c24)]
  obtain ⟨-, hF, hQ, hU, hM, hD⟩ := h
  have cI := m_begun_inv (nI p) (f := f) hI c24 hf
  have crc := m_begun_rc C (nI p) f c24
  have cvn := m_begun_vn C (nI p) f
  have ccn := m_begun_cnt C (nI p) f c24 (gRc C) (by omega)
  rw [if_pos rfl] at ccn
  have cnn : ∀ κ s, s ≠ gRc C → s ≠ 24 → m_begun C (nI p) f κ s = C κ s := fun κ s h1 h2 => m_begun_n C (nI p) f κ h1 h2
  have hkk : ∀ κ, κ ≠ 3 → κ ≠ 11 → κ ≠ 7 → κ ≠ 8 → κ ≠ 9 → κ ≠ 10 → κ ≠ 12 → κ ≠ 2 → m_begun C (nI p) f κ = C κ := fun κ h3 h11 h7 h8 h9 h10 h12 h2 => funext fun s => m_begun_k C (nI p) f s h3 h11 h7 h8 h9 h10 h12 h2
  have c11 : m_begun C (nI p) f 11 (gRc C) = fun j => if j = 0 then nI p else if j = 1 then nI p - nI p / 4 * 4 else if j = 6 then nI f else if j = 7 then nI (8 * f + gVn C f) else 0 := by
    rw [m_begun_new C (nI p) f c24 (κ := 11) (by decide)]
    unfold m_newRun
    rw [if_pos rfl]
    rfl
  have c2 : m_begun C (nI p) f 2 (gRc C) 1 = 0 := by
    rw [m_begun_new C (nI p) f c24 (κ := 2) (by decide)]
    unfold m_newRun
    rw [if_pos rfl]
    rfl
  have c241 : m_begun C (nI p) f 2 24 1 = nI (gRc C + 1) := (m_begun_24 C (nI p) f c24).1
  generalize m_begun C (nI p) f = D at *
  have k4 := hkk 4 (by decide) (by decide) (by decide) (by decide) (by decide) (by decide) (by decide) (by decide)
  have k14 := hkk 14 (by decide) (by decide) (by decide) (by decide) (by decide) (by decide) (by decide) (by decide)
  have k15 := hkk 15 (by decide) (by decide) (by decide) (by decide) (by decide) (by decide) (by decide) (by decide)
  have k16 := hkk 16 (by decide) (by decide) (by decide) (by decide) (by decide) (by decide) (by decide) (by decide)
  have k13 := hkk 13 (by decide) (by decide) (by decide) (by decide) (by decide) (by decide) (by decide) (by decide)
  obtain ⟨⟨F, F1, F2, eF⟩, -⟩ := hF f hf
  have h11_0 : D 11 (gRc C) 0 = nI p := by rw [c11]; rfl
  have h11_6 : D 11 (gRc C) 6 = nI f := by rw [c11]; rfl
  have h11_1 : D 11 (gRc C) 1 = nI (p % 4) := by rw [c11]; exact rem4 hp
  have h11_4 : D 11 (gRc C) 4 = 0 := by rw [c11]; rfl
  have h11_5 : D 11 (gRc C) 5 = 0 := by rw [c11]; rfl
  have hEn : ∀ s, s < gRc C → kE D s = kE C s := fun s hs => by unfold kE; rw [cnn 11 s (by omega) (by omega)]
  have hDD : kD D := by
    unfold kD at hD ⊢
    rw [hkk 6 (by decide) (by decide) (by decide) (by decide) (by decide) (by decide) (by decide) (by decide), hD, crc]
    show sm (kE C) (gRc C) = sm (kE D) (gRc C) + kE D (gRc C)
    have z : kE D (gRc C) = 0 := by unfold kE; rw [h11_4]; decide
    rw [z, Int32.add_zero]
    exact sm_cong (fun s hs => (hEn s hs).symm)
  obtain ⟨j1, -⟩ := k_start (fd := fd) (r := gRc C) (f := f) (p := p) hn cI (kF_same (fun g => by rw [k4]; exact ⟨rfl, rfl⟩) (hkk 5 (by decide) (by decide) (by decide) (by decide) (by decide) (by decide) (by decide) (by decide)) k14 k15 k16 hF) (kQ_same (hkk 17 (by decide) (by decide) (by decide) (by decide) (by decide) (by decide) (by decide) (by decide)) (hkk 18 (by decide) (by decide) (by decide) (by decide) (by decide) (by decide) (by decide) (by decide)) hQ) (by rw [crc]; omega) (fun s hs hsr => by
    rw [crc] at hs
    refine kU_gen hI (show s < gRc C by omega) (fun k => by rw [cvn]; exact Nat.le_refl _) ⟨cnn 11 s hsr (by omega), cnn 12 s hsr (by omega), by rw [cnn 2 s hsr (by omega)], fun j _ => by unfold cT; rw [k13], cnn 7 s hsr (by omega), cnn 8 s hsr (by omega), cnn 9 s hsr (by omega), cnn 10 s hsr (by omega)⟩ (fun k w _ _ => by rw [k15, k16, k14]; exact ⟨rfl, rfl, rfl⟩) (hU s (by omega))) hf h11_6 (by rw [cvn]; omega) hp h11_0 h11_1 (fun j hj => by rw [ccn] at hj; exact absurd hj (Nat.not_lt_zero _)) ⟨0, Nat.zero_le _, h11_5⟩ (by rw [h11_4]; decide) (kM_same (by rw [hkk 19 (by decide) (by decide) (by decide) (by decide) (by decide) (by decide) (by decide) (by decide)]) (fun g => by rw [k4]) (by rw [hkk 0 (by decide) (by decide) (by decide) (by decide) (by decide) (by decide) (by decide) (by decide)]) hM) hDD
  obtain ⟨x1, x2, x3, x4, x5, x6⟩ := x_start (p := p) cI hf h11_6 (by rw [cvn]; omega) hp h11_0 h11_1 (F := F) (by rw [k4]; exact eF)
  have xR : gRc (m_go (m_startOver D (gRc C)) (gRc C)) = gRc C + 1 := by
    have e : ∀ E : gCT, E 2 = D 2 → gRc E = gRc D := fun E h => by unfold gRc; rw [h]
    rw [e _ x4, crc]
  refine Or.inr ⟨by omega, _, ?_, j1, ⟨?_, ?_, ?_, ?_, fun s hs h1 => ?_⟩, ?_, ?_, ?_⟩
  · rw [x4, c241, show nI (gRc C + 1) - 1 = nI (gRc C) from nI_pred _]
  · exact x1.trans (hkk 22 (by decide) (by decide) (by decide) (by decide) (by decide) (by decide) (by decide) (by decide))
  · exact x2.trans k14
  · intro g; rw [x3, k4]
  · rw [xR]; omega
  · rw [x5 s (by omega), cnn 11 s (by omega) (by omega)]
  · exact xR
  · rw [x6, cvn]
  · rw [x4]; exact c2
theorem f_ans2 {C : gCT} (hI : gInv C) {r y : Nat} (hr : r < gRc C) (hy : 9 < y) (hy2 : y < 100) : m_answer C (nI r) (nI y) = (2, 0, C) := by
  unfold m_answer
  dsimp only
  rw [ru_ok hI hr, if_pos rfl, show m_isWithin (nI y) 0 9 = 0 from isW_hi (b := 9) hy (by omega), if_pos rfl]
theorem f_ans3 {C : gCT} (hI : gInv C) {r y : Nat} (hr : r < gRc C) (hy : y ≤ 9) (h : ¬ C 11 r 4 = 0) : m_answer C (nI r) (nI y) = (3, 0, C) := by
  have h24 := hI.1
  unfold m_answer
  dsimp only
  rw [ru_ok hI hr, if_pos rfl, show m_isWithin (nI y) 0 9 = 1 from isW_lo (b := 9) hy (by decide), if_neg one_ne, nI_clamp (by omega), if_neg h]
theorem f_answer {C : gCT} {n r y : Nat} {fd : Int32} (hn : n < 700) (h : kJ n fd C) (hr : r < gRc C) (hy : y ≤ 9) (h0 : C 11 r 4 = 0) : m_answer C (nI r) (nI y) = (3, 0, C) ∨ ∃ (q w : Nat) (D : gCT), m_answer C (nI r) (nI y) = (0, D 11 r 4, D) ∧ kJ (n + 2) fd D ∧ kX C D ∧ gRc D = gRc C ∧ D 2 r 1 = C 2 r 1 + 1 ∧ C 2 r 1 = nI (gCnt C r) ∧ gCnt C r ≤ 511 ∧ q < 16 ∧ C 7 r 5 = nI q ∧ w ≤ n ∧ cT D r (gCnt C r) = (nI q, nI w, nI y) := by
  have hJ := h
  obtain ⟨hI, hF, hQ, hU, hM, hD⟩ := h
  have h24 := hI.1
  have hcn := hI.cnt (Or.inl hr)
  obtain ⟨hR, hS, ⟨aIx, aKx, a9x⟩, F, F2, f3, fR⟩ := hU r hr
  have hR0 := hR
  obtain ⟨⟨f, v, k1, k2, k3, k4, k5⟩, ⟨p, p1, p2, p3⟩, k6, k7, d, d1, d2⟩ := hR0
  have h7 : C 7 r 4 = 0 := by
    rcases hS with ⟨-, q⟩ | ⟨q1, q2⟩
    · exact q
    · rw [← q1]; exact h0
  obtain ⟨q, hq, q5⟩ := aKx.2 h7
  have q5 : C 7 r 5 = nI q := q5
  obtain ⟨⟨c, c1, c2⟩, -⟩ := hQ q hq
  obtain ⟨b, b1, b2⟩ := hM.2.1 f k1
  have e0 : m_answer C (nI r) (nI y) = if C 2 r 1 < 512 then (if nI c ≤ nI b then (0, m_go (m_takeAnswer (m_pay2 (cs (m_keepAnswer C r (nI y)) 11 r 5 (m_keepAnswer C r (nI y) 11 r 5 + nI c)) r (nI c)) r (nI y)) r 11 r 4, m_go (m_takeAnswer (m_pay2 (cs (m_keepAnswer C r (nI y)) 11 r 5 (m_keepAnswer C r (nI y) 11 r 5 + nI c)) r (nI c)) r (nI y)) r) else (3, 0, C)) else (3, 0, C) := by
    unfold m_answer
    dsimp only
    rw [ru_ok hI hr, if_pos rfl, show m_isWithin (nI y) 0 9 = 1 from isW_lo (b := 9) hy (by decide), if_neg one_ne, nI_clamp (by omega), if_pos h0, q5, (m_at_nat (C 17 0) hq (by decide) 0).1, c2, k2, nI_clamp (by omega), b2]
  rw [e0]
  by_cases c5 : C 2 r 1 < 512
  rotate_left
  · rw [if_neg c5]; exact Or.inl rfl
  rw [if_pos c5]
  by_cases cb : nI c ≤ nI b
  rotate_left
  · rw [if_neg cb]; exact Or.inl rfl
  rw [if_pos cb]
  have hcb : c ≤ b := (nat_le rfl rfl (by omega) (by omega)).mp cb
  have h511 := an_cnt hI hr c5
  obtain ⟨w, w1, w2⟩ := k6 q hq
  right
  have eDD : m_takeAnswer (m_pay2 (cs (m_keepAnswer C r (nI y)) 11 r 5 (m_keepAnswer C r (nI y) 11 r 5 + nI c)) r (nI c)) r (nI y) = anD C r f p (nI y) (nI c) := an_at (nI y) (nI c) k1 k2 p1 p2
  rw [eDD]
  have dk := fun κ => @anD_k C r f p (nI y) (nI c) κ
  have e2 := anD_2 C r f p (nI y) (nI c)
  have e13 := anD_13 C r f p (nI y) (nI c)
  have e4 := anD_4 C r f p (nI y) (nI c)
  have e11 := anD_11 C r f p (nI y) (nI c)
  have e19 := anD_19 C r f p (nI y) (nI c)
  have dm := fun κ s => @anD_m C r f p (nI y) (nI c) κ s
  have dI := anD_inv (f := f) (p := p) hI hr h511 (nI y) (nI c)
  have dG : aGet (anD C r f p (nI y) (nI c)) r = a_put (a_st (aGet C r) 7) (nI y) := aGet_aPut _ _ _
  generalize anD C r f p (nI y) (nI c) = D at *
  have hrc : gRc D = gRc C := by unfold gRc; rw [e2, m_keepAnswer_2n _ _ _ (by omega)]
  have hvD : gVn D = gVn C := by funext k; unfold gVn; rw [e4, cs_rd, if_neg (by omega)]
  have hcnt : ∀ s, gCnt D s = if s = r then gCnt C r + 1 else gCnt C s := fun s => by
    have := m_keepAnswer_cnt C r (nI y) (by omega) s
    unfold gCnt at this ⊢
    rw [e2]; exact this
  have c2r : D 2 r 1 = nI (gCnt C r + 1) := by rw [e2]; exact (m_keepAnswer_2 C r (nI y)).1
  have cTn : ∀ s j, s < 24 → j < gCnt C s → (gCnt C s ≤ 512) → cT D s j = cT C s j := by
    intro s j hs hj hle
    unfold cT
    rw [e13, g2_n _ _ (show ¬ ((13 : Nat) = 13 ∧ 1024 * s + j = 1024 * r + gCnt C r) from fun z => by
      have := z.2
      by_cases e : s = r
      · subst e; omega
      · omega)]
  have cTr : cT D r (gCnt C r) = (nI q, C 12 r q, nI y) := by
    unfold cT
    rw [e13, g2_s]
    unfold m_ans
    rw [if_pos rfl, if_neg (by decide), if_pos rfl, if_neg (by decide), if_neg (by decide), q5, (m_at_nat (C 12 r) hq (by decide) 0).1]
  obtain ⟨v1, v2, v3, v4⟩ := an_env (C := C) (D := D) (r := r) (c := gCnt C r) (q := q) (v := nI y) hcn.1 (by omega) c2r (fun j hj => cTn r j (by omega) hj hcn.2.2.2.2.1) (by rw [dk 12 (by decide)]) cTr hq (by rw [e11, cs_o _ _ _ _ (by decide)]) (dk 15 (by decide)) (dk 16 (by decide)) (dk 14 (by decide))
  have hSC : ∀ k, k < 16 → sCt D r k = sCt C r k + (if k = q then 1 else 0) := by
    intro k hk
    unfold sCt
    rw [hcnt, if_pos rfl, v3, dk 12 (by decide), cntR_app]
    congr 1
    show (if nI q = nI k ∧ C 12 r q = C 12 r k then 1 else 0) + 0 = _
    by_cases e : k = q
    · subst e; rw [if_pos ⟨rfl, rfl⟩, if_pos rfl]
    · rw [if_neg (fun z => e ((nI_eq (by omega) (by omega)).mp z.1).symm), if_neg e]
  have hKD : aK (sCt D r) (aGet D r) := by
    rw [dG]
    exact aK_ans aKx h7 hq q5 hSC (nI y)
  have hRD : gReach (envC D r) (nI F) (aGet D r) := by
    rw [dG]
    refine reach_ans (k_fit hI hF hR) v1 v2 F2 fR h7 (nI_nm1 (by omega)) ?_
    have ex5 : (aGet C r).1 5 = nI q := q5
    obtain ⟨d, d1, d2', d3⟩ := aKx.1 q hq
    have hd : d = sCt C r q + 1 := d3.mpr ⟨h7, q5⟩
    rw [ex5, (m_at_nat (aGet C r).2.2.2 hq (by decide) 0).1, d1, hd]
    exact v4
  have aI7 : aI (a_st (aGet C r) 7) := aIx.reg (i := 4) 7 (by decide)
  have haI : aI (aGet D r) := by rw [dG]; exact aI7.put (nI y)
  have ha9 : a9 0 (aGet D r) := by
    rw [dG]
    exact a9.put (x := a_st (aGet C r) 7) (a9x.reg (i := 4) 7 (by decide) (by decide) (by decide)) (in9_nI (by omega))
  have hst4 : (aGet D r).1 4 = 7 ∨ (aGet D r).1 4 = 5 := by
    rw [dG]
    rcases a_put_st (a_st (aGet C r) 7) (nI y) with e | e
    · exact Or.inl (e.trans (sr_s (aGet C r) 4 7))
    · exact Or.inr e
  have hRR : kR (n + 1) D r := by
    refine ⟨⟨f, v, k1, by rw [e11, cs_o _ _ _ _ (by decide)]; exact k2, by rw [hvD]; exact k3, by rw [e11, cs_o _ _ _ _ (by decide)]; exact k4, by rw [e11, cs_o _ _ _ _ (by decide)]; exact k5⟩, ⟨p, p1, by rw [e11, cs_o _ _ _ _ (by decide)]; exact p2, by rw [e11, cs_o _ _ _ _ (by decide)]; exact p3⟩, fun i hi => ?_, fun j hj => ?_, d + c, by omega, by rw [e11, cs_s, d2, nI_add]⟩
    · obtain ⟨w', w1', w2'⟩ := k6 i hi
      rw [dk 12 (by decide)]; exact ⟨w', by omega, w2'⟩
    · rw [hcnt, if_pos rfl] at hj
      by_cases e : j = gCnt C r
      · rw [e, cTr, w2]; exact ⟨q, w, y, hq, by omega, by omega, rfl⟩
      · rw [cTn r j (by omega) (by omega) hcn.2.2.2.2.1]; exact (k7 j (by omega)).up (Nat.le_succ n)
  have hMM : kM (n + 1) fd D := by
    obtain ⟨m1, m2, m3⟩ := hM
    refine ⟨fun i hi => ?_, fun g hg => ?_, ?_⟩
    · obtain ⟨m, m4, m5⟩ := m1 i hi
      rw [e19]
      by_cases e : i = p
      · rw [e, upd_s, ← e, m5, nI_add]; exact ⟨m + c, by omega, rfl⟩
      · rw [upd_o _ _ e]; exact ⟨m, by omega, m5⟩
    · obtain ⟨m, m4, m5⟩ := m2 g hg
      rw [e4]
      by_cases e : g = f
      · rw [e, cs_s, b2, nat_sub rfl rfl hcb]; exact ⟨b - c, by omega, rfl⟩
      · rw [cs_n _ _ _ _ e]; exact ⟨m, by omega, m5⟩
    · have s1 : sm (D 19 0) 16 = sm (C 19 0) 16 + nI c := sm_one p1 (fun j _ hj => by rw [e19, upd_o _ _ hj]) (by rw [e19, upd_s])
      have s2 : sm (fun g => C 4 g 2) 4 = sm (fun g => D 4 g 2) 4 + nI c := sm_one (i := f) k1 (fun j _ hj => by
        show C 4 j 2 = D 4 j 2
        rw [e4, cs_n _ _ _ _ hj]) (by
        show C 4 f 2 = D 4 f 2 + nI c
        rw [e4, cs_s, Int32.sub_add_cancel])
      rw [s2] at m3
      rw [s1, dk 0 (by decide), ← m3, Int32.add_assoc, Int32.add_comm (nI c)]
  have hDD : kD D := kD_same (by rw [e2, m_keepAnswer_2n _ _ _ (by omega)]) (dk 6 (by decide)) (fun s _ => by rw [e11, cs_rd, if_neg (by omega)]) hD
  have h42 : ¬ D 11 r 4 = 2 := by rw [e11, cs_o _ _ _ _ (by decide), h0]; decide
  obtain ⟨j1, z, j2, -⟩ := k_core (n := n + 1) (F := F) (fd := fd) (by omega) dI (kF_same (fun g => by rw [e4, cs_rd, if_neg (by omega), cs_rd, if_neg (by omega)]; exact ⟨rfl, rfl⟩) (dk 5 (by decide)) (dk 14 (by decide)) (dk 15 (by decide)) (dk 16 (by decide)) hF) ((kQ_same (dk 17 (by decide)) (dk 18 (by decide)) hQ).up (Nat.le_succ n)) (by rw [hrc]; exact hr) (fun s hs hsr => by
    rw [hrc] at hs
    have hcs := hI.cnt (Or.inl hs)
    refine kU.up (n := n) ?_ (Nat.le_succ n)
    exact kU_gen hI hs (fun k => by rw [hvD]; exact Nat.le_refl _) ⟨by rw [e11, cs_n _ _ _ _ hsr], by rw [dk 12 (by decide)], by rw [e2, m_keepAnswer_2n _ _ _ hsr], fun j hj => cTn s j (by omega) hj hcs.2.2.2.2.1, dm 7 s hsr (by decide), dm 8 s hsr (by decide), dm 9 s hsr (by decide), dm 10 s hsr (by decide)⟩ (fun k w _ _ => by rw [dk 15 (by decide), dk 16 (by decide), dk 14 (by decide)]; exact ⟨rfl, rfl, rfl⟩) (hU s hs)) hRR h42 hst4 haI hKD ha9 F2 (by rw [e11, cs_o _ _ _ _ (by decide)]; exact f3) hRD hMM hDD
  have x22 : m_go D r 22 = D 22 := go_22 (f := f) (p := p) k1 (by rw [e11, cs_o _ _ _ _ (by decide)]; exact k2) (by rw [e11, cs_o _ _ _ _ (by decide)]; exact p3) p1 (by rw [e11, cs_o _ _ _ _ (by decide)]; exact p2)
  obtain ⟨g1, g2, g3, g4, g5⟩ := j2
  refine ⟨q, w, m_go D r, rfl, j1, ⟨x22.trans (dk 22 (by decide)), (g1 14 (by decide)).trans (dk 14 (by decide)), fun g => ?_, ?_, fun s hs hs1 => ?_⟩, ?_, ?_, hcn.1, h511, hq, q5, w1, ?_⟩
  · rw [g5 g 0 (by decide), e4, cs_rd, if_neg (by omega)]
  · unfold gRc; rw [g1 2 (by decide)]; show gRc C ≤ gRc D; rw [hrc]; exact Nat.le_refl _
  · by_cases es : s = r
    · subst es; rw [h0] at hs1; exact absurd hs1 (by decide)
    · rw [g2 11 s (by decide) es, e11, cs_n _ _ _ _ es]
  · unfold gRc; rw [g1 2 (by decide)]; exact hrc
  · rw [g1 2 (by decide), c2r, hcn.1, nI_1]
  · have e : cT (m_go D r) r (gCnt C r) = cT D r (gCnt C r) := by unfold cT; rw [g1 13 (by decide)]
    rw [e, cTr, w2]

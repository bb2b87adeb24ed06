/-! ===== a run goes on: the relation after it ===== -/
theorem aS.op {M : gCT} {r : Nat} {x : aM} {N : gCT} (h : aS M r x N) (g : Int32) : aS M r (a_open x g) N := by
  unfold aS aR at h ⊢
  rw [O_r x g (i := 0) (by decide), O_r x g (i := 1) (by decide), O_r x g (i := 2) (by decide), O_r x g (i := 3) (by decide), O_r x g (i := 4) (by decide), O_r x g (i := 5) (by decide)]
  exact h
theorem aK.op {cnt : Nat → Nat} {x : aM} (h : aK cnt x) (g : Int32) : aK cnt (a_open x g) := by
  unfold aK at h ⊢
  rw [O_r x g (i := 4) (by decide), O_r x g (i := 5) (by decide)]
  exact h
theorem reach.op {E : aE} {F : Int32} {x : aM} (h : gReach E F x) (g : Int32) : gReach E F (a_open x g) := by
  obtain ⟨n, f, p, h1, h2, h3, h4, h5, h6⟩ := h
  have e : ∀ e : Int32, a_open (a_open x g) e = a_open x e := fun e => Prod.ext (upd_upd _ _ _ _) rfl
  refine ⟨n, f, p, (O_r x g (i := 2) (by decide)).trans h1, (O_r x g (i := 6) (by decide)).trans h2, h3, h4, ?_, fun y0 e0 he hz => ?_⟩
  · rw [O_r x g (i := 4) (by decide)]; exact h5
  · rw [e]
    rw [O_r x g (i := 4) (by decide)] at hz
    exact h6 y0 e0 he hz
theorem s_core {C M M1 : gCT} {a n r f v p F : Nat} (hI : gInv C) (hB : MBI M) (hr : r < gRc C) (ha : a ≤ 512) (han : a ≤ n) (hO : sOth a r C M) (hS : sSt a r f v p F C M) (h4 : (aGet C r).1 4 = 7 ∨ (aGet C r).1 4 = 5) (hA : aS M r (aGet C r) M1) (hAI : aI (aGet C r)) (hK : aK (sCt C r) (aGet C r)) (hR : gReach (envC C r) (nI F) (aGet C r)) :
    sRel n (m_go C r) (q_goesOn_L 203 M1 r (6 * f + v)) ∧ m_go C r 11 r 4 = q_goesOn_L 203 M1 r (6 * f + v) 21 24 r ∧ q_goesOn_L 203 M1 r (6 * f + v) 20 0 1 = M 20 0 1 ∧ q_goesOn_L 203 M1 r (6 * f + v) 20 0 3 = M 20 0 3 := by
  obtain ⟨o1, o2, o3, o4, o5, o6, o7, o8⟩ := hO
  have hf := hS.1.1
  have hp := hS.2.1.1
  have hF := o4 f hf
  have h24 := hI.1
  have hE := e_fit hI hB hF hS
  have hQ := e_q hI hB hr ha ⟨o1, fun k hk => (o2 k hk).1⟩ hF hS
  have hC := e_c hI hr ha (fun k hk => (o2 k hk).1) hS
  have hpn : (q_panelOf M r).1.toNatClampNeg = 4 * f + p % 4 := by
    rw [(q_panelOf_nat hB (show r < 24 by omega)).1, hS.1.2.2.1, hS.2.1.2.2.1, nI_clamp (n := f) (by omega), nI_clamp (n := p) (by omega), nI_clamp (by omega)]
  have hg1000 : goG C f p ≤ 1000 := by unfold goG; split <;> omega
  have hyI : aI (a_open (aGet C r) (nI (goG C f p))) := hAI.reg (i := 7) _ (by decide)
  have hyA := hA.op (nI (goG C f p))
  have hyK := hK.op (nI (goG C f p))
  have hyR := reach.op hR (nI (goG C f p))
  have hy7 : (a_open (aGet C r) (nI (goG C f p))).1 7 = nI (goG C f p) := upd_s (aGet C r).1 7 (nI (goG C f p))
  obtain ⟨fu, hfu, efu⟩ := hyI.2.2
  have hyG : gGt M r (a_open (aGet C r) (nI (goG C f p))) := by
    refine ⟨goG C f p, fu, hy7, hg1000, ⟨efu, hfu⟩, fun c => ?_, fun c => ?_⟩
    · rw [hpn, ← (hF.2.1 (p % 4) (by omega)).2, ← (hF.2.1 (p % 4) (by omega)).1] at c
      unfold goG
      rw [if_pos c]
      omega
    · rw [hpn, ← (hF.2.1 (p % 4) (by omega)).2, ← (hF.2.1 (p % 4) (by omega)).1] at c
      unfold goG
      rw [if_neg c]
  have hV0 : aV ((a_open (aGet C r) (nI (goG C f p))).1 4) := by
    rw [O_r _ _ (i := 4) (by decide)]
    unfold aV
    rcases h4 with h4 | h4 <;> rw [h4] <;> decide
  have hN := S_loop hQ hE hC 203 201 hyA hyI hyK (fun _ => hyG) efu hfu (by omega) (by omega)
  have hz1 := reach_L hE 201 hyR hyI hg1000 hy7
  have hz2 := aK.loop hE hC 201 hyK hyI
  have hz3 := a_L_ends hE 201 hyI efu hfu (by omega)
  have hz4 := aV.loop hE 201 hyI hV0
  generalize q_goesOn_L 203 M1 r (6 * f + v) = N at hN ⊢
  have eZ : a_L (envC C r) 201 (a_open (aGet C r) (nI (goG C f p))) = goZ C r f p := rfl
  rw [eZ] at hN hz1 hz2 hz3 hz4
  obtain ⟨⟨g1, g2, g3, g4, g5⟩, m1, m2, m3, m4⟩ := go_money (N := N) o4 (fun q hq => (o5 q hq).2.2) o6 hS hpn hN.2
  generalize m_go C r = D at g1 g2 g3 g4 g5 m1 m2 m3 m4 ⊢
  generalize goZ C r f p = z at hN hz1 hz2 hz3 hz4 g3 g4
  have hx : aR M r z N := hN.1
  obtain ⟨⟨x20, x18, x23, x22, x24⟩, x25, xsl, xas, xst, xfr⟩ := hN.1
  have hrc : gRc D = gRc C := by unfold gRc; rw [g1 2 (by decide)]
  have hvn : gVn D = gVn C := by funext k; unfold gVn; rw [g5 k 0 (by decide)]
  have hcnt : gCnt D = gCnt C := by funext k; unfold gCnt; rw [g1 2 (by decide)]
  have w2 : N 20 0 2 = M 20 0 2 := xfr 20 0 2 (by unfold mach; omega) (by unfold mony; omega)
  have w1 : N 20 0 1 = M 20 0 1 := xfr 20 0 1 (by unfold mach; omega) (by unfold mony; omega)
  have w3 : N 20 0 3 = M 20 0 3 := xfr 20 0 3 (by unfold mach; omega) (by unfold mony; omega)
  have hrl : ∀ s, rLf N s 0 a = rLf M s 0 a := fun s => rLf_cong a 0 (fun j _ => by
    unfold rT
    rw [hx.fr21 (n := 30) (by decide), hx.fr21 (n := 31) (by decide), hx.fr21 (n := 32) (by decide), hx.fr21 (n := 33) (by decide)]
    exact ⟨rfl, rfl⟩)
  refine ⟨⟨⟨a, han, w2.trans o1, ?_, fun s hs => ?_⟩, fun g hg => ?_, fun q hq => ?_, m1, ?_, ?_⟩, by rw [g3, if_pos rfl, x24], w1, w3⟩
  · rw [hrc, hx.fr21 (n := 33) (by decide), hx.fr21 (n := 30) (by decide)]; exact o2
  · rw [hrc] at hs
    by_cases e : s = r
    · subst e
      obtain ⟨⟨-, t2, t3, t4, t5, t6, t7⟩, ⟨-, p2, p3, p4⟩, s5, s12, sL, sF200, s3⟩ := hS
      have eE : envC D s = envC C s := envC_cong (by rw [g1 12 (by decide)]) (by rw [g1 2 (by decide)]) (g1 13 (by decide)) (by rw [g3, if_neg (by decide)]) (g1 15 (by decide)) (g1 16 (by decide)) (g1 14 (by decide))
      have eL : cLf D s 0 (gCnt C s) = cLf C s 0 (gCnt C s) := cLf_cong _ _ (fun j _ => by unfold cT; rw [g1 13 (by decide)])
      have eS : sCt D s = sCt C s := by unfold sCt; rw [hcnt, eL, g1 12 (by decide)]
      have eG : aGet D s = z := by unfold aGet; rw [g4.1, g4.2.1, g4.2.2.1, g4.2.2.2]
      refine ⟨⟨f, v, hf, ?_, ?_, ?_, ?_, ?_, ?_⟩, ⟨p, hp, ?_, ?_, ?_⟩, ⟨?_, ?_, ?_⟩, ⟨⟨?_, ?_, ?_, ?_⟩, fun hz => ?_, fun j hj => ?_, fun q hq => ?_, fun j hj hjh => ?_⟩, fun q hq => ?_, ?_, ⟨?_, ?_⟩, F, sF200, ?_, ?_⟩
      · rw [g3, if_neg (by decide)]; exact t2
      · rw [hx.fr21 (n := 16) (by decide)]; exact t3
      · rw [hvn]; exact t4
      · rw [g3, if_neg (by decide)]; exact t5
      · rw [hx.fr21 (n := 17) (by decide)]; exact t6
      · rw [g3, if_neg (by decide)]; exact t7
      · rw [g3, if_neg (by decide)]; exact p2
      · rw [hx.fr21 (n := 15) (by decide)]; exact p3
      · rw [g3, if_neg (by decide)]; exact p4
      · rw [g3, if_neg (by decide), hx.fr21 (n := 26) (by decide)]; exact s5
      · rw [g3, if_pos rfl]; exact x24.symm
      · rw [g3, if_pos rfl, g4.1]
        unfold aV at hz4
        rcases hz4 with q | q | q | q | q | q
        · exact Or.inl ⟨Or.inl q, q⟩
        · exact Or.inr ⟨rfl, Or.inl q⟩
        · exact Or.inr ⟨rfl, Or.inr (Or.inl q)⟩
        · exact Or.inr ⟨rfl, Or.inr (Or.inr (Or.inl q))⟩
        · exact Or.inr ⟨rfl, Or.inr (Or.inr (Or.inr q))⟩
        · exact absurd q hz3
      · rw [g4.1]; exact x20
      · rw [g4.1]; exact x18
      · rw [g4.1]; exact x23
      · rw [g4.1]; exact x22
      · rw [g4.1] at hz ⊢; exact x25 hz
      · rw [g4.2.2.1]; exact xsl j hj
      · rw [g4.2.2.2]; exact xas q hq
      · rw [g4.1] at hjh; rw [g4.2.1]; exact xst j hj hjh
      · rw [g1 12 (by decide), hx.fr21 (n := 27) (by decide)]; exact s12 q hq
      · rw [hcnt, eL, hrl]; exact sL
      · rw [eG]; exact hz1.2
      · rw [eG, eS]; exact hz2
      · rw [g3, if_neg (by decide)]; exact s3
      · rw [eE, eG]; exact hz1.1
    · refine sU_gen hI hs (fun k => by rw [hvn]; exact Nat.le_refl _) ?_ (fun k w _ _ => by rw [g1 15 (by decide), g1 16 (by decide), g1 14 (by decide)]; exact ⟨rfl, rfl, rfl⟩) ?_ (hrl s) (o3 s hs e)
      · unfold cSm cT
        rw [g2 11 s (by decide) e, g1 12 (by decide), g1 2 (by decide), g1 13 (by decide), g2 7 s (by decide) e, g2 8 s (by decide) e, g2 9 s (by decide) e, g2 10 s (by decide) e]
        exact ⟨rfl, rfl, rfl, fun _ _ => rfl, rfl, rfl, rfl, rfl⟩
      · refine ⟨fun k hk => xfr 21 k s (by unfold mach; omega) (by unfold mony; omega), fun j hj => ⟨xfr 21 19 _ (by unfold mach; omega) (by unfold mony; omega), xfr 21 21 _ (by unfold mach; omega) (by unfold mony; omega)⟩, fun q hq => ⟨xfr 21 27 _ (by unfold mach; omega) (by unfold mony; omega), xfr 21 28 _ (by unfold mach; omega) (by unfold mony; omega)⟩⟩
  · obtain ⟨⟨f1, f2, -⟩, f3, f4, f5⟩ := o4 g hg
    unfold sF sCd at *
    rw [hvn, g1 14 (by decide), g1 15 (by decide), g1 16 (by decide), g1 5 (by decide), hx.fr21 (n := 2) (by decide), hx.fr21 (n := 0) (by decide), hx.fr21 (n := 0 + 1) (by decide), hx.fr21 (n := 5) (by decide), hx.fr21 (n := 3) (by decide), hx.fr21 (n := 3 + 1) (by decide), hx.fr21 (n := 6) (by decide), hx.fr21 (n := 7) (by decide), hx.fr21 (n := 9) (by decide), g5 g 0 (by decide), g5 g 1 (by decide)]
    exact ⟨⟨f1, f2, m2 g hg⟩, fun i hi => ⟨(f3 i hi).1, m3 g i hg hi⟩, f4, f5⟩
  · rw [g1 17 (by decide), g1 18 (by decide), hx.fr21 (n := 11) (by decide), hx.fr21 (n := 12) (by decide)]
    exact ⟨(o5 q hq).1, (o5 q hq).2.1, m4 q hq⟩
  · rw [g1 2 (by decide), w1]; exact o7
  · rw [hrc, hx.fr21 (n := 26) (by decide)]; exact o8

/-! ===== answer, on both sides: the relation ===== -/
theorem s_answer {n : Nat} (hn : n < 512) {C M : gCT} (hI : gInv C) (hB : MBI M) (h : sRel n C M) (x y : Int32) : sOk n C (m_answer C x y).1 (w_out C (m_answer C x y)) (q_answer M x y) := by
  unfold m_answer q_answer
  dsimp only
  rw [isW_eq]
  by_cases c : (q_isRun M x).1 = 0
  · rw [runNo hI h c, if_neg n1_ne, thr1 _ _ c, goes_no one_ne]
    exact sOk_no 1 (by decide) h
  obtain ⟨hr, hx, a, han, ha, hU⟩ := runAt hI hB h c
  rw [runYes hI h c, if_pos rfl]
  by_cases cy : m_isWithin y 0 9 = 0
  · rw [if_pos cy, thr2 _ c cy, goes_no (by decide)]
    exact sOk_no 2 (by decide) h
  have hyv : ∃ v : Nat, v < 10 ∧ y = nI v := by
    obtain ⟨z1, z2⟩ := q_isWithin_of (x := y) (n := 9) (N := 9) rfl (by decide) cy
    exact ⟨y.toNatClampNeg, by omega, z1⟩
  rw [if_neg cy, if_neg c]
  generalize hxr : x.toNatClampNeg = r at *
  obtain ⟨e5, e4, hs⟩ := hU.2.2.1
  rw [← e4]
  by_cases c4 : C 11 r 4 = 0
  rotate_left
  · rw [if_neg c4, if_neg c4, thr3 c cy rfl, goes_no (by decide)]
    exact sOk_no 3 (by decide) h
  rw [if_pos c4, if_pos c4]
  have h7 : C 7 r 4 = 0 := by
    rcases hs with ⟨-, h7⟩ | ⟨h4, h7⟩
    · exact h7
    · rw [← h4]; exact c4
  have h24 := hI.1
  obtain ⟨f, vv, k1, k2, k3, k4, k5, k6, k7⟩ := hU.1
  obtain ⟨p, p1, p2, p3, p4⟩ := hU.2.1
  obtain ⟨s20, s18, s23, s22⟩ := hU.2.2.2.1.1
  obtain ⟨s25, s21, s28, s19⟩ := hU.2.2.2.1.2
  obtain ⟨w27, wL, ⟨aIx, aKx⟩, F, hF200, f3, fR⟩ := hU.2.2.2.2
  obtain ⟨q, hq, q5⟩ := aKx.2 h7
  have q5 : C 7 r 5 = nI q := q5
  have q25 : M 21 25 r = nI q := (s25 h7).trans q5
  have hvn := hI.vn k1
  have hcn := hI.cnt (Or.inl hr)
  have hF := h.2.1 f k1
  have hlen : gCnt C r ≤ a := by
    have e1 := cLf_len C r (gCnt C r) 0
    rw [wL] at e1
    have e2 := rLf_len M r a 0
    omega
  rw [hcn.1, if_pos ((nat_lt rfl (show (512 : Int32) = nI 512 from rfl) (by omega) (by decide)).mpr (by omega)), q5, (m_at_nat (C 17 0) hq (by decide) 0).1, k2, k3, q25, p3]
  rw [nI_clamp (n := f) (by omega), nI_clamp (n := q) (by omega), nI_clamp (n := p) (by omega)]
  have e17 : C 17 0 q = M 21 11 q := (h.2.2.1 q hq).1
  rw [hF.1.2.2, ← e17]
  by_cases cb : C 17 0 q ≤ M 21 8 f
  rotate_left
  · have cb' : M 21 8 f < C 17 0 q := by
      refine Int32.lt_iff_toInt_lt.mpr ?_
      have : ¬ (C 17 0 q).toInt ≤ (M 21 8 f).toInt := fun z => cb (Int32.le_iff_toInt_le.mpr z)
      omega
    rw [if_neg cb, if_pos cb', thr3 c cy rfl, goes_no (by decide)]
    exact sOk_no 3 (by decide) h
  have cb' : ¬ M 21 8 f < C 17 0 q := fun z => by
    have z1 := Int32.lt_iff_toInt_lt.mp z
    have z2 := Int32.le_iff_toInt_le.mp cb
    omega
  rw [if_pos cb, if_neg cb', thr0 c cy one_ne, goes_yes]
  -- the states after the answer is kept
  have eDD : m_takeAnswer (m_pay2 (cs (m_keepAnswer C r y) 11 r 5 (m_keepAnswer C r y 11 r 5 + C 17 0 q)) r (C 17 0 q)) r y = anD C r f p y (C 17 0 q) := an_at y (C 17 0 q) k1 k2 p1 p2
  rw [eDD]
  have eNN : cs (cs (cs (cs (cs (cs (cs (cs (cs M 20 0 3 0) 21 30 (M 20 0 2).toNatClampNeg x) 21 31 (M 20 0 2).toNatClampNeg (nI q)) 21 32 (M 20 0 2).toNatClampNeg (M 21 27 (16 * r + q))) 21 33 (M 20 0 2).toNatClampNeg y) 20 0 2 (M 20 0 2 + 1)) 21 8 f (M 21 8 f - C 17 0 q)) 21 13 p (M 21 13 p + C 17 0 q)) 21 26 r (M 21 26 r + C 17 0 q) = anM M r f p q a (M 21 27 (16 * r + q)) y (C 17 0 q) := by
    rw [ha, nI_clamp (by omega), nI_1, hx]
    rfl
  rw [eNN]
  have mfr := fun κ n j => @anM_fr M r f p q a (M 21 27 (16 * r + q)) y (C 17 0 q) κ n j
  obtain ⟨m2, m3, m30, m31, m32, m33, m8, m13, m26⟩ := anM_at M r f p q a (M 21 27 (16 * r + q)) y (C 17 0 q)
  have bX : MBI (anM M r f p q a (M 21 27 (16 * r + q)) y (C 17 0 q)) := by
    unfold anM
    exact (((((((((hB.set0 (j := 3) (by decide)).set (k := 30) rfl (fun z => absurd rfl z)).set (k := 31) rfl (fun _ => ⟨q, hq, rfl⟩)).set (k := 32) rfl (fun z => absurd rfl z)).set (k := 33) rfl (fun z => absurd rfl z)).setA ⟨a + 1, by omega, rfl⟩).set (k := 8) rfl (fun z => absurd rfl z)).set (k := 13) rfl (fun z => absurd rfl z)).set (k := 26) rfl (fun z => absurd rfl z))
  generalize anM M r f p q a (M 21 27 (16 * r + q)) y (C 17 0 q) = X at *
  have dk := fun κ => @anD_k C r f p y (C 17 0 q) κ
  have d2 := anD_2 C r f p y (C 17 0 q)
  have d13 := anD_13 C r f p y (C 17 0 q)
  have d4 := anD_4 C r f p y (C 17 0 q)
  have d11 := anD_11 C r f p y (C 17 0 q)
  have d19 := anD_19 C r f p y (C 17 0 q)
  have dm := fun κ s => @anD_m C r f p y (C 17 0 q) κ s
  have dI := anD_inv (f := f) (p := p) hI hr (show gCnt C r ≤ 511 by omega) y (C 17 0 q)
  have dG : aGet (anD C r f p y (C 17 0 q)) r = a_put (a_st (aGet C r) 7) y := aGet_aPut _ _ _
  generalize anD C r f p y (C 17 0 q) = D at *
  have hrc : gRc D = gRc C := by unfold gRc; rw [d2, m_keepAnswer_2n _ _ _ (by omega)]
  have hvD : gVn D = gVn C := by funext k; unfold gVn; rw [d4, cs_rd, if_neg (by omega)]
  have hcnt : ∀ s, gCnt D s = if s = r then gCnt C r + 1 else gCnt C s := fun s => by
    have := m_keepAnswer_cnt C r y (by omega) s
    unfold gCnt at this ⊢
    rw [d2]; exact this
  have c2r : D 2 r 1 = nI (gCnt C r + 1) := by rw [d2]; exact (m_keepAnswer_2 C r y).1
  have cTn : ∀ s j, s < 24 → j < gCnt C s → (gCnt C s ≤ 512) → cT D s j = cT C s j := by
    intro s j hs hj hle
    unfold cT
    rw [d13, g2_n _ _ (show ¬ ((13 : Nat) = 13 ∧ 1024 * s + j = 1024 * r + gCnt C r) from fun z => by
      have := z.2
      by_cases e : s = r
      · subst e; omega
      · omega)]
  have cTr : cT D r (gCnt C r) = (nI q, C 12 r q, y) := by
    unfold cT
    rw [d13, g2_s]
    unfold m_ans
    rw [if_pos rfl, if_neg (by decide), if_pos rfl, if_neg (by decide), if_neg (by decide), q5, (m_at_nat (C 12 r) hq (by decide) 0).1]
  obtain ⟨v1, v2, v3, v4⟩ := an_env (C := C) (D := D) (r := r) (c := gCnt C r) (q := q) (v := y) hcn.1 (by omega) c2r (fun j hj => cTn r j (by omega) hj hcn.2.2.2.2.1) (by rw [dk 12 (by decide)]) cTr hq (by rw [d11, cs_o _ _ _ _ (by decide)]) (dk 15 (by decide)) (dk 16 (by decide)) (dk 14 (by decide))
  have y1 : ¬ y = -1 := by
    obtain ⟨v, z1, z2⟩ := hyv
    rw [z2]
    intro z
    have := congrArg Int32.toInt z
    rw [nI_toInt (by omega)] at this
    exact absurd this (by simp)
  -- the base of the run's steps
  have g7 : ∀ κ n j, ¬ (κ = 21 ∧ n = 24 ∧ j = r) → cs X 21 24 r 7 κ n j = X κ n j := fun κ n j hh => by rw [cs_rd, if_neg hh]
  have rl : ∀ s, s < 24 → rLf (cs X 21 24 r 7) s 0 (a + 1) = rLf M s 0 a ++ (if s = r then [(nI q, M 21 27 (16 * r + q), y)] else []) := by
    intro s hs
    rw [rLf_24 _ (by decide), rLf_snoc, Nat.zero_add, m30]
    have e1 : rLf X s 0 a = rLf M s 0 a := rLf_cong a 0 (fun j hj => by
      unfold rT
      rw [mfr 21 30 j (by omega) (by omega), mfr 21 31 j (by omega) (by omega), mfr 21 32 j (by omega) (by omega), mfr 21 33 j (by omega) (by omega)]
      exact ⟨rfl, rfl⟩)
    rw [e1]
    by_cases e : s = r
    · subst e
      rw [if_pos rfl, if_pos rfl]
      unfold rT
      rw [m31, m32, m33]
    · rw [if_neg e, if_neg (fun z => e ((nI_eq (by omega) (by omega)).mp z).symm)]
  obtain ⟨⟨a', z1, z2, z3, z4⟩, z5, z6, z0, z7, z9⟩ := h
  have eaa : a' = a := (nI_eq (by omega) (by omega)).mp (z2.symm.trans ha)
  subst eaa
  have hOD : sOth (a' + 1) r D (cs X 21 24 r 7) := by
    refine ⟨(g7 20 0 2 (by omega)).trans m2, fun k hk => ?_, fun s hs hsr => ?_, fun g hg => ?_, fun i hi => ?_, ?_, ?_, fun s hs1 hs2 => ?_⟩
    · rw [g7 21 33 k (by omega), g7 21 30 k (by omega), hrc]
      by_cases e : k = a'
      · subst e
        rw [m33, m30]
        exact ⟨hyv, r, hr, rfl⟩
      · rw [mfr 21 33 k (by omega) (by omega), mfr 21 30 k (by omega) (by omega)]
        exact z3 k (by omega)
    · rw [hrc] at hs
      have hcs := hI.cnt (Or.inl hs)
      refine sU_gen hI hs (fun k => by rw [hvD]; exact Nat.le_refl _) ⟨by rw [d11, cs_n _ _ _ _ hsr], by rw [dk 12 (by decide)], by rw [d2, m_keepAnswer_2n _ _ _ hsr], fun j hj => cTn s j (by omega) hj hcs.2.2.2.2.1, dm 7 s hsr (by decide), dm 8 s hsr (by decide), dm 9 s hsr (by decide), dm 10 s hsr (by decide)⟩ (fun k w _ _ => by rw [dk 15 (by decide), dk 16 (by decide), dk 14 (by decide)]; exact ⟨rfl, rfl, rfl⟩) ⟨fun k hk => by rw [g7 21 k s (by omega), mfr 21 k s (by omega) (by omega)], fun j hj => ⟨by rw [g7 21 19 _ (by omega), mfr 21 19 _ (by omega) (by omega)], by rw [g7 21 21 _ (by omega), mfr 21 21 _ (by omega) (by omega)]⟩, fun i hi => ⟨by rw [g7 21 27 _ (by omega), mfr 21 27 _ (by omega) (by omega)], by rw [g7 21 28 _ (by omega), mfr 21 28 _ (by omega) (by omega)]⟩⟩ ?_ (z4 s hs)
      rw [rl s (by omega), if_neg hsr, List.append_nil]
    · have hg5 := z5 g hg
      have x21 : ∀ n, n ≠ 30 → n ≠ 31 → n ≠ 32 → n ≠ 33 → n ≠ 8 → n ≠ 13 → n ≠ 26 → n ≠ 24 → cs X 21 24 r 7 21 n = M 21 n := fun n h1 h2 h3 h4 h5 h6 h8 h9 => funext fun j => by
        rw [g7 21 n j (by omega), mfr 21 n j (by omega) (by omega)]
      obtain ⟨⟨f1, f2, fb⟩, f4, f5, f6⟩ := hg5
      unfold sCd at f5 f6
      unfold sF sCd
      rw [hvD, dk 5 (by decide), dk 6 (by decide), dk 14 (by decide), dk 15 (by decide), dk 16 (by decide)]
      rw [x21 6 (by decide) (by decide) (by decide) (by decide) (by decide) (by decide) (by decide) (by decide), x21 7 (by decide) (by decide) (by decide) (by decide) (by decide) (by decide) (by decide) (by decide), x21 9 (by decide) (by decide) (by decide) (by decide) (by decide) (by decide) (by decide) (by decide), x21 10 (by decide) (by decide) (by decide) (by decide) (by decide) (by decide) (by decide) (by decide), x21 2 (by decide) (by decide) (by decide) (by decide) (by decide) (by decide) (by decide) (by decide), x21 0 (by decide) (by decide) (by decide) (by decide) (by decide) (by decide) (by decide) (by decide), x21 (0 + 1) (by decide) (by decide) (by decide) (by decide) (by decide) (by decide) (by decide) (by decide), x21 5 (by decide) (by decide) (by decide) (by decide) (by decide) (by decide) (by decide) (by decide), x21 3 (by decide) (by decide) (by decide) (by decide) (by decide) (by decide) (by decide) (by decide), x21 (3 + 1) (by decide) (by decide) (by decide) (by decide) (by decide) (by decide) (by decide) (by decide)]
      refine ⟨⟨?_, ?_, ?_⟩, f4, f5, f6⟩
      · rw [d4, cs_rd, if_neg (by omega)]; exact f1
      · rw [d4, cs_rd, if_neg (by omega)]; exact f2
      · rw [d4, g7 21 8 g (by omega)]
        by_cases e : g = f
        · subst e; rw [cs_s, m8, fb]
        · rw [cs_n _ _ _ _ e, mfr 21 8 g (by omega) (by omega)]; exact fb
    · rw [dk 17 (by decide), dk 18 (by decide), d19, g7 21 11 i (by omega), g7 21 12 i (by omega), g7 21 13 i (by omega), mfr 21 11 i (by omega) (by omega), mfr 21 12 i (by omega) (by omega)]
      refine ⟨(z6 i hi).1, (z6 i hi).2.1, ?_⟩
      by_cases e : i = p
      · subst e; rw [upd_s, m13, (z6 i hi).2.2]
      · rw [upd_o _ _ e, mfr 21 13 i (by omega) (by omega)]; exact (z6 i hi).2.2
    · rw [dk 0 (by decide), g7 20 0 0 (by omega), mfr 20 0 0 (by omega) (by omega)]; exact z0
    · rw [d2, m_keepAnswer_2n _ _ _ (by omega), g7 20 0 1 (by omega), mfr 20 0 1 (by omega) (by omega)]; exact z7
    · rw [hrc] at hs1
      rw [g7 21 26 s (by omega), mfr 21 26 s (by omega) (by omega)]; exact z9 s hs1 hs2
  have hSt : sSt (a' + 1) r f vv p F D (cs X 21 24 r 7) := by
    refine ⟨⟨k1, ?_, ?_, by rw [hvD]; exact k4, ?_, ?_, ?_⟩, ⟨p1, ?_, ?_, ?_⟩, ?_, fun i hi => ?_, ?_, hF200, ?_⟩
    · rw [d11, cs_o _ _ _ _ (by decide)]; exact k2
    · rw [g7 21 16 r (by omega), mfr 21 16 r (by omega) (by omega)]; exact k3
    · rw [d11, cs_o _ _ _ _ (by decide)]; exact k5
    · rw [g7 21 17 r (by omega), mfr 21 17 r (by omega) (by omega)]; exact k6
    · rw [d11, cs_o _ _ _ _ (by decide)]; exact k7
    · rw [d11, cs_o _ _ _ _ (by decide)]; exact p2
    · rw [g7 21 15 r (by omega), mfr 21 15 r (by omega) (by omega)]; exact p3
    · rw [d11, cs_o _ _ _ _ (by decide)]; exact p4
    · rw [d11, cs_s, g7 21 26 r (by omega), m26, e5]
    · rw [dk 12 (by decide), g7 21 27 _ (by omega), mfr 21 27 _ (by omega) (by omega)]; exact w27 i hi
    · rw [hcnt, if_pos rfl, v3, rl r (by omega), if_pos rfl, ← w27 q hq, wL]
    · rw [d11, cs_o _ _ _ _ (by decide)]; exact f3
  have x7 : (a_st (aGet C r) 7).1 4 = 7 := sr_s (aGet C r) 4 7
  have xo : ∀ k : Nat, k ≠ 4 → (a_st (aGet C r) 7).1 k = C 7 r k := fun k hk => sr_o (aGet C r) 4 k 7 hk
  have aI7 : aI (a_st (aGet C r) 7) := aIx.reg (i := 4) 7 (by decide)
  have hAr : aR (cs X 21 24 r 7) r (a_st (aGet C r) 7) (cs X 21 24 r 7) := by
    refine ⟨⟨?_, ?_, ?_, ?_, ?_⟩, fun hz => absurd (x7.symm.trans hz) (by decide), fun j hj => ?_, fun i hi => ?_, fun j hj hjh => ?_, fun κ n j _ _ => rfl⟩
    · rw [xo 0 (by decide), g7 21 20 r (by omega), mfr 21 20 r (by omega) (by omega)]; exact s20
    · rw [xo 1 (by decide), g7 21 18 r (by omega), mfr 21 18 r (by omega) (by omega)]; exact s18
    · rw [xo 2 (by decide), g7 21 23 r (by omega), mfr 21 23 r (by omega) (by omega)]; exact s23
    · rw [xo 3 (by decide), g7 21 22 r (by omega), mfr 21 22 r (by omega) (by omega)]; exact s22
    · rw [x7, cs_s]
    · rw [g7 21 21 _ (by omega), mfr 21 21 _ (by omega) (by omega)]; exact s21 j hj
    · rw [g7 21 28 _ (by omega), mfr 21 28 _ (by omega) (by omega)]; exact s28 i hi
    · rw [xo 0 (by decide)] at hjh
      rw [g7 21 19 _ (by omega), mfr 21 19 _ (by omega) (by omega)]; exact s19 j hj hjh
  have hA1 := S_put (aS.mk hAr (Or.inl x7) ⟨rfl, rfl, rfl, rfl⟩) x7 aI7 y
  rw [← dG] at hA1
  have hSC : ∀ k, k < 16 → sCt D r k = sCt C r k + (if k = q then 1 else 0) := by
    intro k hk
    unfold sCt
    rw [hcnt, if_pos rfl, v3, dk 12 (by decide), cntR_app]
    congr 1
    show (if nI q = nI k ∧ C 12 r q = C 12 r k then 1 else 0) + 0 = _
    by_cases e : k = q
    · subst e; rw [if_pos ⟨rfl, rfl⟩, if_pos rfl]
    · rw [if_neg (fun z => e ((nI_eq (by omega) (by omega)).mp z.1).symm), if_neg e]
  have hKD : aK (sCt D r) (aGet D r) := by
    rw [dG]
    exact aK_ans aKx h7 hq q5 hSC y
  have hfitC := e_fit (a := a') (F := F) hI hB (z5 f k1) ⟨⟨k1, k2, k3, k4, k5, k6, k7⟩, ⟨p1, p2, p3, p4⟩, e5, w27, wL, hF200, f3⟩
  have hRD : gReach (envC D r) (nI F) (aGet D r) := by
    rw [dG]
    refine reach_ans hfitC v1 v2 hF200 fR h7 y1 ?_
    have ex5 : (aGet C r).1 5 = nI q := q5
    obtain ⟨d, d1, d2', d3⟩ := aKx.1 q hq
    have hd : d = sCt C r q + 1 := d3.mpr ⟨h7, q5⟩
    rw [ex5, (m_at_nat (aGet C r).2.2.2 hq (by decide) 0).1, d1, hd]
    exact v4
  have haI : aI (aGet D r) := by rw [dG]; exact aI7.put y
  have hst4 : (aGet D r).1 4 = 7 ∨ (aGet D r).1 4 = 5 := by
    rw [dG]
    rcases a_put_st (a_st (aGet C r) 7) y with e | e
    · exact Or.inl (e.trans x7)
    · exact Or.inr e
  obtain ⟨c1, c2, -, c3⟩ := s_core (n := n + 1) dI (bX.set (k := 24) (j := r) (v := 7) rfl (fun z => absurd rfl z)) (by rw [hrc]; exact hr) (show a' + 1 ≤ 512 by omega) (by omega) hOD hSt hst4 hA1 haI hKD hRD
  have c3' : q_goesOn_L 203 (q_puts (cs X 21 24 r 7) r y) r (6 * f + vv) 20 0 3 = 0 := by rw [c3, g7 20 0 3 (by omega)]; exact m3
  have grc : gRc (m_go D r) ≤ 24 := by rw [(m_go_str gSx.rf r : gSx D (m_go D r)).rc, hrc]; exact h24
  obtain ⟨pa, pb⟩ := q_puts_7 X r y
  have x24 : X 21 24 r = 0 := by rw [mfr 21 24 r (by omega) (by omega), ← e4]; exact c4
  have fin : ∀ Z : Int32 × gCT, Z = (q_goesOn_L 203 (q_puts (cs X 21 24 r 7) r y) r (6 * f + vv) 21 24 r, q_goesOn_L 203 (q_puts (cs X 21 24 r 7) r y) r (6 * f + vv)) → sOk n C 0 (w_out C (0, m_go D r 11 r 4, m_go D r)) Z := by
    intro Z hZ
    rw [hZ]
    exact sOk_yes grc c1 c3' c2
  by_cases c8 : X 21 20 r = 8
  · obtain ⟨q1, q2⟩ := pa c8
    rw [q2, if_neg (show ¬ (5 : Int32) = 0 by decide)]
    refine fin _ ?_
    have e9 : q_goesOn_L 203 (q_puts (cs X 21 24 r 7) r y) r (6 * f + vv) = q_puts X r y := by
      rw [q1]
      unfold q_goesOn_L
      dsimp only
      rw [q2, if_neg (show ¬ (5 : Int32) = 7 by decide)]
    rw [e9, q2]
  · obtain ⟨q1, q2⟩ := pb c8
    rw [q2, x24, if_pos rfl]
    refine fin _ ?_
    have p16 : q_puts X r y 21 16 r = nI f := by
      have := q_puts_same (k := 16) (by decide) X r y
      rw [show q_puts X r y 21 16 r = X 21 16 r from congrFun this r, mfr 21 16 r (by omega) (by omega)]; exact k3
    have p17 : q_puts X r y 21 17 r = nI vv := by
      have := q_puts_same (k := 17) (by decide) X r y
      rw [show q_puts X r y 21 17 r = X 21 17 r from congrFun this r, mfr 21 17 r (by omega) (by omega)]; exact k6
    have e9 : q_goesOn (q_puts X r y) r = q_goesOn_L 203 (q_puts (cs X 21 24 r 7) r y) r (6 * f + vv) := by
      have hg : q_goesOn (q_puts X r y) r = q_goesOn_L 203 (cs (q_puts X r y) 21 24 r 7) r (6 * (q_puts X r y 21 16 r).toNatClampNeg + (q_puts X r y 21 17 r).toNatClampNeg) := rfl
      have := (hI.vn k1).1
      rw [hg, p16, p17, nI_clamp (by omega), nI_clamp (by omega), q1]
    rw [e9]

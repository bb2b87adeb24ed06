/-! ===== a run that a call doesn't touch ===== -/
theorem m_nth_L_cong2 {C D : gCT} {r c : Nat} (hc : C 2 r 1 = nI c) (hc2 : c ≤ 512) (h2 : D 2 r 1 = C 2 r 1) (h13 : ∀ j, j < c → cT D r j = cT C r j) (q n w : Int32) : ∀ (n0 j : Nat) (f : Int32), j ≤ c → (m_nth_L n0 D r q n w f (nI j)).1 = (m_nth_L n0 C r q n w f (nI j)).1 := by
  intro n0
  induction n0 with
  | zero => intro j f _; rfl
  | succ n0 ih =>
    intro j f hj
    unfold m_nth_L
    dsimp only
    rw [h2, hc]
    by_cases c1 : nI c ≤ nI j
    · rw [if_pos c1, if_pos c1]
    · have hjc : j < c := by
        exact Nat.not_le.mp (fun z => c1 ((nat_le rfl rfl (by omega) (by omega)).mpr z))
      have e := h13 j hjc
      have e0 : D 13 (1024 * r + j) 0 = C 13 (1024 * r + j) 0 := congrArg Prod.fst e
      have e1 : D 13 (1024 * r + j) 1 = C 13 (1024 * r + j) 1 := congrArg (fun z => z.2.1) e
      have e2 : D 13 (1024 * r + j) 2 = C 13 (1024 * r + j) 2 := congrArg (fun z => z.2.2) e
      rw [if_neg c1, if_neg c1, nI_clamp (by omega), e0, e1, e2, nI_1]
      have k := fun g => ih (j + 1) g (by omega)
      by_cases d1 : C 13 (1024 * r + j) 0 = q
      · rw [if_pos d1, if_pos d1]
        by_cases d2 : C 13 (1024 * r + j) 1 = w
        · rw [if_pos d2, if_pos d2]
          by_cases d3 : f + 1 = n
          · rw [if_pos d3, if_pos d3]
          · rw [if_neg d3, if_neg d3]; exact k _
        · rw [if_neg d2, if_neg d2]; exact k _
      · rw [if_neg d1, if_neg d1]; exact k _
theorem envC_cong2 {C D : gCT} {r c d : Nat} (hd : (C 11 r 7).toNatClampNeg = d) (hc : C 2 r 1 = nI c) (hc2 : c ≤ 512) (h12 : D 12 r = C 12 r) (h2 : D 2 r 1 = C 2 r 1) (h13 : ∀ j, j < c → cT D r j = cT C r j) (h11 : D 11 r 7 = C 11 r 7) (h15 : D 15 d = C 15 d) (h16 : D 16 d = C 16 d) (h14 : D 14 d 0 = C 14 d 0) : envC D r = envC C r := by
  unfold envC
  rw [h11, hd, h15, h16, h14]
  have e : (fun q n => (m_nth D r q n).1) = fun q n => (m_nth C r q n).1 := by
    funext q n
    unfold m_nth
    simp only [h12]
    exact m_nth_L_cong2 hc hc2 h2 h13 q n _ 2001 0 0 (Nat.zero_le _)
  rw [e]
/-- what a run is told by, in the reference -/
def rSm (M N : gCT) (r : Nat) : Prop := (∀ k, (k = 15 ∨ k = 16 ∨ k = 17 ∨ k = 18 ∨ k = 20 ∨ k = 22 ∨ k = 23 ∨ k = 24 ∨ k = 25 ∨ k = 26) → N 21 k r = M 21 k r) ∧ (∀ j, j < 8 → N 21 19 (8 * r + j) = M 21 19 (8 * r + j) ∧ N 21 21 (8 * r + j) = M 21 21 (8 * r + j)) ∧ ∀ q, q < 16 → N 21 27 (16 * r + q) = M 21 27 (16 * r + q) ∧ N 21 28 (16 * r + q) = M 21 28 (16 * r + q)
theorem rSm.all {M N : gCT} (h : ∀ k, 15 ≤ k → N 21 k = M 21 k) (r : Nat) : rSm M N r :=
  ⟨fun k hk => by rw [h k (by omega)], fun j _ => by rw [h 19 (by decide), h 21 (by decide)]; exact ⟨rfl, rfl⟩, fun q _ => by rw [h 27 (by decide), h 28 (by decide)]; exact ⟨rfl, rfl⟩⟩
/-- what a run is told by, in the class -/
def cSm (C D : gCT) (r : Nat) : Prop := D 11 r = C 11 r ∧ D 12 r = C 12 r ∧ D 2 r 1 = C 2 r 1 ∧ (∀ j, j < gCnt C r → cT D r j = cT C r j) ∧ D 7 r = C 7 r ∧ D 8 r = C 8 r ∧ D 9 r = C 9 r ∧ D 10 r = C 10 r
theorem sU_gen {C D M N : gCT} {a b r : Nat} (hI : gInv C) (hr : r < gRc C) (hV : ∀ f, gVn C f ≤ gVn D f) (hC : cSm C D r) (hcd : ∀ f w, f < 4 → w < gVn C f → D 15 (8 * f + w + 1) = C 15 (8 * f + w + 1) ∧ D 16 (8 * f + w + 1) = C 16 (8 * f + w + 1) ∧ D 14 (8 * f + w + 1) 0 = C 14 (8 * f + w + 1) 0) (hM : rSm M N r) (hL : rLf N r 0 b = rLf M r 0 a) (h : sU C M a r) : sU D N b r := by
  obtain ⟨h11, h12, h2, h13, h7, h8, h9, h10⟩ := hC
  obtain ⟨m1, m2, m3⟩ := hM
  obtain ⟨⟨f, v, k1, k2, k3, k4, k5, k6, k7⟩, ⟨p, p1, p2, p3, p4⟩, ⟨s1, s2, s3⟩, ⟨⟨t1, t2, t3, t4⟩, t5, t6, t7, t8⟩, w1, w2, ⟨i1, i2⟩, F, f1, f2, f3⟩ := h
  have hcn := hI.cnt (Or.inl hr)
  have hv6 := (hI.vn k1).1
  have eG : gCnt D r = gCnt C r := by unfold gCnt; rw [h2]
  have eL : cLf D r 0 (gCnt C r) = cLf C r 0 (gCnt C r) := cLf_cong _ _ (fun j hj => h13 j (by omega))
  obtain ⟨q1, q2, q3⟩ := hcd f v k1 k4
  have eE : envC D r = envC C r := envC_cong2 (d := 8 * f + v + 1) (by rw [k7, nI_clamp (by omega)]) hcn.1 hcn.2.2.2.2.1 h12 h2 h13 (by rw [h11]) q1 q2 q3
  have eS : sCt D r = sCt C r := by unfold sCt; rw [eG, eL, h12]
  have eA : aGet D r = aGet C r := by unfold aGet; rw [h7, h8, h9, h10]
  unfold sU sMa
  rw [h11, h12, h7, h8, h9, h10, eG, eL, eE, eS, eA, hL]
  refine ⟨⟨f, v, k1, k2, ?_, Nat.lt_of_lt_of_le k4 (hV f), k5, ?_, k7⟩, ⟨p, p1, p2, ?_, p4⟩, ⟨?_, ?_, s3⟩, ⟨⟨?_, ?_, ?_, ?_⟩, fun hz => ?_, fun j hj => ?_, fun q hq => ?_, fun j hj hjh => ?_⟩, fun q hq => ?_, w2, ⟨i1, i2⟩, F, f1, f2, f3⟩
  · rw [m1 16 (by decide)]; exact k3
  · rw [m1 17 (by decide)]; exact k6
  · rw [m1 15 (by decide)]; exact p3
  · rw [m1 26 (by decide)]; exact s1
  · rw [m1 24 (by decide)]; exact s2
  · rw [m1 20 (by decide)]; exact t1
  · rw [m1 18 (by decide)]; exact t2
  · rw [m1 23 (by decide)]; exact t3
  · rw [m1 22 (by decide)]; exact t4
  · rw [m1 25 (by decide)]; exact t5 hz
  · rw [(m2 j hj).2]; exact t6 j hj
  · rw [(m3 q hq).2]; exact t7 q hq
  · rw [(m2 j hj).1]; exact t8 j hj hjh
  · rw [(m3 q hq).1]; exact w1 q hq
/-- the forms' numbers, prices, wordings and the like change, the runs not -/
theorem sRel_form {n : Nat} {C D M N : gCT} (hI : gInv C) (hD : ∀ κ, κ = 2 ∨ κ = 7 ∨ κ = 8 ∨ κ = 9 ∨ κ = 10 ∨ κ = 11 ∨ κ = 12 ∨ κ = 13 ∨ κ = 14 ∨ κ = 15 ∨ κ = 16 → D κ = C κ) (hV : ∀ f, D 4 f 0 = C 4 f 0) (hN : ∀ k, 15 ≤ k → N 21 k = M 21 k) (h1 : N 20 0 1 = M 20 0 1) (h2 : N 20 0 2 = M 20 0 2)
    (hF : ∀ f, f < 4 → sF D N f) (hg : ∀ q, q < 16 → D 17 0 q = N 21 11 q ∧ D 18 0 q = N 21 12 q ∧ D 19 0 q = N 21 13 q) (h0 : D 0 0 0 = N 20 0 0) (h : sRel n C M) : sRel n D N := by
  have eR : gRc D = gRc C := by unfold gRc; rw [hD 2 (by decide)]
  have eV : ∀ f, gVn D f = gVn C f := fun f => by unfold gVn; rw [hV f]
  obtain ⟨⟨a, k1, k2, k3, k4⟩, k5, k6, k7, k8, k9⟩ := h
  refine ⟨⟨a, k1, h2.trans k2, ?_, fun r hr => ?_⟩, hF, hg, h0, ?_, ?_⟩
  · rw [eR, hN 33 (by decide), hN 30 (by decide)]; exact k3
  · rw [eR] at hr
    refine sU_gen hI hr (fun f => by rw [eV f]; exact Nat.le_refl _) ?_ (fun f w _ _ => by rw [hD 15 (by decide), hD 16 (by decide), hD 14 (by decide)]; exact ⟨rfl, rfl, rfl⟩) (rSm.all hN r) (rLf_cong a 0 (fun j _ => by unfold rT; rw [hN 30 (by decide), hN 31 (by decide), hN 32 (by decide), hN 33 (by decide)]; exact ⟨rfl, rfl⟩)) (k4 r hr)
    unfold cSm cT
    rw [hD 11 (by decide), hD 12 (by decide), hD 2 (by decide), hD 13 (by decide), hD 7 (by decide), hD 8 (by decide), hD 9 (by decide), hD 10 (by decide)]
    exact ⟨rfl, rfl, rfl, fun _ _ => rfl, rfl, rfl, rfl, rfl⟩
  · rw [hD 2 (by decide)]; exact k8.trans h1.symm
  · rw [eR, hN 26 (by decide)]; exact k9
theorem sOk_no' {n : Nat} {C M : gCT} (k k' : Nat) (hk : k ≠ 0) (hk' : k' ≠ 0) (h : sRel n C M) {x : Int32} : sOk n C k' (w_out C (k, 0, C)) (x, cs M 20 0 3 (nI k')) := by
  have e : w_out C (k, 0, C) = C := if_neg hk
  rw [e]
  exact ⟨cs_s M 20 0 3 (nI k'), fun z => absurd z hk', (h.thr _).up⟩
theorem thr_3 (M : gCT) (k j : Nat) (v : Int32) : cs (cs M 20 0 3 0) 21 k j v 20 0 3 = 0 := by rw [cs_rd, if_neg (by omega), cs_s]
theorem s_setFuel {n : Nat} {C M : gCT} (hI : gInv C) (h : sRel n C M) (x y : Int32) : sOk n C (m_setFuel C x y).1 (w_out C (m_setFuel C x y)) (q_setFuel M x y) := by
  unfold m_setFuel q_setFuel
  dsimp only
  rw [isW_eq]
  by_cases c : q_isBelow x 4 = 0
  · rw [formNo c, if_neg n1_ne, thr1 _ _ c, goes_no one_ne]
    exact sOk_no 1 (by decide) h
  · obtain ⟨-, hx⟩ := q_isBelow_of (N := 4) rfl (by decide) c
    rw [formYes c, if_pos rfl]
    by_cases c2 : m_isWithin y 1 200 = 0
    · rw [if_pos c2, thr2 _ c c2, goes_no (by decide)]
      exact sOk_no 2 (by decide) h
    · rw [if_neg c2, thr0 c c2 one_ne, goes_yes]
      have hF := h.2.1 _ hx
      refine sOk_yes (by rw [(gSx.rf.cs1 rfl : gSx C (cs C 4 x.toNatClampNeg 1 y)).rc]; exact hI.1) ?_ (thr_3 _ _ _ _) hF.1.2.1
      refine (sRel_form hI (fun κ hk => cs_k _ _ _ _ (by omega)) (fun f => by rw [cs_rd, if_neg (by omega)]) (fun k hk => by rw [cs_n _ _ _ _ (by omega), cs_k _ _ _ _ (by decide)]) (by rw [cs_rd, if_neg (by omega), cs_o _ _ _ _ (by decide)]) (by rw [cs_rd, if_neg (by omega), cs_o _ _ _ _ (by decide)]) (fun f hf => ?_) (fun q hq => ?_) ?_ h).up
      · have hF := h.2.1 f hf
        have eV : gVn (cs C 4 x.toNatClampNeg 1 y) f = gVn C f := by unfold gVn; rw [cs_rd, if_neg (by omega)]
        unfold sF sCd at hF ⊢
        simp only [eV, cs_rd] at hF ⊢
        simp at hF ⊢
        obtain ⟨⟨a1, a2, a3⟩, b1, b2⟩ := hF
        refine ⟨⟨a1, ?_, a3⟩, b1, b2⟩
        split
        · rfl
        · exact a2
      · simp only [cs_rd]
        simp
        exact h.2.2.1 q hq
      · simp only [cs_rd]
        simp
        exact h.2.2.2.1

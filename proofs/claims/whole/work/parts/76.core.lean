/-! ===== a run goes on, on both sides ===== -/
def sOth (a r : Nat) (C M : gCT) : Prop := M 20 0 2 = nI a ∧ (∀ k, k < a → (∃ v : Nat, v < 10 ∧ M 21 33 k = nI v) ∧ ∃ r : Nat, r < gRc C ∧ M 21 30 k = nI r) ∧ (∀ s, s < gRc C → s ≠ r → sU C M a s) ∧ (∀ f, f < 4 → sF C M f) ∧ (∀ q, q < 16 → C 17 0 q = M 21 11 q ∧ C 18 0 q = M 21 12 q ∧ C 19 0 q = M 21 13 q) ∧ C 0 0 0 = M 20 0 0 ∧ C 2 24 1 = M 20 0 1 ∧ ∀ s, gRc C ≤ s → s < 24 → M 21 26 s = 0
def sSt (a r f v p F : Nat) (C M : gCT) : Prop := (f < 4 ∧ C 11 r 6 = nI f ∧ M 21 16 r = nI f ∧ v < gVn C f ∧ C 11 r 2 = nI v ∧ M 21 17 r = nI v ∧ C 11 r 7 = nI (8 * f + v + 1)) ∧ (p < 16 ∧ C 11 r 0 = nI p ∧ M 21 15 r = nI p ∧ C 11 r 1 = nI (p % 4)) ∧ C 11 r 5 = M 21 26 r ∧ (∀ q, q < 16 → C 12 r q = M 21 27 (16 * r + q)) ∧ cLf C r 0 (gCnt C r) = rLf M r 0 a ∧ F ≤ 200 ∧ C 11 r 3 = nI F
theorem rLf_val {M : gCT} {r a : Nat} (h : ∀ k, k < a → ∃ v : Nat, v < 10 ∧ M 21 33 k = nI v) : ∀ (m k : Nat), k + m ≤ a → ∀ t ∈ rLf M r k m, ¬ t.2.2 = -1 := by
  intro m
  induction m with
  | zero => intro k _ t ht; exact absurd ht (by show ¬ t ∈ ([] : List aT); simp)
  | succ m ih =>
    intro k hk t ht
    have eL : rLf M r k (m + 1) = if M 21 30 k = nI r then rT M k :: rLf M r (k + 1) m else rLf M r (k + 1) m := rfl
    rw [eL] at ht
    by_cases c : M 21 30 k = nI r
    · rw [if_pos c] at ht
      rcases List.mem_cons.mp ht with e | e
      · rw [e]
        obtain ⟨v, v1, v2⟩ := h k (by omega)
        show ¬ M 21 33 k = -1
        rw [v2]
        intro z
        have := congrArg Int32.toInt z
        rw [nI_toInt (by omega)] at this
        exact absurd this (by simp)
      · exact ih (k + 1) (by omega) t e
    · rw [if_neg c] at ht
      exact ih (k + 1) (by omega) t ht
theorem rLf_len (M : gCT) (r : Nat) : ∀ (m k : Nat), (rLf M r k m).length ≤ m := by
  intro m
  induction m with
  | zero => intro k; exact Nat.le_refl _
  | succ m ih =>
    intro k
    show (if M 21 30 k = nI r then rT M k :: rLf M r (k + 1) m else rLf M r (k + 1) m).length ≤ m + 1
    have := ih (k + 1)
    split
    · exact Nat.succ_le_succ this
    · omega
/-- the code that a run has is the reference's -/
theorem e_code {C M : gCT} {a r f v p F : Nat} (hI : gInv C) (hB : MBI M) (hF : sF C M f) (hS : sSt a r f v p F C M) : (∃ n : Nat, n ≤ 24 ∧ (envC C r).2.2.2 = nI n) ∧ (envC C r).2.2.2 = M 21 5 (6 * f + v) ∧ ∀ j : Nat, j < 24 → nI j < (envC C r).2.2.2 → (envC C r).2.1 j = M 21 3 (24 * (6 * f + v) + j) ∧ (envC C r).2.2.1 j = M 21 4 (24 * (6 * f + v) + j) := by
  obtain ⟨⟨hf, -, -, hv, -, -, h7⟩, -⟩ := hS
  have hv6 := (hI.vn hf).1
  obtain ⟨l1, l2⟩ := hF.2.2.2 v hv
  have ed : (C 11 r 7).toNatClampNeg = 8 * f + v + 1 := by rw [h7, nI_clamp (by omega)]
  have e1 : (envC C r).2.2.2 = M 21 5 (6 * f + v) := by
    show C 14 (C 11 r 7).toNatClampNeg 0 = _
    rw [ed]; exact l1
  obtain ⟨d, d1, d2⟩ := hB.1 5 (6 * f + v) (show 6 * f + v < 24 by omega) (by decide)
  have d1 : d < 25 := d1
  refine ⟨⟨d, by omega, e1.trans d2⟩, e1, fun j hj hlt => ?_⟩
  rw [e1, d2] at hlt
  have hjd := (nat_lt rfl rfl (by omega) (by omega)).mp hlt
  obtain ⟨a1, a2⟩ := l2 j (by rw [d2, nI_clamp (by omega)]; exact hjd)
  show C 15 (C 11 r 7).toNatClampNeg j = _ ∧ C 16 (C 11 r 7).toNatClampNeg j = _
  rw [ed]
  exact ⟨a1, a2⟩
theorem e_fit {C M : gCT} {a r f v p F : Nat} (hI : gInv C) (hB : MBI M) (hF : sF C M f) (hS : sSt a r f v p F C M) : aFit (envC C r) := by
  obtain ⟨h1, -, h3⟩ := e_code hI hB hF hS
  have hf := hS.1.1
  have hv := hS.1.2.2.2.1
  have hv6 := (hI.vn hf).1
  refine ⟨h1, fun j hj hlt => ?_⟩
  obtain ⟨a1, a2⟩ := h3 j hj hlt
  rw [a1, a2]
  exact hB.2.2.2.2 (24 * (6 * f + v) + j) (by omega)
theorem e_nth {C M : gCT} {a r f v p F : Nat} (hI : gInv C) (hr : r < gRc C) (hS : sSt a r f v p F C M) {q : Nat} (hq : q < 16) {d : Nat} (h1 : 1 ≤ d) (h2 : d ≤ 1000) : (envC C r).1 (nI q) (nI d) = nthR (nI q) (C 12 r q) (rLf M r 0 a) d := by
  have hcn := hI.cnt (Or.inl hr)
  rw [← hS.2.2.2.2.1]
  exact m_nth_at hcn.1 hcn.2.2.2.2.1 hq h1 h2
theorem e_q {C M : gCT} {a r f v p F : Nat} (hI : gInv C) (hB : MBI M) (hr : r < gRc C) (ha : a ≤ 512) (hO : M 20 0 2 = nI a ∧ ∀ k, k < a → ∃ v : Nat, v < 10 ∧ M 21 33 k = nI v) (hF : sF C M f) (hS : sSt a r f v p F C M) : qE M r (6 * f + v) (envC C r) := by
  obtain ⟨h1, h2, h3⟩ := e_code hI hB hF hS
  refine ⟨h3, h2, fun q hq d hd1 hd2 => ?_⟩
  obtain ⟨k1, k2⟩ := q_ans_at (M := M) hO.1 ha (r := r) (w := q) hd1 hd2 (rLf_val hO.2 a 0 (by omega))
  refine ⟨?_, k2⟩
  rw [e_nth hI hr hS hq hd1 hd2, k1, hS.2.2.2.1 q hq]
theorem e_c {C M : gCT} {a r f v p F : Nat} (hI : gInv C) (hr : r < gRc C) (ha : a ≤ 512) (hO : ∀ k, k < a → ∃ v : Nat, v < 10 ∧ M 21 33 k = nI v) (hS : sSt a r f v p F C M) : aC (sCt C r) (envC C r) := by
  intro q hq
  have hl : sCt C r q = cntR (nI q) (C 12 r q) (rLf M r 0 a) := by unfold sCt; rw [hS.2.2.2.2.1]
  have hle := Nat.le_trans (cntR_le (nI q) (C 12 r q) (rLf M r 0 a)) (rLf_len M r a 0)
  refine ⟨by omega, fun n h1 h2 => ?_⟩
  rw [e_nth hI hr hS hq h1 h2, hl]
  refine ⟨fun e => ?_, fun e => nthR_no _ h1 e⟩
  exact Decidable.byContradiction fun z => nthR_yes _ h1 (by omega) (rLf_val hO a 0 (by omega)) e
/-- what stands after it, but for the money -/
def goK (C D : gCT) (r : Nat) (z : aM) : Prop := (∀ κ, κ = 2 ∨ κ = 3 ∨ κ = 5 ∨ κ = 12 ∨ κ = 13 ∨ κ = 14 ∨ κ = 15 ∨ κ = 16 ∨ κ = 17 ∨ κ = 18 → D κ = C κ) ∧ (∀ κ n, κ = 7 ∨ κ = 8 ∨ κ = 9 ∨ κ = 10 ∨ κ = 11 → n ≠ r → D κ n = C κ n) ∧ (∀ j, D 11 r j = if j = 4 then z.1 4 else C 11 r j) ∧ (D 7 r = z.1 ∧ D 8 r = z.2.1 ∧ D 9 r = z.2.2.1 ∧ D 10 r = z.2.2.2) ∧ ∀ f j, j ≠ 2 → D 4 f j = C 4 f j
theorem goK.eight (C : gCT) (r : Nat) (z : aM) : goK C (go8 C r z) r z := ⟨fun κ hk => go8_k C r z (by omega), fun κ n _ hn => go8_n C r z hn κ, fun j => go8_11 C r z j, go8_7 C r z, fun f j _ => by rw [go8_k C r z (by decide)]⟩
theorem goK.g {C D : gCT} {r : Nat} {z : aM} (h : goK C D r z) {κ n : Nat} {x : Nat → Int32} (hk : κ = 0 ∨ κ = 6 ∨ κ = 19) : goK C (g2 D κ n x) r z := by
  have e : ∀ {κ' : Nat}, κ' ≠ 0 → κ' ≠ 6 → κ' ≠ 19 → g2 D κ n x κ' = D κ' := fun h0 h6 h19 => g2_k _ _ (by omega)
  obtain ⟨h1, h2, h3, h4, h5⟩ := h
  refine ⟨fun κ' hk' => (e (by omega) (by omega) (by omega)).trans (h1 κ' hk'), fun κ' n' hk' hn => (by rw [e (by omega) (by omega) (by omega)]; exact h2 κ' n' hk' hn), fun j => by rw [e (by decide) (by decide) (by decide)]; exact h3 j, by rw [e (by decide) (by decide) (by decide), e (by decide) (by decide) (by decide), e (by decide) (by decide) (by decide), e (by decide) (by decide) (by decide)]; exact h4, fun f j hj => by rw [e (by decide) (by decide) (by decide)]; exact h5 f j hj⟩
theorem goK.c4 {C D : gCT} {r : Nat} {z : aM} (h : goK C D r z) {n : Nat} {v : Int32} : goK C (cs D 4 n 2 v) r z := by
  have e : ∀ {κ' : Nat}, κ' ≠ 4 → cs D 4 n 2 v κ' = D κ' := fun h0 => cs_k _ _ _ _ h0
  obtain ⟨h1, h2, h3, h4, h5⟩ := h
  refine ⟨fun κ' hk' => (e (by omega)).trans (h1 κ' hk'), fun κ' n' hk' hn => (by rw [e (by omega)]; exact h2 κ' n' hk' hn), fun j => by rw [e (by decide)]; exact h3 j, by rw [e (by decide), e (by decide), e (by decide), e (by decide)]; exact h4, fun f j hj => by rw [cs_rd, if_neg (by omega)]; exact h5 f j hj⟩
/-- the money and what is counted as done -/
def goM (D N : gCT) : Prop := D 0 0 0 = N 20 0 0 ∧ (∀ f, f < 4 → D 4 f 2 = N 21 8 f) ∧ (∀ f p, f < 4 → p < 4 → D 6 f p = N 21 10 (4 * f + p)) ∧ ∀ q, q < 16 → D 19 0 q = N 21 13 q
theorem go_money {C M N : gCT} {a r f v p F : Nat} (hF : ∀ g, g < 4 → sF C M g) (hg : ∀ q, q < 16 → C 19 0 q = M 21 13 q) (h0 : C 0 0 0 = M 20 0 0) (hS : sSt a r f v p F C M) (hpn : (q_panelOf M r).1.toNatClampNeg = 4 * f + p % 4) (hA : (N 20 0 0, N 21 8, N 21 10, N 21 13) = aMon M r ((goZ C r f p).1 4) ((goZ C r f p).1 3)) : goK C (m_go C r) r (goZ C r f p) ∧ goM (m_go C r) N := by
  obtain ⟨⟨hf, k2, k3, k4, k5, k6, k7⟩, ⟨hp, p2, p3, p4⟩, s5, -⟩ := hS
  rw [go_at hf k2 p4 hp p2]
  unfold aMon at hA
  rw [hpn, k3, nI_clamp (by omega), p3, nI_clamp (by omega)] at hA
  generalize goZ C r f p = z at hA ⊢
  have h8 := goK.eight C r z
  have e0 : go8 C r z 0 = C 0 := go8_k C r z (by decide)
  have e4 : go8 C r z 4 = C 4 := go8_k C r z (by decide)
  have e6 : go8 C r z 6 = C 6 := go8_k C r z (by decide)
  have e19 : go8 C r z 19 = C 19 := go8_k C r z (by decide)
  by_cases c2 : z.1 4 = 2
  · rw [if_neg (by rw [c2]; decide), if_pos c2] at hA
    rw [if_pos c2]
    have n0 := congrArg (fun t => t.1) hA
    have n8 := congrArg (fun t => t.2.1) hA
    have n10 := congrArg (fun t => t.2.2.1) hA
    have n13 := congrArg (fun t => t.2.2.2) hA
    dsimp only at n0 n8 n10 n13
    have ew : goW C f z = if M 21 8 f ≤ z.1 3 then M 21 8 f else z.1 3 := by
      unfold goW
      rw [(hF f hf).1.2.2]
      by_cases c : M 21 8 f < z.1 3
      · rw [if_pos c, if_pos (Int32.le_of_lt c)]
      · rw [if_neg c]
        by_cases c' : M 21 8 f ≤ z.1 3
        · rw [if_pos c']
          have h1 : ¬ (M 21 8 f).toInt < (z.1 3).toInt := fun q => c (Int32.lt_iff_toInt_lt.mpr q)
          have h2 := Int32.le_iff_toInt_le.mp c'
          exact (Int32.toInt_inj.mp (by omega)).symm
        · rw [if_neg c']
    rw [← ew] at n8 n13
    refine ⟨((h8.g (Or.inr (Or.inl rfl))).c4).g (Or.inr (Or.inr rfl)), ?_, fun g hg4 => ?_, fun g i hg4 hi => ?_, fun q hq => ?_⟩
    · rw [g2_k _ _ (by decide), cs_k _ _ _ _ (by decide), g2_k _ _ (by decide), e0, n0]; exact h0
    · rw [g2_k _ _ (by decide), n8]
      by_cases e : g = f
      · subst e; rw [cs_s, upd_s, (hF g hg4).1.2.2]
      · rw [cs_n _ _ _ _ e, g2_k _ _ (by decide), e4, upd_o _ _ e]; exact (hF g hg4).1.2.2
    · rw [g2_k _ _ (by decide), cs_k _ _ _ _ (by decide), n10]
      by_cases e : g = f
      · subst e
        rw [g2_s]
        by_cases e2 : i = p % 4
        · subst e2; rw [upd_s, upd_s, ((hF g hg4).2.1 _ hi).2]
        · rw [upd_o _ _ e2, upd_o _ _ (by omega)]; exact ((hF g hg4).2.1 _ hi).2
      · rw [g2_n _ _ (fun q => e q.2), e6, upd_o _ _ (by omega)]; exact ((hF g hg4).2.1 _ hi).2
    · rw [g2_s, n13]
      by_cases e : q = p
      · subst e; rw [upd_s, upd_s, hg q hq]
      · rw [upd_o _ _ e, upd_o _ _ e]; exact hg q hq
  · rw [if_neg c2]
    have back : (z.1 4 = 5 ∨ z.1 4 = 4) → goK C (cs (cs (go8 C r z) 4 f 2 (C 4 f 2 + C 11 r 5)) 0 0 0 (C 0 0 0 + C 11 r 5)) r z ∧ goM (cs (cs (go8 C r z) 4 f 2 (C 4 f 2 + C 11 r 5)) 0 0 0 (C 0 0 0 + C 11 r 5)) N := by
      intro c
      rw [if_pos c] at hA
      have n0 := congrArg (fun t => t.1) hA
      have n8 := congrArg (fun t => t.2.1) hA
      have n10 := congrArg (fun t => t.2.2.1) hA
      have n13 := congrArg (fun t => t.2.2.2) hA
      dsimp only at n0 n8 n10 n13
      refine ⟨(h8.c4).g (Or.inl rfl), ?_, fun g hg4 => ?_, fun g i hg4 hi => ?_, fun q hq => ?_⟩
      · rw [cs_s, n0, h0, s5]
      · rw [cs_k _ _ _ _ (by decide), n8]
        by_cases e : g = f
        · subst e; rw [cs_s, upd_s, (hF g hg4).1.2.2, s5]
        · rw [cs_n _ _ _ _ e, e4, upd_o _ _ e]; exact (hF g hg4).1.2.2
      · rw [cs_k _ _ _ _ (by decide), cs_k _ _ _ _ (by decide), e6, n10]; exact ((hF g hg4).2.1 _ hi).2
      · rw [cs_k _ _ _ _ (by decide), cs_k _ _ _ _ (by decide), e19, n13]; exact hg q hq
    by_cases c5 : z.1 4 = 5
    · rw [if_pos c5]; exact back (Or.inl c5)
    rw [if_neg c5]
    by_cases c4 : z.1 4 = 4
    · rw [if_pos c4]; exact back (Or.inr c4)
    rw [if_neg c4]
    rw [if_neg (fun c => c.elim c5 c4), if_neg c2] at hA
    have n0 := congrArg (fun t => t.1) hA
    have n8 := congrArg (fun t => t.2.1) hA
    have n10 := congrArg (fun t => t.2.2.1) hA
    have n13 := congrArg (fun t => t.2.2.2) hA
    dsimp only at n0 n8 n10 n13
    refine ⟨h8, ?_, fun g hg4 => ?_, fun g i hg4 hi => ?_, fun q hq => ?_⟩
    · rw [e0, n0]; exact h0
    · rw [e4, n8]; exact (hF g hg4).1.2.2
    · rw [e6, n10]; exact ((hF g hg4).2.1 _ hi).2
    · rw [e19, n13]; exact hg q hq

/-! ===== a run goes on ===== -/
theorem kT.val {n : Nat} {t : aT} (h : kT n t) : ∃ v : Nat, v < 10 ∧ t.2.2 = nI v := by
  obtain ⟨q, w, v, -, -, h3, h4⟩ := h
  exact ⟨v, h3, by rw [h4]⟩
theorem nI_nm1 {v : Nat} (h : v < 10) : ¬ nI v = -1 := by
  have : ∀ v : Nat, v < 10 → ¬ nI v = -1 := by decide
  exact this v h
theorem cLf_val {n c : Nat} {C : gCT} {r : Nat} (h : ∀ j, j < c → kT n (cT C r j)) : ∀ (m i : Nat), i + m ≤ c → ∀ t ∈ cLf C r i m, ¬ t.2.2 = -1 := by
  intro m
  induction m with
  | zero => intro i _ t ht; exact absurd ht (by show ¬ t ∈ ([] : List aT); simp)
  | succ m ih =>
    intro i hi t ht
    have eL : cLf C r i (m + 1) = cT C r i :: cLf C r (i + 1) m := rfl
    rw [eL] at ht
    rcases List.mem_cons.mp ht with e | e
    · rw [e]
      obtain ⟨v, h1, h2⟩ := (h i (by omega)).val
      rw [h2]; exact nI_nm1 h1
    · exact ih (i + 1) (by omega) t e
theorem k_fit {n : Nat} {C : gCT} {r : Nat} (hI : gInv C) (hF : kF C) (hR : kR n C r) : aFit (envC C r) := by
  obtain ⟨⟨f, v, k1, k2, k3, k4, k5⟩, -⟩ := hR
  have hv6 := (hI.vn k1).1
  obtain ⟨len, l1, l2, l3⟩ := (hF f k1).2.2 v (by omega)
  have ed : (C 11 r 7).toNatClampNeg = 8 * f + v + 1 := by rw [k5, nI_clamp (by omega)]
  have e1 : (envC C r).2.2.2 = nI len := by
    show C 14 (C 11 r 7).toNatClampNeg 0 = _
    rw [ed]; exact l2
  refine ⟨⟨len, l1, e1⟩, fun j hj hlt => ?_⟩
  rw [e1] at hlt
  show gFit (C 15 (C 11 r 7).toNatClampNeg j) (C 16 (C 11 r 7).toNatClampNeg j)
  rw [ed]
  exact l3 j ((nat_lt rfl rfl (by omega) (by omega)).mp hlt)
theorem k_cnt {n : Nat} {C : gCT} {r : Nat} (hI : gInv C) (hr : r < gRc C) (hR : kR n C r) : aC (sCt C r) (envC C r) := by
  obtain ⟨-, -, -, k4, -⟩ := hR
  have hcn := hI.cnt (Or.inl hr)
  intro q hq
  have hle : sCt C r q ≤ gCnt C r := Nat.le_trans (cntR_le (nI q) (C 12 r q) (cLf C r 0 (gCnt C r))) (by rw [cLf_len]; exact Nat.le_refl _)
  refine ⟨by omega, fun m h1 h2 => ?_⟩
  have e : (envC C r).1 (nI q) (nI m) = nthR (nI q) (C 12 r q) (cLf C r 0 (gCnt C r)) m := m_nth_at hcn.1 hcn.2.2.2.2.1 hq h1 h2
  rw [e]
  refine ⟨fun e => ?_, fun e => nthR_no _ h1 e⟩
  exact Decidable.byContradiction fun z => nthR_yes _ h1 (Nat.not_lt.mp z) (cLf_val k4 (gCnt C r) 0 (by omega)) e
theorem k_in9 {n : Nat} {C : gCT} {r : Nat} (hI : gInv C) (hr : r < gRc C) (hR : kR n C r) (q m : Int32) : in9 ((envC C r).1 q m) := by
  obtain ⟨-, -, -, k4, -⟩ := hR
  have hcn := hI.cnt (Or.inl hr)
  show in9 (m_nth_L 2001 C r q m _ 0 (nI 0)).1
  refine m_nth_L9 hcn.1 hcn.2.2.2.2.1 (fun j hj => ?_) q m _ 2001 0 0 (Nat.zero_le _)
  obtain ⟨v, h1, h2⟩ := (k4 j hj).val
  have h2 : C 13 (1024 * r + j) 2 = nI v := h2
  rw [h2]; exact in9_nI h1
theorem go_K {C : gCT} {r f p : Nat} (hf : f < 4) (h6 : C 11 r 6 = nI f) (h1 : C 11 r 1 = nI (p % 4)) (hp : p < 16) (h0 : C 11 r 0 = nI p) : goK C (m_go C r) r (goZ C r f p) := by
  rw [go_at hf h6 h1 hp h0]
  generalize goZ C r f p = z
  have h8 := goK.eight C r z
  by_cases c2 : z.1 4 = 2
  · rw [if_pos c2]; exact ((h8.g (Or.inr (Or.inl rfl))).c4).g (Or.inr (Or.inr rfl))
  rw [if_neg c2]
  by_cases c5 : z.1 4 = 5
  · rw [if_pos c5]; exact (h8.c4).g (Or.inl rfl)
  rw [if_neg c5]
  by_cases c4 : z.1 4 = 4
  · rw [if_pos c4]; exact (h8.c4).g (Or.inl rfl)
  rw [if_neg c4]
  exact h8
theorem goW_at {C : gCT} {f b c : Nat} {z : aM} (h1 : C 4 f 2 = nI b) (h2 : z.1 3 = nI c) (hb : b < 2 ^ 31) (hc : c < 2 ^ 31) : ∃ w : Nat, goW C f z = nI w ∧ w ≤ b ∧ w ≤ c := by
  unfold goW
  rw [h1, h2]
  by_cases e : nI b < nI c
  · rw [if_pos e]
    have := (nat_lt rfl rfl hb hc).mp e
    exact ⟨b, rfl, Nat.le_refl _, by omega⟩
  · rw [if_neg e]
    have : c ≤ b := Nat.not_lt.mp (fun z => e ((nat_lt rfl rfl hb hc).mpr z))
    exact ⟨c, rfl, this, Nat.le_refl _⟩
/-- the money after it -/
theorem go_M {C : gCT} {n r f p d c : Nat} {fd : Int32} (hn : n ≤ 700) (hf : f < 4) (h6 : C 11 r 6 = nI f) (h1 : C 11 r 1 = nI (p % 4)) (hp : p < 16) (h0 : C 11 r 0 = nI p) (h5 : C 11 r 5 = nI d) (hd : d ≤ 1000 * n) (hz : (goZ C r f p).1 3 = nI c) (hc : c ≤ 100000) (h : kM n fd C) : kM (n + 1) fd (m_go C r) := by
  rw [go_at hf h6 h1 hp h0]
  obtain ⟨k1, k2, k3⟩ := h
  generalize goZ C r f p = z at hz
  have e0 : go8 C r z 0 = C 0 := go8_k C r z (by decide)
  have e4 : go8 C r z 4 = C 4 := go8_k C r z (by decide)
  have e19 : go8 C r z 19 = C 19 := go8_k C r z (by decide)
  obtain ⟨b, b1, b2⟩ := k2 f hf
  have up19 : ∀ q, q < 16 → ∃ m : Nat, m ≤ 800000 * (n + 1) ∧ C 19 0 q = nI m := fun q hq => by
    obtain ⟨m, m1, m2⟩ := k1 q hq
    exact ⟨m, by omega, m2⟩
  have up4 : ∀ f, f < 4 → ∃ b : Nat, b ≤ 800000 * (n + 1) ∧ C 4 f 2 = nI b := fun f hf => by
    obtain ⟨m, m1, m2⟩ := k2 f hf
    exact ⟨m, by omega, m2⟩
  by_cases c2 : z.1 4 = 2
  · rw [if_pos c2]
    obtain ⟨w, w1, w2, w3⟩ := goW_at b2 hz (by omega) (by omega)
    rw [w1]
    obtain ⟨m, m1, m2⟩ := k1 p hp
    have d19 : g2 (cs (g2 (go8 C r z) 6 f (upd (C 6 f) (p % 4) (C 6 f (p % 4) + 1))) 4 f 2 (C 4 f 2 - nI w)) 19 0 (upd (C 19 0) p (C 19 0 p + nI w)) 19 0 = upd (C 19 0) p (C 19 0 p + nI w) := g2_s _ _ _ _
    have d4 : ∀ g j, g2 (cs (g2 (go8 C r z) 6 f (upd (C 6 f) (p % 4) (C 6 f (p % 4) + 1))) 4 f 2 (C 4 f 2 - nI w)) 19 0 (upd (C 19 0) p (C 19 0 p + nI w)) 4 g j = if g = f ∧ j = 2 then C 4 f 2 - nI w else C 4 g j := fun g j => by
      rw [g2_k _ _ (by decide), cs_rd, g2_k _ _ (by decide), e4]
      by_cases e : g = f ∧ j = 2
      · rw [if_pos ⟨rfl, e⟩, if_pos e]
      · rw [if_neg (fun q => e q.2), if_neg e]
    have d0 : g2 (cs (g2 (go8 C r z) 6 f (upd (C 6 f) (p % 4) (C 6 f (p % 4) + 1))) 4 f 2 (C 4 f 2 - nI w)) 19 0 (upd (C 19 0) p (C 19 0 p + nI w)) 0 0 0 = C 0 0 0 := by
      rw [g2_k _ _ (by decide), cs_k _ _ _ _ (by decide), g2_k _ _ (by decide), e0]
    generalize g2 (cs (g2 (go8 C r z) 6 f (upd (C 6 f) (p % 4) (C 6 f (p % 4) + 1))) 4 f 2 (C 4 f 2 - nI w)) 19 0 (upd (C 19 0) p (C 19 0 p + nI w)) = D at d19 d4 d0
    refine ⟨fun q hq => ?_, fun g hg => ?_, ?_⟩
    · rw [d19]
      by_cases e : q = p
      · subst e; rw [upd_s, m2, nI_add]; exact ⟨m + w, by omega, rfl⟩
      · rw [upd_o _ _ e]; exact up19 q hq
    · rw [d4]
      by_cases e : g = f
      · subst e; rw [if_pos ⟨rfl, rfl⟩, b2, nat_sub rfl rfl w2]; exact ⟨b - w, by omega, rfl⟩
      · rw [if_neg (fun q => e q.1)]; exact up4 g hg
    · have s1 : sm (D 19 0) 16 = sm (C 19 0) 16 + nI w := sm_one hp (fun j _ hj => by rw [d19, upd_o _ _ hj]) (by rw [d19, upd_s])
      have s2 : sm (fun g => C 4 g 2) 4 = sm (fun g => D 4 g 2) 4 + nI w := sm_one (i := f) hf (fun j _ hj => by
        show C 4 j 2 = D 4 j 2
        rw [d4, if_neg (fun q => hj q.1)]) (by
        show C 4 f 2 = D 4 f 2 + nI w
        rw [d4, if_pos ⟨rfl, rfl⟩, Int32.sub_add_cancel])
      rw [s2] at k3
      rw [s1, d0, ← k3, Int32.add_assoc, Int32.add_comm (nI w)]
  rw [if_neg c2]
  have back : kM (n + 1) fd (cs (cs (go8 C r z) 4 f 2 (C 4 f 2 + C 11 r 5)) 0 0 0 (C 0 0 0 + C 11 r 5)) := by
    have d19 : cs (cs (go8 C r z) 4 f 2 (C 4 f 2 + C 11 r 5)) 0 0 0 (C 0 0 0 + C 11 r 5) 19 = C 19 := by rw [cs_k _ _ _ _ (by decide), cs_k _ _ _ _ (by decide), e19]
    have d4 : ∀ g j, cs (cs (go8 C r z) 4 f 2 (C 4 f 2 + C 11 r 5)) 0 0 0 (C 0 0 0 + C 11 r 5) 4 g j = if g = f ∧ j = 2 then C 4 f 2 + C 11 r 5 else C 4 g j := fun g j => by
      rw [cs_k _ _ _ _ (by decide), cs_rd, e4]
      by_cases e : g = f ∧ j = 2
      · rw [if_pos ⟨rfl, e⟩, if_pos e]
      · rw [if_neg (fun q => e q.2), if_neg e]
    have d0 : cs (cs (go8 C r z) 4 f 2 (C 4 f 2 + C 11 r 5)) 0 0 0 (C 0 0 0 + C 11 r 5) 0 0 0 = C 0 0 0 + C 11 r 5 := cs_s _ _ _ _ _
    generalize cs (cs (go8 C r z) 4 f 2 (C 4 f 2 + C 11 r 5)) 0 0 0 (C 0 0 0 + C 11 r 5) = D at d19 d4 d0
    refine ⟨fun q hq => by rw [d19]; exact up19 q hq, fun g hg => ?_, ?_⟩
    · rw [d4]
      by_cases e : g = f
      · subst e; rw [if_pos ⟨rfl, rfl⟩, b2, h5, nI_add]; exact ⟨b + d, by omega, rfl⟩
      · rw [if_neg (fun q => e q.1)]; exact up4 g hg
    · have s2 : sm (fun g => D 4 g 2) 4 = sm (fun g => C 4 g 2) 4 + C 11 r 5 := sm_one (i := f) hf (fun j _ hj => by
        show D 4 j 2 = C 4 j 2
        rw [d4, if_neg (fun q => hj q.1)]) (by
        show D 4 f 2 = C 4 f 2 + C 11 r 5
        rw [d4, if_pos ⟨rfl, rfl⟩])
      rw [s2, d0, d19, ← Int32.add_assoc, k3, Int32.add_assoc]
  by_cases c5 : z.1 4 = 5
  · rw [if_pos c5]; exact back
  rw [if_neg c5]
  by_cases c4 : z.1 4 = 4
  · rw [if_pos c4]; exact back
  rw [if_neg c4]
  refine ⟨by rw [e19]; exact up19, by rw [e4]; exact up4, ?_⟩
  rw [e19, e4, e0]; exact k3
/-- what is counted as done after it -/
theorem go_D {C : gCT} {r f p : Nat} (hr : r < gRc C) (hf : f < 4) (h6 : C 11 r 6 = nI f) (h1 : C 11 r 1 = nI (p % 4)) (hp : p < 16) (h0 : C 11 r 0 = nI p) (h4 : ¬ C 11 r 4 = 2) (h : kD C) : kD (m_go C r) := by
  have hK := go_K hf h6 h1 hp h0
  have hR : gRc (m_go C r) = gRc C := by unfold gRc; rw [hK.1 2 (by decide)]
  have hE : ∀ s, s ≠ r → kE (m_go C r) s = kE C s := fun s hs => by unfold kE; rw [hK.2.1 11 s (by decide) hs]
  have hE0 : kE C r = 0 := if_neg h4
  have hEr : kE (m_go C r) r = if (goZ C r f p).1 4 = 2 then 1 else 0 := by unfold kE; rw [hK.2.2.1, if_pos rfl]
  have h66 : m_go C r 6 = if (goZ C r f p).1 4 = 2 then g2 (C) 6 f (upd (C 6 f) (p % 4) (C 6 f (p % 4) + 1)) 6 else C 6 := by
    rw [go_at hf h6 h1 hp h0]
    generalize goZ C r f p = z
    have e6 : go8 C r z 6 = C 6 := go8_k C r z (by decide)
    by_cases c2 : z.1 4 = 2
    · rw [if_pos c2, if_pos c2, g2_k _ _ (by decide), cs_k _ _ _ _ (by decide)]
      funext g j
      unfold g2
      rw [e6]
    rw [if_neg c2, if_neg c2]
    by_cases c5 : z.1 4 = 5
    · rw [if_pos c5, cs_k _ _ _ _ (by decide), cs_k _ _ _ _ (by decide), e6]
    rw [if_neg c5]
    by_cases c4 : z.1 4 = 4
    · rw [if_pos c4, cs_k _ _ _ _ (by decide), cs_k _ _ _ _ (by decide), e6]
    rw [if_neg c4, e6]
  unfold kD at h ⊢
  rw [hR]
  generalize m_go C r = D at *
  by_cases c2 : (goZ C r f p).1 4 = 2
  · rw [if_pos c2] at hEr h66
    have s1 : sm (fun k => D 6 (k / 4) (k % 4)) 16 = sm (fun k => C 6 (k / 4) (k % 4)) 16 + 1 := sm_one (i := 4 * f + p % 4) (by omega) (fun j _ hj => by
      show D 6 (j / 4) (j % 4) = C 6 (j / 4) (j % 4)
      rw [h66]
      by_cases e : j / 4 = f
      · rw [e, g2_s, upd_o _ _ (by omega)]
      · rw [g2_n _ _ (fun q => e q.2)]) (by
      show D 6 ((4 * f + p % 4) / 4) ((4 * f + p % 4) % 4) = C 6 ((4 * f + p % 4) / 4) ((4 * f + p % 4) % 4) + 1
      rw [show (4 * f + p % 4) / 4 = f by omega, show (4 * f + p % 4) % 4 = p % 4 by omega, h66, g2_s, upd_s])
    have s2 : sm (kE D) (gRc C) = sm (kE C) (gRc C) + 1 := sm_one hr (fun j _ hj => hE j hj) (by rw [hEr, hE0]; rfl)
    rw [s1, s2, h]
  · rw [if_neg c2] at hEr h66
    rw [h66, h]
    exact sm_cong (fun j _ => by
      by_cases e : j = r
      · subst e; rw [hEr, hE0]
      · exact (hE j e).symm)

/-! ===== write and publish ===== -/
theorem ite_same {α : Type} {c : Prop} [Decidable c] (A : α) : (if c then A else A) = A := by split <;> rfl
/-- what the class takes for an instruction with its argument is what the reference takes -/
theorem fit_eq (w a : Int32) : q_isFit w a = if m_isWithin w 0 12 = 0 then 0 else if m_isWithin a (m_at gLeast 13 w) (m_at gMost 13 w) = 0 then 0 else 1 := by
  unfold q_isFit
  dsimp only
  rw [isW_eq, isW_eq]
  by_cases c : m_isWithin w 0 12 = 0
  · rw [if_pos c, if_pos c]
  · rw [if_neg c, if_neg c]
    obtain ⟨h1, h2⟩ := q_isWithin_of (x := w) (n := 12) (N := 12) rfl (by decide) c
    have key : ∀ k : Nat, k < 13 → (if nI k = 1 then (-99 : Int32) else 0) = m_at gLeast 13 (nI k) ∧ (if nI k = 0 then (15 : Int32) else if nI k = 1 then 99 else if nI k = 2 then 7 else if nI k = 3 then 7 else if nI k = 8 then 24 else if nI k = 9 then 24 else if nI k = 10 then 500 else 0) = m_at gMost 13 (nI k) := by decide
    obtain ⟨k1, k2⟩ := key w.toNatClampNeg (by omega)
    rw [← h1] at k1 k2
    rw [k1, k2]
theorem m_append_at {C : gCT} {d j : Nat} (hd : C 14 d 0 = nI j) (hj : j < 24) (v w : Int32) : m_append C d v w = cs (cs (cs C 15 d j v) 16 d j w) 14 d 0 (nI (j + 1)) := by
  unfold m_append
  dsimp only
  have hf : (m_isFull C d).1 = 0 := by
    unfold m_isFull
    dsimp only
    rw [hd, if_pos ((nat_lt rfl (show (24 : Int32) = nI 24 from rfl) (by omega) (by decide)).mpr hj)]
  rw [hf, if_pos rfl, m_isFull_C, cs_k _ _ _ _ (show (14 : Nat) ≠ 15 by decide), hd, nI_clamp (by omega), cs_k _ _ _ _ (show (14 : Nat) ≠ 16 by decide), cs_k _ _ _ _ (show (14 : Nat) ≠ 15 by decide), hd, nI_1]
theorem s_write {n : Nat} {C M : gCT} (hI : gInv C) (hB : MBI M) (h : sRel n C M) (x y z : Int32) : sOk n C (m_write C x y z).1 (w_out C (m_write C x y z)) (q_write M x y z) := by
  unfold m_write q_write
  dsimp only
  by_cases c : q_isBelow x 4 = 0
  · rw [formNo c, if_neg n1_ne, thr1 _ _ c, goes_no one_ne]
    exact sOk_no 1 (by decide) h
  obtain ⟨-, hx⟩ := q_isBelow_of (N := 4) rfl (by decide) c
  rw [formYes c, if_pos rfl, if_neg c, fit_eq]
  by_cases c1 : m_isWithin y 0 12 = 0
  · rw [if_pos c1, if_pos c1, thr2 _ c rfl, goes_no (by decide)]
    exact sOk_no 2 (by decide) h
  rw [if_neg c1, if_neg c1]
  by_cases c2 : m_isWithin z (m_at gLeast 13 y) (m_at gMost 13 y) = 0
  · rw [if_pos c2, if_pos c2, thr2 _ c rfl, goes_no (by decide)]
    exact sOk_no 2 (by decide) h
  rw [if_neg c2, if_neg c2]
  obtain ⟨hv6, hv, j, hj, hjd⟩ := hI.vn hx
  have hF := h.2.1 _ hx
  have ed : C 14 (8 * x.toNatClampNeg + gVn C x.toNatClampNeg + 1) 0 = M 21 2 x.toNatClampNeg := hF.2.2.1.1
  have eM : M 21 2 x.toNatClampNeg = nI j := ed.symm.trans hjd
  have eV : (C 4 x.toNatClampNeg 0).toNatClampNeg = gVn C x.toNatClampNeg := rfl
  rw [eV, eM]
  unfold m_isFull
  dsimp only
  rw [hjd]
  by_cases c3 : j < 24
  · rw [if_pos ((nat_lt rfl (show (24 : Int32) = nI 24 from rfl) (by omega) (by decide)).mpr c3), if_neg (fun q => absurd ((nat_le (show (24 : Int32) = nI 24 from rfl) rfl (by decide) (by omega)).mp q) (by omega)), if_pos rfl, thr0 c one_ne one_ne, goes_yes, m_append_at hjd c3, nI_clamp (by omega)]
    have e4 : ∀ f, cs (cs (cs C 15 (8 * x.toNatClampNeg + gVn C x.toNatClampNeg + 1) j y) 16 (8 * x.toNatClampNeg + gVn C x.toNatClampNeg + 1) j z) 14 (8 * x.toNatClampNeg + gVn C x.toNatClampNeg + 1) 0 (nI (j + 1)) 4 f = C 4 f := fun f => by rw [cs_k _ _ _ _ (by decide), cs_k _ _ _ _ (by decide), cs_k _ _ _ _ (by decide)]
    rw [show cs (cs (cs C 15 (8 * x.toNatClampNeg + gVn C x.toNatClampNeg + 1) j y) 16 (8 * x.toNatClampNeg + gVn C x.toNatClampNeg + 1) j z) 14 (8 * x.toNatClampNeg + gVn C x.toNatClampNeg + 1) 0 (nI (j + 1)) 4 x.toNatClampNeg 0 = C 4 x.toNatClampNeg 0 by rw [e4], eV, cs_s, nI_1]
    generalize hdd : 8 * x.toNatClampNeg + gVn C x.toNatClampNeg + 1 = d at e4 ed hjd ⊢
    have hD : ∀ κ, κ ≠ 14 → κ ≠ 15 → κ ≠ 16 → cs (cs (cs C 15 d j y) 16 d j z) 14 d 0 (nI (j + 1)) κ = C κ := fun κ h1 h2 h3 => by rw [cs_k _ _ _ _ h1, cs_k _ _ _ _ h3, cs_k _ _ _ _ h2]
    have hN : ∀ k, k ≠ 0 → k ≠ 1 → k ≠ 2 → cs (cs (cs (cs M 20 0 3 0) 21 0 (24 * x.toNatClampNeg + j) y) 21 1 (24 * x.toNatClampNeg + j) z) 21 2 x.toNatClampNeg (nI (j + 1)) 21 k = M 21 k := fun k h0 h1 h2 => by rw [cs_n _ _ _ _ h2, cs_n _ _ _ _ h1, cs_n _ _ _ _ h0, cs_k _ _ _ _ (by decide)]
    have hrc : gRc (cs (cs (cs C 15 d j y) 16 d j z) 14 d 0 (nI (j + 1))) = gRc C := by unfold gRc; rw [hD 2 (by decide) (by decide) (by decide)]
    have hV : gVn (cs (cs (cs C 15 d j y) 16 d j z) 14 d 0 (nI (j + 1))) = gVn C := by funext f; unfold gVn; rw [e4]
    refine sOk_yes (by rw [hrc]; exact hI.1) (sRel.up ?_) (by rw [cs_rd, if_neg (by omega), cs_rd, if_neg (by omega), cs_rd, if_neg (by omega), cs_s]) rfl
    have hdn : ∀ f w, f < 4 → w < gVn C f → 8 * f + w + 1 ≠ d := by
      intro f w hf hw e
      have := (hI.vn hf).1
      by_cases e2 : f = x.toNatClampNeg
      · subst e2; omega
      · omega
    obtain ⟨⟨a, k1, k2, k3, k4⟩, k5, k6, k7, k8, k9⟩ := h
    refine ⟨⟨a, k1, ?_, ?_, fun r hr => ?_⟩, fun f hf => ?_, ?_, ?_, ?_, ?_⟩
    · rw [cs_rd, if_neg (by omega), cs_rd, if_neg (by omega), cs_rd, if_neg (by omega), cs_o _ _ _ _ (by decide)]; exact k2
    · rw [hrc, hN 33 (by decide) (by decide) (by decide), hN 30 (by decide) (by decide) (by decide)]; exact k3
    · rw [hrc] at hr
      refine sU_gen hI hr (fun f => by rw [hV]; exact Nat.le_refl _) ?_ (fun f w hf hw => ?_) (rSm.all (fun k hk => hN k (by omega) (by omega) (by omega)) r) (rLf_cong a 0 (fun j _ => by unfold rT; rw [hN 30 (by decide) (by decide) (by decide), hN 31 (by decide) (by decide) (by decide), hN 32 (by decide) (by decide) (by decide), hN 33 (by decide) (by decide) (by decide)]; exact ⟨rfl, rfl⟩)) (k4 r hr)
      · unfold cSm cT
        rw [hD 11 (by decide) (by decide) (by decide), hD 12 (by decide) (by decide) (by decide), hD 2 (by decide) (by decide) (by decide), hD 13 (by decide) (by decide) (by decide), hD 7 (by decide) (by decide) (by decide), hD 8 (by decide) (by decide) (by decide), hD 9 (by decide) (by decide) (by decide), hD 10 (by decide) (by decide) (by decide)]
        exact ⟨rfl, rfl, rfl, fun _ _ => rfl, rfl, rfl, rfl, rfl⟩
      · have e := hdn f w hf hw
        refine ⟨?_, ?_, ?_⟩
        · rw [cs_k _ _ _ _ (by decide), cs_k _ _ _ _ (by decide), cs_n _ _ _ _ e]
        · rw [cs_k _ _ _ _ (by decide), cs_n _ _ _ _ e, cs_k _ _ _ _ (by decide)]
        · rw [cs_n _ _ _ _ e, cs_k _ _ _ _ (by decide), cs_k _ _ _ _ (by decide)]
    · have hF := k5 f hf
      obtain ⟨f1, f2, ⟨f3, f4⟩, f5⟩ := hF
      unfold sF sCd
      rw [hV]
      refine ⟨?_, ?_, ⟨?_, fun i hi => ?_⟩, fun w hw => ⟨?_, fun i hi => ?_⟩⟩
      · rw [e4, hN 6 (by decide) (by decide) (by decide), hN 7 (by decide) (by decide) (by decide), hN 8 (by decide) (by decide) (by decide)]; exact f1
      · rw [hD 5 (by decide) (by decide) (by decide), hD 6 (by decide) (by decide) (by decide), hN 9 (by decide) (by decide) (by decide), hN 10 (by decide) (by decide) (by decide)]; exact f2
      · by_cases e : f = x.toNatClampNeg
        · subst e
          rw [hdd, cs_s, cs_s]
        · have e2 : 8 * f + gVn C f + 1 ≠ d := by have := (hI.vn hf).1; omega
          rw [cs_n _ _ _ _ e2, cs_rd _ _ _ _ _ 21 2 f, if_neg (fun q => e q.2.2), cs_k _ _ _ _ (by decide), cs_k _ _ _ _ (by decide), cs_n _ _ _ _ (by decide), cs_n _ _ _ _ (by decide), cs_k _ _ _ _ (by decide)]
          exact f3
      · by_cases e : f = x.toNatClampNeg
        · subst e
          rw [cs_s, nI_clamp (by omega)] at hi
          have f4' : i < j → C 15 d i = M 21 0 (24 * x.toNatClampNeg + i) ∧ C 16 d i = M 21 (0 + 1) (24 * x.toNatClampNeg + i) := fun hij => by
            have := f4 i (by rw [eM, nI_clamp (by omega)]; exact hij)
            rwa [hdd] at this
          rw [hdd]
          by_cases ei : i = j
          · subst ei
            refine ⟨?_, ?_⟩
            · rw [cs_k _ _ _ _ (by decide), cs_k _ _ _ _ (by decide), cs_s, cs_n _ _ _ _ (by decide), cs_n _ _ _ _ (by decide), cs_s]
            · rw [cs_k _ _ _ _ (by decide), cs_s, cs_n _ _ _ _ (by decide), cs_s]
          · obtain ⟨g1, g2⟩ := f4' (by omega)
            refine ⟨?_, ?_⟩
            · rw [cs_k _ _ _ _ (by decide), cs_k _ _ _ _ (by decide), cs_o _ _ _ _ ei, cs_n _ _ _ _ (by decide), cs_n _ _ _ _ (by decide), cs_o _ _ _ _ (by omega), cs_k _ _ _ _ (by decide)]
              exact g1
            · rw [cs_k _ _ _ _ (by decide), cs_o _ _ _ _ ei, cs_k _ _ _ _ (by decide), cs_n _ _ _ _ (by decide), cs_o _ _ _ _ (by omega), cs_n _ _ _ _ (by decide), cs_k _ _ _ _ (by decide)]
              exact g2
        · have e2 : 8 * f + gVn C f + 1 ≠ d := by have := (hI.vn hf).1; omega
          rw [cs_rd _ _ _ _ _ 21 2 f, if_neg (fun q => e q.2.2), cs_n _ _ _ _ (by decide), cs_n _ _ _ _ (by decide), cs_k _ _ _ _ (by decide)] at hi
          have hi24 : i < 24 := by
            obtain ⟨dd, g1, g2⟩ := hB.1 2 f hf (by decide)
            have g1 : dd < 25 := g1
            rw [g2, nI_clamp (by omega)] at hi
            omega
          obtain ⟨g1, g2⟩ := f4 i hi
          refine ⟨?_, ?_⟩
          · rw [cs_k _ _ _ _ (by decide), cs_k _ _ _ _ (by decide), cs_n _ _ _ _ e2, cs_n _ _ _ _ (by decide), cs_n _ _ _ _ (by decide), cs_o _ _ _ _ (by omega), cs_k _ _ _ _ (by decide)]
            exact g1
          · rw [cs_k _ _ _ _ (by decide), cs_n _ _ _ _ e2, cs_k _ _ _ _ (by decide), cs_n _ _ _ _ (by decide), cs_o _ _ _ _ (by omega), cs_n _ _ _ _ (by decide), cs_k _ _ _ _ (by decide)]
            exact g2
      · have e := hdn f w hf hw
        rw [cs_n _ _ _ _ e, cs_k _ _ _ _ (by decide), cs_k _ _ _ _ (by decide), hN 5 (by decide) (by decide) (by decide)]
        exact (f5 w hw).1
      · have e := hdn f w hf hw
        rw [hN 5 (by decide) (by decide) (by decide)] at hi
        rw [hN 3 (by decide) (by decide) (by decide), hN (3 + 1) (by decide) (by decide) (by decide), cs_k _ _ _ _ (by decide), cs_k _ _ _ _ (by decide), cs_n _ _ _ _ e, cs_k _ _ _ _ (by decide), cs_n _ _ _ _ e, cs_k _ _ _ _ (by decide)]
        exact (f5 w hw).2 i hi
    · rw [hD 17 (by decide) (by decide) (by decide), hD 18 (by decide) (by decide) (by decide), hD 19 (by decide) (by decide) (by decide), hN 11 (by decide) (by decide) (by decide), hN 12 (by decide) (by decide) (by decide), hN 13 (by decide) (by decide) (by decide)]
      exact k6
    · rw [hD 0 (by decide) (by decide) (by decide), cs_rd, if_neg (by omega), cs_rd, if_neg (by omega), cs_rd, if_neg (by omega), cs_o _ _ _ _ (by decide)]; exact k7
    · rw [hD 2 (by decide) (by decide) (by decide), cs_rd, if_neg (by omega), cs_rd, if_neg (by omega), cs_rd, if_neg (by omega), cs_o _ _ _ _ (by decide)]; exact k8
    · rw [hrc, hN 26 (by decide) (by decide) (by decide)]; exact k9
  · rw [if_neg (fun q => c3 ((nat_lt rfl (show (24 : Int32) = nI 24 from rfl) (by omega) (by decide)).mp q)), if_pos ((nat_le (show (24 : Int32) = nI 24 from rfl) rfl (by decide) (by omega)).mpr (by omega)), if_neg one_ne, thr3 c one_ne rfl, goes_no (by decide)]
    exact sOk_no 3 (by decide) h

/-! ===== the class's state and the reference's ===== -/
/-- a code: its length, its instructions and arguments -/
def sCd (C M : gCT) (d : Nat) (len : Int32) (k b : Nat) : Prop := C 14 d 0 = len ∧ ∀ j, j < len.toNatClampNeg → C 15 d j = M 21 k (b + j) ∧ C 16 d j = M 21 (k + 1) (b + j)
def sF (C M : gCT) (f : Nat) : Prop := (C 4 f 0 = M 21 6 f ∧ C 4 f 1 = M 21 7 f ∧ C 4 f 2 = M 21 8 f) ∧ (∀ p, p < 4 → C 5 f p = M 21 9 (4 * f + p) ∧ C 6 f p = M 21 10 (4 * f + p)) ∧ sCd C M (8 * f + gVn C f + 1) (M 21 2 f) 0 (24 * f) ∧ ∀ w, w < gVn C f → sCd C M (8 * f + w + 1) (M 21 5 (6 * f + w)) 3 (24 * (6 * f + w))
def sMa (C M : gCT) (r : Nat) : Prop := (M 21 20 r = C 7 r 0 ∧ M 21 18 r = C 7 r 1 ∧ M 21 23 r = C 7 r 2 ∧ M 21 22 r = C 7 r 3) ∧ (C 7 r 4 = 0 → M 21 25 r = C 7 r 5) ∧ (∀ j, j < 8 → M 21 21 (8 * r + j) = C 9 r j) ∧ (∀ q, q < 16 → M 21 28 (16 * r + q) = C 10 r q) ∧ ∀ j, j < 8 → j < (C 7 r 0).toNatClampNeg → M 21 19 (8 * r + j) = C 8 r j
def sCt (C : gCT) (r : Nat) : Nat → Nat := fun q => cntR (nI q) (C 12 r q) (cLf C r 0 (gCnt C r))
def sU (C M : gCT) (a r : Nat) : Prop :=
  (∃ f v : Nat, f < 4 ∧ C 11 r 6 = nI f ∧ M 21 16 r = nI f ∧ v < gVn C f ∧ C 11 r 2 = nI v ∧ M 21 17 r = nI v ∧ C 11 r 7 = nI (8 * f + v + 1)) ∧
  (∃ p : Nat, p < 16 ∧ C 11 r 0 = nI p ∧ M 21 15 r = nI p ∧ C 11 r 1 = nI (p % 4)) ∧
  (C 11 r 5 = M 21 26 r ∧ C 11 r 4 = M 21 24 r ∧ (((C 11 r 4 = 0 ∨ C 11 r 4 = 1 ∨ C 11 r 4 = 6) ∧ C 7 r 4 = 0) ∨ (C 11 r 4 = C 7 r 4 ∧ (C 7 r 4 = 2 ∨ C 7 r 4 = 3 ∨ C 7 r 4 = 4 ∨ C 7 r 4 = 5)))) ∧
  sMa C M r ∧ (∀ q, q < 16 → C 12 r q = M 21 27 (16 * r + q)) ∧ cLf C r 0 (gCnt C r) = rLf M r 0 a ∧
  (aI (aGet C r) ∧ aK (sCt C r) (aGet C r)) ∧ ∃ F : Nat, F ≤ 200 ∧ C 11 r 3 = nI F ∧ gReach (envC C r) (nI F) (aGet C r)
def sRel (n : Nat) (C M : gCT) : Prop := (∃ a : Nat, a ≤ n ∧ M 20 0 2 = nI a ∧ (∀ k, k < a → (∃ v : Nat, v < 10 ∧ M 21 33 k = nI v) ∧ ∃ r : Nat, r < gRc C ∧ M 21 30 k = nI r) ∧ ∀ r, r < gRc C → sU C M a r) ∧ (∀ f, f < 4 → sF C M f) ∧ (∀ q, q < 16 → C 17 0 q = M 21 11 q ∧ C 18 0 q = M 21 12 q ∧ C 19 0 q = M 21 13 q) ∧ C 0 0 0 = M 20 0 0 ∧ C 2 24 1 = M 20 0 1 ∧ ∀ r, gRc C ≤ r → r < 24 → M 21 26 r = 0
theorem sU_congC {C D M : gCT} {a r : Nat} (h1 : ∀ κ, κ ≠ 22 → (κ < 7 ∨ 10 < κ) → D κ = C κ) (h2 : ∀ κ, κ ≠ 22 → D κ r = C κ r) (h : sU C M a r) : sU D M a r := by
  have e11 := h1 11 (by decide) (by decide)
  have e12 := h1 12 (by decide) (by decide)
  have e13 := h1 13 (by decide) (by decide)
  have e2 := h1 2 (by decide) (by decide)
  have e4 := h1 4 (by decide) (by decide)
  have e7 := h2 7 (by decide)
  have e8 := h2 8 (by decide)
  have e9 := h2 9 (by decide)
  have e10 := h2 10 (by decide)
  have eG : gCnt D r = gCnt C r := by unfold gCnt; rw [e2]
  have eV : gVn D = gVn C := by funext f; unfold gVn; rw [e4]
  have eL : cLf D r 0 (gCnt C r) = cLf C r 0 (gCnt C r) := cLf_cong _ _ (fun j _ => by unfold cT; rw [e13])
  have eE : envC D r = envC C r := envC_cong (by rw [e12]) (by rw [e2]) e13 (by rw [e11]) (h1 15 (by decide) (by decide)) (h1 16 (by decide) (by decide)) (h1 14 (by decide) (by decide))
  have eS : sCt D r = sCt C r := by unfold sCt; rw [eG, eL, e12]
  unfold sU sMa aGet at h ⊢
  rw [e11, e12, e7, e8, e9, e10, eG, eV, eL, eE, eS]
  exact h
theorem sF_congC {C D M : gCT} {f : Nat} (h1 : ∀ κ, κ ≠ 22 → (κ < 7 ∨ 10 < κ) → D κ = C κ) (h : sF C M f) : sF D M f := by
  have e4 := h1 4 (by decide) (by decide)
  have eV : gVn D = gVn C := by funext f; unfold gVn; rw [e4]
  unfold sF sCd at h ⊢
  rw [e4, eV, h1 5 (by decide) (by decide), h1 6 (by decide) (by decide), h1 14 (by decide) (by decide), h1 15 (by decide) (by decide), h1 16 (by decide) (by decide)]
  exact h
theorem sRel_congC {n : Nat} {C D M : gCT} (hrc : gRc C ≤ 24) (h1 : ∀ κ, κ ≠ 22 → (κ < 7 ∨ 10 < κ) → D κ = C κ) (h2 : ∀ κ r, κ ≠ 22 → r ≠ 24 → D κ r = C κ r) (h : sRel n C M) : sRel n D M := by
  have eR : gRc D = gRc C := by unfold gRc; rw [h1 2 (by decide) (by decide)]
  obtain ⟨⟨a, k1, k2, k3, k4⟩, k5, k6, k7, k8, k9⟩ := h
  refine ⟨⟨a, k1, k2, by rw [eR]; exact k3, fun r hr => ?_⟩, fun f hf => sF_congC h1 (k5 f hf), ?_, ?_, ?_, by rw [eR]; exact k9⟩
  · rw [eR] at hr
    exact sU_congC h1 (fun κ hk => h2 κ r hk (by omega)) (k4 r hr)
  · rw [h1 17 (by decide) (by decide), h1 18 (by decide) (by decide), h1 19 (by decide) (by decide)]
    exact k6
  · rw [h1 0 (by decide) (by decide)]; exact k7
  · rw [h1 2 (by decide) (by decide)]; exact k8
theorem rLf_21 {M N : gCT} (h : N 21 = M 21) (r k m : Nat) : rLf N r k m = rLf M r k m := rLf_cong m k (fun j _ => by unfold rT; rw [h]; exact ⟨rfl, rfl⟩)
theorem sRel_congM {n : Nat} {C M N : gCT} (h21 : N 21 = M 21) (h0 : N 20 0 0 = M 20 0 0) (h1 : N 20 0 1 = M 20 0 1) (h2 : N 20 0 2 = M 20 0 2) (h : sRel n C M) : sRel n C N := by
  obtain ⟨⟨a, k1, k2, k3, k4⟩, k5, k6, k7, k8, k9⟩ := h
  refine ⟨⟨a, k1, h2.trans k2, by rw [h21]; exact k3, fun r hr => ?_⟩, fun f hf => ?_, by rw [h21]; exact k6, k7.trans h0.symm, k8.trans h1.symm, by rw [h21]; exact k9⟩
  · have := k4 r hr
    unfold sU sMa at this ⊢
    rw [h21, rLf_21 h21]
    exact this
  · have := k5 f hf
    unfold sF sCd at this ⊢
    rw [h21]
    exact this
theorem sRel.thr {n : Nat} {C M : gCT} (h : sRel n C M) (t : Int32) : sRel n C (cs M 20 0 3 t) := sRel_congM (cs_k _ _ _ _ (by decide)) (cs_o _ _ _ _ (by decide)) (cs_o _ _ _ _ (by decide)) (cs_o _ _ _ _ (by decide)) h
theorem sRel.up {n : Nat} {C M : gCT} (h : sRel n C M) : sRel (n + 1) C M := by
  obtain ⟨⟨a, k1, k2⟩, k3⟩ := h
  exact ⟨⟨a, by omega, k2⟩, k3⟩
theorem sRel.c22 {n : Nat} {C M : gCT} (hrc : gRc C ≤ 24) (h : sRel n C M) (v : Int32) : sRel n (cs C 22 0 0 v) M := sRel_congC hrc (fun κ hk _ => cs_k _ _ _ _ hk) (fun κ r hk _ => by rw [cs_k _ _ _ _ hk]) h
/-- a call, on both sides: what was thrown, what was answered, and the states after it -/
def sOk (n : Nat) (C : gCT) (k : Nat) (D : gCT) (q : Int32 × gCT) : Prop := q.2 20 0 3 = nI k ∧ (k = 0 → D 22 0 0 = q.1) ∧ sRel (n + 1) D q.2
theorem isB (x : Int32) {c : Nat} (hc : c < 2 ^ 31) : m_isWithin x 0 (nI c - 1) = q_isBelow x (nI c) := by
  have h5 : (nI c - 1).toInt = (nI c).toInt - (1 : Int32).toInt := sub_toInt' (by rw [nI_toInt hc]; simp; omega) (by rw [nI_toInt hc]; simp; omega)
  rw [nI_toInt hc] at h5
  unfold m_isWithin q_isBelow
  by_cases h1 : x < 0
  · rw [if_pos h1, if_pos h1]
  · rw [if_neg h1, if_neg h1]
    have e : (nI c - 1 < x) = (nI c ≤ x) := by
      refine propext ⟨fun h => ?_, fun h => ?_⟩
      · have h2 := Int32.lt_iff_toInt_lt.mp h
        refine Int32.le_iff_toInt_le.mpr ?_
        rw [nI_toInt hc]
        rw [h5] at h2
        simp at h2
        omega
      · have h2 := Int32.le_iff_toInt_le.mp h
        refine Int32.lt_iff_toInt_lt.mpr ?_
        rw [h5]
        rw [nI_toInt hc] at h2
        simp
        omega
    by_cases h2 : nI c ≤ x
    · rw [if_pos (by rw [e]; exact h2), if_pos h2]
    · rw [if_neg (by rw [e]; exact h2), if_neg h2]
theorem isB4 (x : Int32) : m_isWithin x 0 3 = q_isBelow x 4 := isB x (c := 4) (by decide)
theorem isB8 (x : Int32) : m_isWithin x 0 7 = q_isBelow x 8 := isB x (c := 8) (by decide)
theorem isB16 (x : Int32) : m_isWithin x 0 15 = q_isBelow x 16 := isB x (c := 16) (by decide)
theorem formAt_eq (C : gCT) (x : Int32) : m_formAt C x = if q_isBelow x 4 = 0 then 1 else 0 := by
  unfold m_formAt
  dsimp only
  rw [isB4]
theorem runAt_eq {C M : gCT} (hI : gInv C) (h : C 2 24 1 = M 20 0 1) (x : Int32) : m_runAt C x = if (q_isRun M x).1 = 0 then 1 else 0 := by
  have hc : C 2 24 1 = nI (gRc C) := (hI.cnt (Or.inr rfl)).1
  have h24 := hI.1
  unfold m_runAt
  dsimp only
  rw [q_isRun_1, ← h, hc, isB x (by omega)]
theorem isW_eq (a b c : Int32) : q_isWithin a b c = m_isWithin a b c := rfl
theorem m_isW_01 (a b c : Int32) : m_isWithin a b c = 0 ∨ m_isWithin a b c = 1 := by
  unfold m_isWithin
  split
  · exact Or.inl rfl
  · split
    · exact Or.inl rfl
    · exact Or.inr rfl

/-! ===== what holds of the class's state, n calls done, fd cents funded ===== -/
def sm (g : Nat → Int32) : Nat → Int32
  | 0 => 0
  | n + 1 => sm g n + g n
theorem sm_cong {f g : Nat → Int32} : ∀ {n : Nat}, (∀ j, j < n → f j = g j) → sm f n = sm g n := by
  intro n
  induction n with
  | zero => intro _; rfl
  | succ n ih =>
    intro h
    show sm f n + f n = sm g n + g n
    rw [ih (fun j hj => h j (by omega)), h n (by omega)]
theorem sm_one {f g : Nat → Int32} {i : Nat} {v : Int32} : ∀ {n : Nat}, i < n → (∀ j, j < n → j ≠ i → g j = f j) → g i = f i + v → sm g n = sm f n + v := by
  intro n
  induction n with
  | zero => intro h; omega
  | succ n ih =>
    intro hi h he
    show sm g n + g n = sm f n + f n + v
    by_cases e : i = n
    · subst e
      rw [sm_cong (f := g) (g := f) (fun j hj => h j (by omega) (by omega)), he, Int32.add_assoc]
    · rw [ih (by omega) (fun j hj => h j (by omega)) he, h n (by omega) (fun z => e z.symm), Int32.add_assoc, Int32.add_assoc, Int32.add_comm v]
def kT (n : Nat) (t : aT) : Prop := ∃ q w v : Nat, q < 16 ∧ w ≤ n ∧ v < 10 ∧ t = (nI q, nI w, nI v)
def kC (C : gCT) (d : Nat) : Prop := ∃ len : Nat, len ≤ 24 ∧ C 14 d 0 = nI len ∧ ∀ j, j < len → gFit (C 15 d j) (C 16 d j)
def kF (C : gCT) : Prop := ∀ f, f < 4 → (∃ F : Nat, 1 ≤ F ∧ F ≤ 200 ∧ C 4 f 1 = nI F) ∧ (∀ p, p < 4 → ∃ q : Nat, q ≤ 20 ∧ C 5 f p = nI q) ∧ ∀ w, w ≤ gVn C f → kC C (8 * f + w + 1)
def kQ (n : Nat) (C : gCT) : Prop := ∀ q, q < 16 → (∃ c : Nat, c ≤ 1000 ∧ C 17 0 q = nI c) ∧ ∃ w : Nat, w ≤ n ∧ C 18 0 q = nI w
def kS (C : gCT) (r : Nat) : Prop := (((C 11 r 4 = 0 ∨ C 11 r 4 = 1 ∨ C 11 r 4 = 6) ∧ C 7 r 4 = 0) ∨ (C 11 r 4 = C 7 r 4 ∧ (C 7 r 4 = 2 ∨ C 7 r 4 = 3 ∨ C 7 r 4 = 4 ∨ C 7 r 4 = 5)))
/-- whose run it is, what it was asked and was paid -/
def kR (n : Nat) (C : gCT) (r : Nat) : Prop :=
  (∃ f v : Nat, f < 4 ∧ C 11 r 6 = nI f ∧ v < gVn C f ∧ C 11 r 2 = nI v ∧ C 11 r 7 = nI (8 * f + v + 1)) ∧ (∃ p : Nat, p < 16 ∧ C 11 r 0 = nI p ∧ C 11 r 1 = nI (p % 4)) ∧
  (∀ q, q < 16 → ∃ w : Nat, w ≤ n ∧ C 12 r q = nI w) ∧ (∀ j, j < gCnt C r → kT n (cT C r j)) ∧ ∃ d : Nat, d ≤ 1000 * n ∧ C 11 r 5 = nI d
/-- its machine -/
def kN (C : gCT) (r : Nat) : Prop := (aI (aGet C r) ∧ aK (sCt C r) (aGet C r) ∧ a9 0 (aGet C r)) ∧ ∃ F : Nat, F ≤ 200 ∧ C 11 r 3 = nI F ∧ gReach (envC C r) (nI F) (aGet C r)
def kU (n : Nat) (C : gCT) (r : Nat) : Prop := kR n C r ∧ kS C r ∧ kN C r
def kM (n : Nat) (fd : Int32) (C : gCT) : Prop := (∀ q, q < 16 → ∃ m : Nat, m ≤ 800000 * n ∧ C 19 0 q = nI m) ∧ (∀ f, f < 4 → ∃ b : Nat, b ≤ 800000 * n ∧ C 4 f 2 = nI b) ∧ sm (C 19 0) 16 + sm (fun f => C 4 f 2) 4 = fd + C 0 0 0
def kE (C : gCT) (r : Nat) : Int32 := if C 11 r 4 = 2 then 1 else 0
def kD (C : gCT) : Prop := sm (fun k => C 6 (k / 4) (k % 4)) 16 = sm (kE C) (gRc C)
def kJ (n : Nat) (fd : Int32) (C : gCT) : Prop := gInv C ∧ kF C ∧ kQ n C ∧ (∀ r, r < gRc C → kU n C r) ∧ kM n fd C ∧ kD C
theorem kT.up {n m : Nat} {t : aT} (h : kT n t) (hm : n ≤ m) : kT m t := by
  obtain ⟨q, w, v, h1, h2, h3, h4⟩ := h
  exact ⟨q, w, v, h1, by omega, h3, h4⟩
theorem kQ.up {n m : Nat} {C : gCT} (h : kQ n C) (hm : n ≤ m) : kQ m C := fun q hq => by
  obtain ⟨h1, w, h2, h3⟩ := h q hq
  exact ⟨h1, w, by omega, h3⟩
theorem kR.up {n m : Nat} {C : gCT} {r : Nat} (h : kR n C r) (hm : n ≤ m) : kR m C r := by
  obtain ⟨h1, h2, h3, h4, d, h5, h6⟩ := h
  refine ⟨h1, h2, fun q hq => ?_, fun j hj => (h4 j hj).up hm, d, by omega, h6⟩
  obtain ⟨w, k1, k2⟩ := h3 q hq
  exact ⟨w, by omega, k2⟩
theorem kM.up {n m : Nat} {fd : Int32} {C : gCT} (h : kM n fd C) (hm : n ≤ m) : kM m fd C := by
  obtain ⟨h1, h2, h3⟩ := h
  refine ⟨fun q hq => ?_, fun f hf => ?_, h3⟩
  · obtain ⟨k, k1, k2⟩ := h1 q hq
    exact ⟨k, by omega, k2⟩
  · obtain ⟨k, k1, k2⟩ := h2 f hf
    exact ⟨k, by omega, k2⟩
theorem kU.up {n m : Nat} {C : gCT} {r : Nat} (h : kU n C r) (hm : n ≤ m) : kU m C r := ⟨h.1.up hm, h.2⟩
theorem kJ.up {n m : Nat} {fd : Int32} {C : gCT} (h : kJ n fd C) (hm : n ≤ m) : kJ m fd C := ⟨h.1, h.2.1, h.2.2.1.up hm, fun r hr => (h.2.2.2.1 r hr).up hm, h.2.2.2.2.1.up hm, h.2.2.2.2.2⟩
/-! ===== frames ===== -/
theorem kR_gen {n : Nat} {C D : gCT} {r : Nat} (hV : ∀ f, gVn C f ≤ gVn D f) (h11 : ∀ j, j ≠ 4 → D 11 r j = C 11 r j) (h12 : ∀ q, q < 16 → D 12 r q = C 12 r q) (h2 : D 2 r 1 = C 2 r 1) (h13 : ∀ j, j < gCnt C r → cT D r j = cT C r j) (h : kR n C r) : kR n D r := by
  obtain ⟨⟨f, v, k1, k2, k3, k4, k5⟩, ⟨p, p1, p2, p3⟩, k6, k7, d, k8, k9⟩ := h
  have eG : gCnt D r = gCnt C r := by unfold gCnt; rw [h2]
  refine ⟨⟨f, v, k1, (h11 6 (by decide)).trans k2, Nat.lt_of_lt_of_le k3 (hV f), (h11 2 (by decide)).trans k4, (h11 7 (by decide)).trans k5⟩, ⟨p, p1, (h11 0 (by decide)).trans p2, (h11 1 (by decide)).trans p3⟩, fun q hq => ?_, fun j hj => ?_, d, k8, (h11 5 (by decide)).trans k9⟩
  · rw [h12 q hq]; exact k6 q hq
  · rw [eG] at hj
    rw [h13 j hj]; exact k7 j hj
theorem kU_gen {n : Nat} {C D : gCT} {r : Nat} (hI : gInv C) (hr : r < gRc C) (hV : ∀ f, gVn C f ≤ gVn D f) (hC : cSm C D r) (hcd : ∀ f w, f < 4 → w < gVn C f → D 15 (8 * f + w + 1) = C 15 (8 * f + w + 1) ∧ D 16 (8 * f + w + 1) = C 16 (8 * f + w + 1) ∧ D 14 (8 * f + w + 1) 0 = C 14 (8 * f + w + 1) 0) (h : kU n C r) : kU n D r := by
  obtain ⟨h11, h12, h2, h13, h7, h8, h9, h10⟩ := hC
  obtain ⟨hR, hS, ⟨i1, i2, i3⟩, F, f1, f2, f3⟩ := h
  refine ⟨kR_gen hV (fun j _ => by rw [h11]) (fun q _ => by rw [h12]) h2 h13 hR, ?_, ?_⟩
  · unfold kS at hS ⊢
    rw [h11, h7]; exact hS
  · obtain ⟨⟨f, v, k1, k2, k3, k4, k5⟩, -⟩ := hR
    have hcn := hI.cnt (Or.inl hr)
    have hv6 := (hI.vn k1).1
    have eG : gCnt D r = gCnt C r := by unfold gCnt; rw [h2]
    have eL : cLf D r 0 (gCnt C r) = cLf C r 0 (gCnt C r) := cLf_cong _ _ (fun j hj => h13 j (by omega))
    obtain ⟨q1, q2, q3⟩ := hcd f v k1 k3
    have eE : envC D r = envC C r := envC_cong2 (d := 8 * f + v + 1) (by rw [k5, nI_clamp (by omega)]) hcn.1 hcn.2.2.2.2.1 h12 h2 h13 (by rw [h11]) q1 q2 q3
    have eS : sCt D r = sCt C r := by unfold sCt; rw [eG, eL, h12]
    have eA : aGet D r = aGet C r := by unfold aGet; rw [h7, h8, h9, h10]
    unfold kN
    rw [h11, eE, eS, eA]
    exact ⟨⟨i1, i2, i3⟩, F, f1, f2, f3⟩
/-- only the forms' numbers, prices, wordings, money, counts change, or the spare machine -/
theorem kU_form {n : Nat} {C D : gCT} (hI : gInv C) (hD : ∀ κ, κ = 2 ∨ κ = 11 ∨ κ = 12 ∨ κ = 13 ∨ κ = 14 ∨ κ = 15 ∨ κ = 16 → D κ = C κ) (hM : ∀ κ r, κ = 7 ∨ κ = 8 ∨ κ = 9 ∨ κ = 10 → r ≠ 24 → D κ r = C κ r) (hV : ∀ f, D 4 f 0 = C 4 f 0) (h : ∀ r, r < gRc C → kU n C r) : ∀ r, r < gRc D → kU n D r := by
  intro r hr
  have eR : gRc D = gRc C := by unfold gRc; rw [hD 2 (by decide)]
  have eV : gVn D = gVn C := by funext f; unfold gVn; rw [hV f]
  rw [eR] at hr
  have h24 := hI.1
  refine kU_gen hI hr (fun f => by rw [eV]; exact Nat.le_refl _) ?_ (fun f w _ _ => by rw [hD 15 (by decide), hD 16 (by decide), hD 14 (by decide)]; exact ⟨rfl, rfl, rfl⟩) (h r hr)
  unfold cSm cT
  rw [hD 11 (by decide), hD 12 (by decide), hD 2 (by decide), hD 13 (by decide), hM 7 r (by decide) (by omega), hM 8 r (by decide) (by omega), hM 9 r (by decide) (by omega), hM 10 r (by decide) (by omega)]
  exact ⟨rfl, rfl, rfl, fun _ _ => rfl, rfl, rfl, rfl, rfl⟩
theorem kF_same {C D : gCT} (h4 : ∀ f, D 4 f 0 = C 4 f 0 ∧ D 4 f 1 = C 4 f 1) (h5 : D 5 = C 5) (h14 : D 14 = C 14) (h15 : D 15 = C 15) (h16 : D 16 = C 16) (h : kF C) : kF D := by
  have eV : gVn D = gVn C := by funext f; unfold gVn; rw [(h4 f).1]
  intro f hf
  have := h f hf
  unfold kC at this ⊢
  rw [eV, (h4 f).2, h5, h14, h15, h16]
  exact this
theorem kD_same {C D : gCT} (h2 : D 2 24 1 = C 2 24 1) (h6 : D 6 = C 6) (h11 : ∀ r, r < gRc C → D 11 r 4 = C 11 r 4) (h : kD C) : kD D := by
  have eR : gRc D = gRc C := by unfold gRc; rw [h2]
  unfold kD at h ⊢
  rw [eR, h6, h]
  exact sm_cong (fun r hr => by unfold kE; rw [h11 r hr])
theorem kM_same {n : Nat} {fd : Int32} {C D : gCT} (h19 : D 19 0 = C 19 0) (h4 : ∀ f, D 4 f 2 = C 4 f 2) (h0 : D 0 0 0 = C 0 0 0) (h : kM n fd C) : kM n fd D := by
  unfold kM at h ⊢
  rw [h19, h0]
  simp only [h4]
  exact h
theorem kQ_same {n : Nat} {C D : gCT} (h17 : D 17 = C 17) (h18 : D 18 = C 18) (h : kQ n C) : kQ n D := by
  unfold kQ at h ⊢
  rw [h17, h18]
  exact h

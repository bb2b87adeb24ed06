/-! ===== what lives, told by the state alone; the invariant ===== -/
def gRc (C : gCT) : Nat := (C 2 24 1).toNatClampNeg
def gCnt (C : gCT) (n : Nat) : Nat := (C 2 n 1).toNatClampNeg
def gCap (C : gCT) (n : Nat) : Nat := (C 2 n 2).toNatClampNeg
def gVn (C : gCT) (f : Nat) : Nat := (C 4 f 0).toNatClampNeg
def gLvO (C : gCT) : gLv := fun κ n => match κ with
  | 0 => n = 0
  | 1 => n = 0
  | 2 => n < gRc C ∨ n = 24
  | 3 => (n < gRc C ∨ n = 24) ∧ C 2 n 2 ≠ 0
  | 4 => n < 4
  | 5 => n < 4
  | 6 => n < 4
  | 7 => n < gRc C ∨ n = 24
  | 8 => n < gRc C ∨ n = 24
  | 9 => n < gRc C ∨ n = 24
  | 10 => n < gRc C ∨ n = 24
  | 11 => n < gRc C
  | 12 => n < gRc C
  | 13 => n / 1024 < gRc C ∧ n % 1024 < gCnt C (n / 1024)
  | 14 => n / 8 < 4 ∧ n % 8 ≤ gVn C (n / 8) + 1
  | 15 => n / 8 < 4 ∧ n % 8 ≤ gVn C (n / 8) + 1
  | 16 => n / 8 < 4 ∧ n % 8 ≤ gVn C (n / 8) + 1
  | 17 => n = 0
  | 18 => n = 0
  | 19 => n = 0
  | 22 => n < 3
  | _ => False
def gList (C : gCT) (n : Nat) : Prop := ∃ c cap : Nat, C 2 n 1 = nI c ∧ C 2 n 2 = nI cap ∧ c ≤ cap ∧ cap ≤ 2000 ∧ c ≤ 512 ∧ (cap ≠ 0 → C 3 n 0 = nI cap ∧ C 3 n 1 = nI c)
def gInv (C : gCT) : Prop := gRc C ≤ 24 ∧ (∀ n, n < gRc C ∨ n = 24 → gList C n) ∧ (∀ f, f < 4 → ∃ v : Nat, v ≤ 6 ∧ C 4 f 0 = nI v ∧ ∃ j : Nat, j ≤ 24 ∧ C 14 (8 * f + v + 1) 0 = nI j) ∧ ∀ r, r < gRc C → ∃ f d : Nat, f < 4 ∧ C 11 r 6 = nI f ∧ d / 8 < 4 ∧ d % 8 ≤ gVn C (d / 8) ∧ C 11 r 7 = nI d
theorem gInv.cnt {C : gCT} (h : gInv C) {n : Nat} (hn : n < gRc C ∨ n = 24) : C 2 n 1 = nI (gCnt C n) ∧ C 2 n 2 = nI (gCap C n) ∧ gCnt C n ≤ gCap C n ∧ gCap C n ≤ 2000 ∧ gCnt C n ≤ 512 ∧ (gCap C n ≠ 0 → C 3 n 0 = nI (gCap C n) ∧ C 3 n 1 = nI (gCnt C n)) := by
  obtain ⟨c, cap, h1, h2, h3, h4, h5, h6⟩ := h.2.1 n hn
  have e1 : gCnt C n = c := by unfold gCnt; rw [h1, nI_clamp (by omega)]
  have e2 : gCap C n = cap := by unfold gCap; rw [h2, nI_clamp (by omega)]
  rw [e1, e2]
  exact ⟨h1, h2, h3, h4, h5, h6⟩
theorem gInv.vn {C : gCT} (h : gInv C) {f : Nat} (hf : f < 4) : gVn C f ≤ 6 ∧ C 4 f 0 = nI (gVn C f) ∧ ∃ j : Nat, j ≤ 24 ∧ C 14 (8 * f + gVn C f + 1) 0 = nI j := by
  obtain ⟨v, h1, h2, h3⟩ := h.2.2.1 f hf
  have e1 : gVn C f = v := by unfold gVn; rw [h2, nI_clamp (by omega)]
  rw [e1]
  exact ⟨h1, h2, h3⟩
theorem gInv.gl {C : gCT} (h : gInv C) {n : Nat} (hn : n < gRc C ∨ n = 24) : gL (gLvO C) C n (gCnt C n) (gCap C n) := by
  obtain ⟨h1, h2, h3, h4, h5, h6⟩ := h.cnt hn
  exact ⟨hn, h1, h2, h3, h4, fun h0 => ⟨⟨hn, by rw [h2]; exact nI_ne0 (Nat.pos_of_ne_zero h0) (by omega)⟩, h6 h0⟩⟩
theorem gInv.code {C : gCT} {d : Nat} (h : d / 8 < 4 ∧ d % 8 ≤ gVn C (d / 8) + 1) : gCode (gLvO C) d := ⟨h, h, h⟩
theorem gInv.form {C : gCT} (h : gInv C) {f : Nat} (hf : f < 4) : gForm (gLvO C) C f := by
  obtain ⟨h1, h2, -⟩ := h.vn hf
  have e : (C 4 f 0).toNatClampNeg = gVn C f := rfl
  refine ⟨hf, hf, hf, ?_, ?_, gVn C f, h1, h2⟩
  · rw [e]
    refine gInv.code ?_
    rw [show (8 * f + gVn C f) / 8 = f by omega]
    omega
  · rw [e]
    refine gInv.code ?_
    rw [show (8 * f + gVn C f + 1) / 8 = f by omega]
    omega
theorem gInv.top {C : gCT} (h : gInv C) : gTop (gLvO C) C := ⟨rfl, rfl, rfl, rfl, rfl, ⟨Or.inr rfl, Or.inr rfl, Or.inr rfl, Or.inr rfl⟩, fun _ hf => h.form hf⟩
theorem gInv.run {C : gCT} (h : gInv C) {r : Nat} (hr : r < gRc C) : gRun (gLvO C) C r (gCnt C r) (gCap C r) ∧ gM (gLvO C) r ∧ (C 11 r 6).toNatClampNeg < 4 ∧ gCode (gLvO C) (C 11 r 7).toNatClampNeg := by
  obtain ⟨f, d, h1, h2, h3, h4, h5⟩ := h.2.2.2 r hr
  have hd : d < 32 := by omega
  have hc := (h.cnt (Or.inl hr)).2.2.2.2.1
  refine ⟨⟨by have := h.1; omega, hr, hr, h.gl (Or.inl hr), fun j hj => ?_⟩, ⟨Or.inl hr, Or.inl hr, Or.inl hr, Or.inl hr⟩, by rw [h2, nI_clamp (by omega)]; exact h1, ?_⟩
  · show (1024 * r + j) / 1024 < gRc C ∧ (1024 * r + j) % 1024 < gCnt C ((1024 * r + j) / 1024)
    rw [show (1024 * r + j) / 1024 = r by omega]
    exact ⟨hr, by omega⟩
  · rw [h5, nI_clamp (by omega)]
    exact gInv.code ⟨h3, by omega⟩
theorem gInv.rc {C : gCT} : (C 2 24 1).toNatClampNeg = gRc C := rfl
theorem gInv.runs {C : gCT} (h : gInv C) : gRuns (gLvO C) C (gRc C) (gCap C 24) := by
  have h0 := h.gl (Or.inr rfl)
  exact ⟨h0, h.1, fun r hr => ⟨_, _, h.run hr⟩⟩
/-- the cells that live speak of cells that live -/
theorem gF_ad {G : gG} {C : gCT} (h : gInv C) {ad ad' : gAd} (e : ∀ κ n, gLvO C κ n → ad' κ n = ad κ n) : ∀ κ n, gLvO C κ n → gF G C ad' κ n = gF G C ad κ n := by
  intro κ n hl
  show gB G κ n (C κ n) ad' = gB G κ n (C κ n) ad
  match κ, hl with
  | 0, hl => simp only [gB, e 1 0 rfl, e 2 24 (Or.inr rfl), e 17 0 rfl, e 18 0 rfl, e 19 0 rfl, e 7 24 (Or.inr rfl)]
  | 1, hl =>
    refine congrArg (fun f : Nat → Option Nat => (.inl (G.2.2.2.1, 4, .inr (.inr (.inr (.inr f)))) : va_E)) (funext fun j => ?_)
    by_cases hj : j < 4
    · rw [if_pos hj, if_pos hj, e 4 j hj]
    · rw [if_neg hj, if_neg hj]
  | 2, hl =>
    have hl : n < gRc C ∨ n = 24 := hl
    simp only [gB]
    by_cases h0 : C 2 n 2 = 0
    · rw [if_pos h0, if_pos h0]
    · rw [if_neg h0, if_neg h0, e 3 n ⟨hl, h0⟩]
  | 3, hl =>
    have hl : (n < gRc C ∨ n = 24) ∧ C 2 n 2 ≠ 0 := hl
    obtain ⟨h1, h2, h3, h4, h5, h6⟩ := h.cnt hl.1
    have hc0 : gCap C n ≠ 0 := fun q => hl.2 (by rw [h2, q]; exact nI_0)
    refine congrArg (fun f : Nat → Option Nat => (.inl (G.2.2.2.2.1, (C 3 n 0).toNatClampNeg, .inr (.inr (.inr (.inr f)))) : va_E)) (funext fun j => ?_)
    rw [(h6 hc0).2, nI_clamp (by omega)]
    by_cases hj : j < gCnt C n
    · rw [if_pos hj, if_pos hj]
      unfold gElem
      by_cases h24 : n = 24
      · rw [if_pos h24, if_pos h24, e 11 j (by show j < gRc C; subst h24; exact hj)]
      · rw [if_neg h24, if_neg h24, e 13 (1024 * n + j) (by
          show (1024 * n + j) / 1024 < gRc C ∧ (1024 * n + j) % 1024 < gCnt C ((1024 * n + j) / 1024)
          rw [show (1024 * n + j) / 1024 = n by omega]
          exact ⟨by omega, by omega⟩)]
    · rw [if_neg hj, if_neg hj]
  | 4, hl =>
    have hf := h.form hl
    simp only [gB, e 5 n hl, e 6 n hl, e 14 _ hf.2.2.2.1.1, e 14 _ hf.2.2.2.2.1.1]
  | 5, hl => rfl
  | 6, hl => rfl
  | 7, hl => simp only [gB, e 8 n hl, e 9 n hl, e 10 n hl]
  | 8, hl => rfl
  | 9, hl => rfl
  | 10, hl => rfl
  | 11, hl =>
    have hl : n < gRc C := hl
    obtain ⟨-, -, hf, hc⟩ := h.run hl
    simp only [gB, e 4 _ hf, e 7 n (Or.inl hl), e 2 n (Or.inl hl), e 12 n hl, e 14 _ hc.1]
  | 12, hl => rfl
  | 13, hl => rfl
  | 14, hl => simp only [gB, e 15 n hl, e 16 n hl]
  | 15, hl => rfl
  | 16, hl => rfl
  | 17, hl => rfl
  | 18, hl => rfl
  | 19, hl => rfl
  | 22, hl => rfl
theorem gLvO_same {C D : gCT} (h2 : ∀ n, D 2 n 1 = C 2 n 1 ∧ D 2 n 2 = C 2 n 2) (h4 : ∀ f, D 4 f 0 = C 4 f 0) : gLvO D = gLvO C := by
  have e1 : gRc D = gRc C := by unfold gRc; rw [(h2 24).1]
  have e2 : ∀ n, gCnt D n = gCnt C n := fun n => by unfold gCnt; rw [(h2 n).1]
  have e3 : ∀ f, gVn D f = gVn C f := fun f => by unfold gVn; rw [h4 f]
  funext κ n
  unfold gLvO
  simp only [e1, e2, e3, (h2 n).2]
theorem gInv_same {C D : gCT} (h : gInv C) (h2 : ∀ n, D 2 n 1 = C 2 n 1 ∧ D 2 n 2 = C 2 n 2) (h3 : D 3 = C 3) (h4 : ∀ f, D 4 f 0 = C 4 f 0) (h11 : ∀ r, D 11 r 6 = C 11 r 6 ∧ D 11 r 7 = C 11 r 7) (h14 : ∀ d, D 14 d 0 = C 14 d 0) : gInv D := by
  have e1 : gRc D = gRc C := by unfold gRc; rw [(h2 24).1]
  have e3 : ∀ f, gVn D f = gVn C f := fun f => by unfold gVn; rw [h4 f]
  unfold gInv gList
  simp only [e1, e3, (h2 _).1, (h2 _).2, h3, h4, (h11 _).1, (h11 _).2, h14]
  exact h
/-! a list with one more -/
def m_ladd (C : gCT) (n : Nat) : gCT := lAdd (cs C 2 n 0 (C 2 n 0 + 1)) n (lCap (gCap C n) (gCnt C n)) (gCnt C n)
theorem m_ladd_k (C : gCT) (n : Nat) {κ : Nat} (h2 : κ ≠ 2) (h3 : κ ≠ 3) : m_ladd C n κ = C κ := by
  unfold m_ladd lAdd
  rw [cs_k _ _ _ _ h2]
  funext b
  rw [g2_n _ _ (fun e => h3 e.1), cs_k _ _ _ _ h2, cs_k _ _ _ _ h2]
theorem m_ladd_2 (C : gCT) (n : Nat) : m_ladd C n 2 n 1 = nI (gCnt C n + 1) ∧ m_ladd C n 2 n 2 = nI (lCap (gCap C n) (gCnt C n)) := by
  unfold m_ladd lAdd
  refine ⟨cs_s _ _ _ _ _, ?_⟩
  rw [cs_o _ _ _ _ (by decide), g2_n _ _ (fun e => absurd e.1 (by decide)), cs_s]
theorem m_ladd_2n (C : gCT) (n : Nat) {k : Nat} (h : k ≠ n) : m_ladd C n 2 k = C 2 k := by
  unfold m_ladd lAdd cs
  rw [g2_n _ _ (fun e => h e.2), g2_n _ _ (fun e => absurd e.1 (by decide)), g2_n _ _ (fun e => h e.2), g2_n _ _ (fun e => h e.2)]
theorem m_ladd_3 (C : gCT) (n : Nat) : m_ladd C n 3 n = lRow (lCap (gCap C n) (gCnt C n)) (gCnt C n + 1) := by
  unfold m_ladd lAdd
  rw [cs_k _ _ _ _ (by decide), g2_s]
theorem m_ladd_3n (C : gCT) (n : Nat) {k : Nat} (h : k ≠ n) : m_ladd C n 3 k = C 3 k := by
  unfold m_ladd lAdd
  rw [cs_k _ _ _ _ (by decide), g2_n _ _ (fun e => h e.2), cs_k _ _ _ _ (by decide), cs_k _ _ _ _ (by decide)]
theorem lCap_le {cap c : Nat} (hc : c < 1400) (hcc : c ≤ cap) (h2 : cap ≤ 2000) (h5 : c ≤ 512) : c + 1 ≤ lCap cap c ∧ lCap cap c ≤ 2000 := by
  unfold lCap
  split
  · omega
  · have hq : cap = c := by omega
    subst hq
    have := lNxt_le hc
    refine ⟨this.1, ?_⟩
    unfold lNxt
    split <;> omega

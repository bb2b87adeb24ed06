/-! ===== how often each question was asked, and how many answers there are ===== -/
def aK (cnt : Nat → Nat) (x : aM) : Prop := (∀ q, q < 16 → ∃ d : Nat, x.2.2.2 q = nI d ∧ d ≤ cnt q + 1 ∧ (d = cnt q + 1 ↔ (x.1 4 = 0 ∧ x.1 5 = nI q))) ∧ (x.1 4 = 0 → ∃ q, q < 16 ∧ x.1 5 = nI q)
/-- the answers are those that are counted -/
def aC (cnt : Nat → Nat) (E : aE) : Prop := ∀ q, q < 16 → cnt q ≤ 512 ∧ ∀ n : Nat, 1 ≤ n → n ≤ 1000 → (E.1 (nI q) (nI n) = -1 ↔ cnt q < n)
theorem aK.ne0 {cnt : Nat → Nat} {x y : aM} (h : aK cnt x) (hx : x.1 4 ≠ 0) (hy : y.1 4 ≠ 0) (ht : y.2.2.2 = x.2.2.2) : aK cnt y := by
  refine ⟨fun q hq => ?_, fun e => absurd e hy⟩
  obtain ⟨d, h1, h2, h3⟩ := h.1 q hq
  rw [ht]
  refine ⟨d, h1, h2, ⟨fun e => absurd (h3.mp e).1 hx, fun e => absurd e.1 hy⟩⟩
theorem m_addF_at (f : Nat → Int32) {q : Nat} (hq : q < 16) (v : Int32) : m_addF 16 f (nI q) v = upd f q (f q + v) ∧ ∀ g : Nat → Int32, m_at g 16 (nI q) = g q := by
  have h1 : ¬ nI q < 0 := fun e => absurd ((nat_lt rfl (show (0 : Int32) = nI 0 from rfl) (by omega) (by decide)).mp e) (Nat.not_lt_zero _)
  have h2 : ¬ nI 16 ≤ nI q := fun e => absurd ((nat_le rfl rfl (by decide) (by omega)).mp e) (by omega)
  refine ⟨?_, fun g => ?_⟩
  · unfold m_addF
    rw [if_neg h1, if_neg h2, nI_clamp (by omega)]
  · unfold m_at
    rw [if_neg h1, if_neg h2, nI_clamp (by omega)]
theorem aK.ask {cnt : Nat → Nat} {E : aE} (hC : aC cnt E) {x : aM} (h : aK cnt x) (h7 : x.1 4 = 7) {q : Nat} (hq : q < 16) : aK cnt (a_ask E.1 x (nI q)) := by
  obtain ⟨d, h1, h2, h3⟩ := h.1 q hq
  have hd : d ≤ cnt q := by
    have : d ≠ cnt q + 1 := fun e => absurd ((h3.mp e).1.symm.trans h7) (by decide)
    omega
  obtain ⟨hc512, hcn⟩ := hC q hq
  have et : (m_addF 16 x.2.2.2 (nI q) 1) = upd x.2.2.2 q (nI (d + 1)) := by rw [(m_addF_at x.2.2.2 hq 1).1, h1, nI_1]
  have en : m_at (m_addF 16 x.2.2.2 (nI q) 1) 16 (nI q) = nI (d + 1) := by rw [(m_addF_at x.2.2.2 hq 1).2, et, upd_s]
  have hne : x.1 4 ≠ 0 := by rw [h7]; decide
  unfold a_ask
  rw [en, et]
  by_cases ha : E.1 (nI q) (nI (d + 1)) = -1
  · rw [if_pos ha]
    have hlt := (hcn (d + 1) (by omega) (by omega)).mp ha
    refine ⟨fun k hk => ?_, fun _ => ⟨q, hq, ?_⟩⟩
    · show ∃ d0 : Nat, upd x.2.2.2 q (nI (d + 1)) k = nI d0 ∧ d0 ≤ cnt k + 1 ∧ (d0 = cnt k + 1 ↔ (upd (upd x.1 5 (nI q)) 4 0 4 = 0 ∧ upd (upd x.1 5 (nI q)) 4 0 5 = nI k))
      rw [upd_s, upd_o _ _ (show (5 : Nat) ≠ 4 by decide), upd_s]
      by_cases hkq : k = q
      · subst hkq
        rw [upd_s]
        exact ⟨d + 1, rfl, by omega, ⟨fun _ => ⟨rfl, rfl⟩, fun _ => by omega⟩⟩
      · rw [upd_o _ _ hkq]
        obtain ⟨d', k1, k2, k3⟩ := h.1 k hk
        refine ⟨d', k1, k2, ⟨fun e => absurd (k3.mp e).1 hne, fun e => absurd ((nI_eq (by omega) (by omega)).mp e.2) (fun z => hkq z.symm)⟩⟩
    · show upd (upd x.1 5 (nI q)) 4 0 5 = nI q
      rw [upd_o _ _ (show (5 : Nat) ≠ 4 by decide), upd_s]
  · rw [if_neg ha]
    have hle : d + 1 ≤ cnt q := by
      have := Nat.not_lt.mp (fun z => ha ((hcn (d + 1) (by omega) (by omega)).mpr z))
      omega
    have hK : aK cnt (x.1, x.2.1, x.2.2.1, upd x.2.2.2 q (nI (d + 1))) := by
      refine ⟨fun k hk => ?_, fun e => absurd e hne⟩
      show ∃ d0 : Nat, upd x.2.2.2 q (nI (d + 1)) k = nI d0 ∧ d0 ≤ cnt k + 1 ∧ (d0 = cnt k + 1 ↔ (x.1 4 = 0 ∧ x.1 5 = nI k))
      by_cases hkq : k = q
      · subst hkq
        rw [upd_s]
        exact ⟨d + 1, rfl, by omega, ⟨fun e => by omega, fun e => absurd e.1 hne⟩⟩
      · rw [upd_o _ _ hkq]
        exact h.1 k hk
    refine hK.ne0 hne ?_ (a_put_t _ _)
    rcases a4.put (x.1, x.2.1, x.2.2.1, upd x.2.2.2 q (nI (d + 1))) (E.1 (nI q) (nI (d + 1))) with e | e
    · rw [e]; exact hne
    · rw [e]; decide
theorem aK.step {cnt : Nat → Nat} {E : aE} (hE : aFit E) (hC : aC cnt E) {x : aM} (h : aK cnt x) (hI : aI x) (h7 : x.1 4 = 7) : aK cnt (a_step E x) := by
  have hne : x.1 4 ≠ 0 := by rw [h7]; decide
  unfold a_step
  by_cases hp : (a_pay E x).1 = -1
  · rw [if_pos hp]
    rcases a_pay_no hp hI with e | e
    · rw [e]; exact h.ne0 hne (by rw [show (a_st x 5).1 4 = 5 from sr_s x 4 5]; decide) rfl
    · rw [e]; exact h.ne0 hne (by rw [show (a_st x 4).1 4 = 4 from sr_s x 4 4]; decide) rfl
  · rw [if_neg hp]
    obtain ⟨p, n, f, c, h1, h2, h3, h4, h5, h6, h7', h8, h9, h10, h11, h12, -⟩ := a_pay_ok hE hI hp
    have hf := hE.2 p (by omega) (by rw [h3]; exact (nat_lt rfl rfl (by omega) (by omega)).mpr h1)
    have hz4 := a_pay_4 hp h7
    have hzt := a_pay_t E x
    rw [h11, a_at24 p (by omega), a_at24 p (by omega)]
    generalize (a_pay E x).2 = z at hz4 hzt
    have hzne : z.1 4 ≠ 0 := by rw [hz4]; decide
    have hK : aK cnt z := h.ne0 hne hzne hzt
    by_cases i0 : E.2.1 p = 0
    · have hs : a_perf E.1 z (E.2.1 p) (E.2.2.1 p) = a_ask E.1 z (E.2.2.1 p) := by
        unfold a_perf
        rw [if_pos i0]
      obtain ⟨q1, q2⟩ := gFit_0 hf i0
      rw [hs, q1]
      exact hK.ask hC hz4 q2
    · obtain ⟨k1, k2⟩ := a_perf_ne0 E.1 (E.2.2.1 p) i0 hz4
      exact hK.ne0 hzne k1 k2
theorem aK.loop {cnt : Nat → Nat} {E : aE} (hE : aFit E) (hC : aC cnt E) : ∀ (n : Nat) {x : aM}, aK cnt x → aI x → aK cnt (a_L E n x) := by
  intro n
  induction n with
  | zero => intro x h _; exact h
  | succ n ih =>
    intro x h hI
    unfold a_L
    by_cases h7 : x.1 4 = 7
    · rw [if_pos h7]; exact ih (h.step hE hC hI h7) (hI.step hE)
    · rw [if_neg h7]; exact h
/-- states after a run's machine went on -/
theorem a_put_st (x : aM) (v : Int32) : (a_put x v).1 4 = x.1 4 ∨ (a_put x v).1 4 = 5 := a4.put x v

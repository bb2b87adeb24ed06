/-! ===== the machine alone: its numbers (0 height, 1 place, 2 fuel, 3 bonus, 4 state, 5 question, 6 gates passed, 7 gates open), stack, slots, times asked ===== -/
abbrev aM : Type := (Nat → Int32) × (Nat → Int32) × (Nat → Int32) × (Nat → Int32)
abbrev aE : Type := (Int32 → Int32 → Int32) × (Nat → Int32) × (Nat → Int32) × Int32
def aGet (C : gCT) (k : Nat) : aM := (C 7 k, C 8 k, C 9 k, C 10 k)
def aPut (C : gCT) (k : Nat) (x : aM) : gCT := fun κ n => if n = k then (match κ with
  | 7 => x.1
  | 8 => x.2.1
  | 9 => x.2.2.1
  | 10 => x.2.2.2
  | κ => C κ n) else C κ n
theorem aPut_7 (C : gCT) (k : Nat) (x : aM) : aPut C k x 7 k = x.1 := if_pos rfl
theorem aPut_8 (C : gCT) (k : Nat) (x : aM) : aPut C k x 8 k = x.2.1 := if_pos rfl
theorem aPut_9 (C : gCT) (k : Nat) (x : aM) : aPut C k x 9 k = x.2.2.1 := if_pos rfl
theorem aPut_10 (C : gCT) (k : Nat) (x : aM) : aPut C k x 10 k = x.2.2.2 := if_pos rfl
theorem aPut_k (C : gCT) (k : Nat) (x : aM) {κ : Nat} (h : κ < 7 ∨ 10 < κ) : aPut C k x κ = C κ := by
  funext n
  unfold aPut
  split
  · split <;> first | omega | rfl
  · rfl
theorem aPut_n (C : gCT) (k : Nat) (x : aM) {n : Nat} (h : n ≠ k) (κ : Nat) : aPut C k x κ n = C κ n := if_neg h
theorem aGet_aPut (C : gCT) (k : Nat) (x : aM) : aGet (aPut C k x) k = x := by
  unfold aGet
  rw [aPut_7, aPut_8, aPut_9, aPut_10]
theorem aPut_aGet (C : gCT) (k : Nat) : aPut C k (aGet C k) = C := by
  funext κ n
  unfold aPut aGet
  split
  · rename_i h
    subst h
    split <;> rfl
  · rfl
theorem aPut_aPut (C : gCT) (k : Nat) (x y : aM) : aPut (aPut C k x) k y = aPut C k y := by
  funext κ n
  by_cases hk : κ < 7 ∨ 10 < κ
  · rw [aPut_k _ _ _ hk, aPut_k _ _ _ hk, aPut_k _ _ _ hk]
  · by_cases h : n = k
    · subst h
      obtain rfl | rfl | rfl | rfl : κ = 7 ∨ κ = 8 ∨ κ = 9 ∨ κ = 10 := by omega
      · rw [aPut_7, aPut_7]
      · rw [aPut_8, aPut_8]
      · rw [aPut_9, aPut_9]
      · rw [aPut_10, aPut_10]
    · rw [aPut_n _ _ _ h, aPut_n _ _ _ h, aPut_n _ _ _ h]
theorem aP7 (C : gCT) (k : Nat) (x : aM) (j : Nat) (v : Int32) : cs (aPut C k x) 7 k j v = aPut C k (upd x.1 j v, x.2) := by
  funext κ n
  unfold cs
  by_cases h : n = k
  · subst h
    by_cases h7 : κ = 7
    · subst h7; rw [g2_s, aPut_7, aPut_7]
    · rw [g2_n _ _ (fun e => h7 e.1)]
      unfold aPut
      rw [if_pos rfl, if_pos rfl]
      split <;> first | exact absurd rfl h7 | rfl
  · rw [g2_n _ _ (fun e => h e.2), aPut_n _ _ _ h, aPut_n _ _ _ h]
theorem aP8 (C : gCT) (k : Nat) (x : aM) (j : Nat) (v : Int32) : cs (aPut C k x) 8 k j v = aPut C k (x.1, upd x.2.1 j v, x.2.2) := by
  funext κ n
  unfold cs
  by_cases h : n = k
  · subst h
    by_cases h7 : κ = 8
    · subst h7; rw [g2_s, aPut_8, aPut_8]
    · rw [g2_n _ _ (fun e => h7 e.1)]
      unfold aPut
      rw [if_pos rfl, if_pos rfl]
      split <;> first | exact absurd rfl h7 | rfl
  · rw [g2_n _ _ (fun e => h e.2), aPut_n _ _ _ h, aPut_n _ _ _ h]
theorem aP9 (C : gCT) (k : Nat) (x : aM) (j : Nat) (v : Int32) : cs (aPut C k x) 9 k j v = aPut C k (x.1, x.2.1, upd x.2.2.1 j v, x.2.2.2) := by
  funext κ n
  unfold cs
  by_cases h : n = k
  · subst h
    by_cases h7 : κ = 9
    · subst h7; rw [g2_s, aPut_9, aPut_9]
    · rw [g2_n _ _ (fun e => h7 e.1)]
      unfold aPut
      rw [if_pos rfl, if_pos rfl]
      split <;> first | exact absurd rfl h7 | rfl
  · rw [g2_n _ _ (fun e => h e.2), aPut_n _ _ _ h, aPut_n _ _ _ h]
theorem aP10g (C : gCT) (k : Nat) (x : aM) (y : Nat → Int32) : g2 (aPut C k x) 10 k y = aPut C k (x.1, x.2.1, x.2.2.1, y) := by
  funext κ n
  by_cases h : n = k
  · subst h
    by_cases h7 : κ = 10
    · subst h7; rw [g2_s, aPut_10]
    · rw [g2_n _ _ (fun e => h7 e.1)]
      unfold aPut
      rw [if_pos rfl, if_pos rfl]
      split <;> first | exact absurd rfl h7 | rfl
  · rw [g2_n _ _ (fun e => h e.2), aPut_n _ _ _ h, aPut_n _ _ _ h]
theorem aP10 (C : gCT) (k : Nat) (x : aM) (j : Nat) (v : Int32) : cs (aPut C k x) 10 k j v = aPut C k (x.1, x.2.1, x.2.2.1, upd x.2.2.2 j v) := by
  unfold cs
  rw [aPut_10]
  exact aP10g _ _ _ _
theorem aPad (C : gCT) (k : Nat) (x : aM) (N : Nat) (i v : Int32) : m_addTo (aPut C k x) 10 k N i v = aPut C k (x.1, x.2.1, x.2.2.1, m_addF N x.2.2.2 i v) := by
  unfold m_addTo
  rw [aPut_10]
  exact aP10g _ _ _ _
def a_put (x : aM) (v : Int32) : aM := if m_isWithin (x.1 0) 0 7 = 0 then (upd x.1 4 5, x.2) else (upd x.1 0 (x.1 0 + 1), upd x.2.1 (x.1 0).toNatClampNeg v, x.2.2)
def a_take (x : aM) : Int32 × aM := if m_isWithin (x.1 0) 1 8 = 0 then (0, upd x.1 4 5, x.2) else (x.2.1 (x.1 0 - 1).toNatClampNeg, upd x.1 0 (x.1 0 - 1), x.2)
def a_store (x : aM) (v : Int32) : aM := if (a_take x).2.1 4 = 7 then (if m_isWithin v 0 7 = 0 then (a_take x).2 else ((a_take x).2.1, (a_take x).2.2.1, upd (a_take x).2.2.2.1 v.toNatClampNeg (a_take x).1, (a_take x).2.2.2.2)) else (a_take x).2
def a_jz (x : aM) (v : Int32) : aM := if (a_take x).2.1 4 = 7 then (if (a_take x).1 = 0 then (upd (a_take x).2.1 1 v, (a_take x).2.2) else (a_take x).2) else (a_take x).2
def a_comb (x : aM) (v : Int32) : aM := if (a_take (a_take x).2).2.1 4 = 7 then a_put (a_take (a_take x).2).2 (m_combined v (a_take (a_take x).2).1 (a_take x).1) else (a_take (a_take x).2).2
def a_gate (x : aM) : Int32 × aM := if 0 < x.1 7 then (1, upd (upd x.1 7 (x.1 7 - 1)) 6 (x.1 6 + 1), x.2) else (0, x)
def a_ask (ans : Int32 → Int32 → Int32) (x : aM) (q : Int32) : aM := if ans q (m_at (m_addF 16 x.2.2.2 q 1) 16 q) = -1 then (upd (upd x.1 5 q) 4 0, x.2.1, x.2.2.1, m_addF 16 x.2.2.2 q 1) else a_put (x.1, x.2.1, x.2.2.1, m_addF 16 x.2.2.2 q 1) (ans q (m_at (m_addF 16 x.2.2.2 q 1) 16 q))
def a_st (x : aM) (w : Int32) : aM := (upd x.1 4 w, x.2)
def a_perf (ans : Int32 → Int32 → Int32) (x : aM) (i v : Int32) : aM :=
  if i = 0 then a_ask ans x v else if i = 1 then a_put x v else if i = 2 then a_put x (m_at x.2.2.1 8 v) else if i = 3 then a_store x v else if i = 4 then a_comb x i else if i = 5 then a_comb x i else if i = 6 then a_comb x i else if i = 7 then a_comb x i
  else if i = 8 then (upd x.1 1 v, x.2) else if i = 9 then a_jz x v else if i = 10 then (upd x.1 3 (x.1 3 + v), x.2) else if i = 11 then a_st (a_gate x).2 (if (a_gate x).1 = 0 then 3 else 7) else if i = 12 then a_st (a_gate x).2 (if (a_gate x).1 = 0 then 3 else 2) else a_comb x i
def a_cost (E : aE) (x : aM) : Int32 := if m_at E.2.1 24 (x.1 1) = 0 then 3 else 1
def a_pay (E : aE) (x : aM) : Int32 × aM := if m_isWithin (x.1 1) 0 (E.2.2.2 - 1) = 0 then (-1, a_st x 5) else if a_cost E x ≤ x.1 2 then (x.1 1 + 1 - 1, upd (upd x.1 2 (x.1 2 - a_cost E x)) 1 (x.1 1 + 1), x.2) else (-1, a_st x 4)
def a_step (E : aE) (x : aM) : aM := if (a_pay E x).1 = -1 then (a_pay E x).2 else a_perf E.1 (a_pay E x).2 (m_at E.2.1 24 (a_pay E x).1) (m_at E.2.2.1 24 (a_pay E x).1)
def a_L (E : aE) (n : Nat) (x : aM) : aM := match n with
  | 0 => x
  | n + 1 => if x.1 4 = 7 then a_L E n (a_step E x) else x
def a_reset (x : aM) (v : Int32) : aM := (upd (upd (upd (upd (upd (upd x.1 0 0) 1 0) 2 v) 3 0) 4 7) 6 0, x.2.1, (fun j => if j < 8 then 0 else x.2.2.1 j), fun j => if j < 16 then 0 else x.2.2.2 j)
def envC (C : gCT) (r : Nat) : aE := (fun q n => (m_nth C r q n).1, C 15 (C 11 r 7).toNatClampNeg, C 16 (C 11 r 7).toNatClampNeg, C 14 (C 11 r 7).toNatClampNeg 0)
theorem upd_o (f : Nat → Int32) {j j' : Nat} (v : Int32) (h : j' ≠ j) : upd f j v j' = f j' := if_neg h
theorem upd_s (f : Nat → Int32) (j : Nat) (v : Int32) : upd f j v j = v := if_pos rfl
theorem A_put (C : gCT) (k : Nat) (x : aM) (v : Int32) : m_put (aPut C k x) k v = aPut C k (a_put x v) := by
  simp only [m_put, a_put, aPut_7, aP7, aP8]
  split <;> rfl
theorem A_take (C : gCT) (k : Nat) (x : aM) : m_take (aPut C k x) k = ((a_take x).1, aPut C k (a_take x).2) := by
  simp only [m_take, a_take, aPut_7, aP7, aPut_8, upd_s]
  split <;> rfl
theorem A_store (C : gCT) (k : Nat) (x : aM) (v : Int32) : m_store (aPut C k x) k v = aPut C k (a_store x v) := by
  simp only [m_store, a_store, A_take, aPut_7, aP9]
  split
  · split <;> rfl
  · rfl
theorem A_jz (C : gCT) (k : Nat) (x : aM) (v : Int32) : m_jumpIfZero (aPut C k x) k v = aPut C k (a_jz x v) := by
  simp only [m_jumpIfZero, a_jz, A_take, aPut_7, aP7]
  split
  · split <;> rfl
  · rfl
theorem A_comb (C : gCT) (k : Nat) (x : aM) (v : Int32) : m_combine (aPut C k x) k v = aPut C k (a_comb x v) := by
  simp only [m_combine, a_comb, A_take, aPut_7, A_put]
  split <;> rfl
theorem A_gate (C : gCT) (k : Nat) (x : aM) : m_passesGate (aPut C k x) k = ((a_gate x).1, aPut C k (a_gate x).2) := by
  simp only [m_passesGate, a_gate, aPut_7, aP7]
  split
  · rw [upd_o _ _ (by decide)]
  · rfl
theorem m_nth_L_cong {C D : gCT} {r : Nat} (h2 : D 2 r = C 2 r) (h13 : D 13 = C 13) (n0 : Nat) (q n w f i : Int32) : (m_nth_L n0 D r q n w f i).1 = (m_nth_L n0 C r q n w f i).1 := by
  induction n0 generalizing f i with
  | zero => rfl
  | succ n0 ih =>
    unfold m_nth_L
    simp only [h2, h13]
    repeat' split
    all_goals first | rfl | exact ih _ _
theorem m_nth_cong {C D : gCT} {r : Nat} (h12 : D 12 r = C 12 r) (h2 : D 2 r = C 2 r) (h13 : D 13 = C 13) (q n : Int32) : (m_nth D r q n).1 = (m_nth C r q n).1 := by
  unfold m_nth
  simp only [h12]
  exact m_nth_L_cong h2 h13 _ _ _ _ _ _
theorem envC_cong {C D : gCT} {r : Nat} (h12 : D 12 r = C 12 r) (h2 : D 2 r = C 2 r) (h13 : D 13 = C 13) (h11 : D 11 r 7 = C 11 r 7) (h15 : D 15 = C 15) (h16 : D 16 = C 16) (h14 : D 14 = C 14) : envC D r = envC C r := by
  unfold envC
  rw [h11, h15, h16, h14]
  have e : (fun q n => (m_nth D r q n).1) = fun q n => (m_nth C r q n).1 := by
    funext q n
    exact m_nth_cong h12 h2 h13 q n
  rw [e]
theorem envC_aPut (C : gCT) (k r : Nat) (x : aM) : envC (aPut C k x) r = envC C r := by
  have e : ∀ {κ : Nat}, (κ < 7 ∨ 10 < κ) → aPut C k x κ = C κ := fun h => aPut_k C k x h
  exact envC_cong (by rw [e (by decide)]) (by rw [e (by decide)]) (e (by decide)) (by rw [e (by decide)]) (e (by decide)) (e (by decide)) (e (by decide))
theorem A_ask (C : gCT) (k r : Nat) (x : aM) (v : Int32) : m_ask (aPut C k x) k r v = aPut C k (a_ask (envC C r).1 x v) := by
  have hn : ∀ y : aM, ∀ q n, (m_nth (aPut C k y) r q n).1 = (envC C r).1 q n := fun y q n => congrFun (congrFun (congrArg Prod.fst (envC_aPut C k r y)) q) n
  simp only [m_ask, a_ask, aPad, aPut_10, m_nth_C, hn, aP7, A_put]
  split <;> rfl
theorem A_perf (C : gCT) (k r : Nat) (x : aM) (i v : Int32) : m_perform (aPut C k x) k r i v = aPut C k (a_perf (envC C r).1 x i v) := by
  simp only [m_perform, a_perf, A_ask, A_put, A_store, A_comb, A_jz, A_gate, aPut_7, aPut_9, aP7, a_st, apply_ite (aPut C k)]
theorem A_pay (C : gCT) (k d : Nat) (x : aM) (E : aE) (h1 : E.2.1 = C 15 d) (h2 : E.2.2.2 = C 14 d 0) : m_pay (aPut C k x) k d = ((a_pay E x).1, aPut C k (a_pay E x).2) := by
  simp only [m_pay, a_pay, a_cost, aPut_7, aP7, aPut_k C k x (show 14 < 7 ∨ 10 < 14 by decide), aPut_k C k x (show 15 < 7 ∨ 10 < 15 by decide), h1, h2, a_st, upd_s, upd_o _ _ (show (1 : Nat) ≠ 2 by decide)]
  repeat' split
  all_goals rfl
theorem A_goOn_L (C : gCT) (k r : Nat) (g : Int32) (n : Nat) : ∀ (i : Nat) (x : aM), i + n = 201 → m_goOn_L (n + 1) (aPut C k x) k r g (nI i) = aPut C k (a_L (envC C r) n x) := by
  induction n with
  | zero =>
    intro i x hi
    unfold m_goOn_L
    rw [if_pos (show (200 : Int32) < nI i by rw [show i = 201 by omega]; decide)]
    rfl
  | succ n ih =>
    intro i x hi
    have e11 : ∀ y : aM, aPut C k y 11 = C 11 := fun y => aPut_k C k y (by decide)
    have e15 : ∀ y : aM, aPut C k y 15 = C 15 := fun y => aPut_k C k y (by decide)
    have e16 : ∀ y : aM, aPut C k y 16 = C 16 := fun y => aPut_k C k y (by decide)
    have hlt : ¬ (200 : Int32) < nI i := fun q => absurd ((nat_lt (show (200 : Int32) = nI 200 from rfl) rfl (by decide) (by omega)).mp q) (by omega)
    unfold m_goOn_L a_L
    rw [if_neg hlt]
    simp only [aPut_7, e11, e15, e16, A_pay C k _ _ (envC C r) rfl rfl, A_perf, nI_1]
    split
    · split
      · rename_i h1 h2
        rw [ih (i + 1) _ (by omega)]
        unfold a_step
        rw [if_pos h2]
      · rename_i h1 h2
        rw [ih (i + 1) _ (by omega)]
        unfold a_step
        rw [if_neg h2]
        rfl
    · rfl
theorem A_goOn (C : gCT) (k r : Nat) (x : aM) (g : Int32) : m_goOn (aPut C k x) k r g = aPut C k (a_L (envC C r) 201 (upd x.1 7 g, x.2)) := by
  unfold m_goOn
  simp only [aP7]
  exact A_goOn_L C k r g 201 0 _ (by omega)
theorem A_reset_L2 (C : gCT) (k : Nat) (v : Int32) (n : Nat) : ∀ (i : Nat) (x : aM), i + n = 16 → m_reset_L2 (n + 1) (aPut C k x) k v (nI i) = aPut C k (upd (upd (upd (upd (upd (upd x.1 0 0) 1 0) 2 v) 3 0) 4 7) 6 0, x.2.1, x.2.2.1, fun j => if i ≤ j ∧ j < 16 then 0 else x.2.2.2 j) := by
  induction n with
  | zero =>
    intro i x hi
    unfold m_reset_L2
    rw [if_pos (show (16 : Int32) ≤ nI i by rw [show i = 16 by omega]; decide)]
    simp only [aP7]
    congr 1
    refine Prod.ext rfl (Prod.ext rfl (Prod.ext rfl (funext fun j => ?_)))
    exact (if_neg (by omega)).symm
  | succ n ih =>
    intro i x hi
    have hlt : ¬ (16 : Int32) ≤ nI i := fun q => absurd ((nat_le (show (16 : Int32) = nI 16 from rfl) rfl (by decide) (by omega)).mp q) (by omega)
    unfold m_reset_L2
    rw [if_neg hlt]
    simp only [aP10, nI_1]
    rw [ih (i + 1) _ (by omega)]
    congr 1
    refine Prod.ext rfl (Prod.ext rfl (Prod.ext rfl (funext fun j => ?_)))
    show (if i + 1 ≤ j ∧ j < 16 then 0 else upd x.2.2.2 (nI i).toNatClampNeg 0 j) = if i ≤ j ∧ j < 16 then 0 else x.2.2.2 j
    rw [nI_clamp (by omega)]
    by_cases hj : j = i
    · subst hj
      rw [if_neg (by omega), if_pos (by omega), upd_s]
    · rw [upd_o _ _ hj]
      by_cases h2 : i + 1 ≤ j ∧ j < 16
      · rw [if_pos h2, if_pos (by omega)]
      · rw [if_neg h2, if_neg (by omega)]
theorem A_reset_L1 (C : gCT) (k : Nat) (v : Int32) (n : Nat) : ∀ (i : Nat) (x : aM), i + n = 8 → m_reset_L1 (n + 1) (aPut C k x) k v (nI i) = aPut C k (upd (upd (upd (upd (upd (upd x.1 0 0) 1 0) 2 v) 3 0) 4 7) 6 0, x.2.1, (fun j => if i ≤ j ∧ j < 8 then 0 else x.2.2.1 j), fun j => if j < 16 then 0 else x.2.2.2 j) := by
  induction n with
  | zero =>
    intro i x hi
    unfold m_reset_L1
    rw [if_pos (show (8 : Int32) ≤ nI i by rw [show i = 8 by omega]; decide)]
    refine (A_reset_L2 C k v 16 0 x (by omega)).trans ?_
    congr 1
    refine Prod.ext rfl (Prod.ext rfl (Prod.ext (funext fun j => ?_) (funext fun j => ?_)))
    · exact (if_neg (by omega)).symm
    · show (if 0 ≤ j ∧ j < 16 then 0 else x.2.2.2 j) = if j < 16 then 0 else x.2.2.2 j
      by_cases h : j < 16
      · rw [if_pos ⟨Nat.zero_le _, h⟩, if_pos h]
      · rw [if_neg (fun q => h q.2), if_neg h]
  | succ n ih =>
    intro i x hi
    have hlt : ¬ (8 : Int32) ≤ nI i := fun q => absurd ((nat_le (show (8 : Int32) = nI 8 from rfl) rfl (by decide) (by omega)).mp q) (by omega)
    unfold m_reset_L1
    rw [if_neg hlt]
    simp only [aP9, nI_1]
    rw [ih (i + 1) _ (by omega)]
    congr 1
    refine Prod.ext rfl (Prod.ext rfl (Prod.ext (funext fun j => ?_) rfl))
    show (if i + 1 ≤ j ∧ j < 8 then 0 else upd x.2.2.1 (nI i).toNatClampNeg 0 j) = if i ≤ j ∧ j < 8 then 0 else x.2.2.1 j
    rw [nI_clamp (by omega)]
    by_cases hj : j = i
    · subst hj
      rw [if_neg (by omega), if_pos (by omega), upd_s]
    · rw [upd_o _ _ hj]
      by_cases h2 : i + 1 ≤ j ∧ j < 8
      · rw [if_pos h2, if_pos (by omega)]
      · rw [if_neg h2, if_neg (by omega)]
theorem A_reset (C : gCT) (k : Nat) (x : aM) (v : Int32) : m_reset (aPut C k x) k v = aPut C k (a_reset x v) := by
  unfold m_reset
  refine (A_reset_L1 C k v 8 0 x (by omega)).trans ?_
  congr 1
  refine Prod.ext rfl (Prod.ext rfl (Prod.ext (funext fun j => ?_) rfl))
  show (if 0 ≤ j ∧ j < 8 then 0 else x.2.2.1 j) = if j < 8 then 0 else x.2.2.1 j
  by_cases h : j < 8
  · rw [if_pos ⟨Nat.zero_le _, h⟩, if_pos h]
  · rw [if_neg (fun q => h q.2), if_neg h]
theorem A_takeAnswer (C : gCT) (k : Nat) (x : aM) (v : Int32) : m_takeAnswer (aPut C k x) k v = aPut C k (a_put (a_st x 7) v) := by
  unfold m_takeAnswer
  simp only [aP7, A_put]
  rfl

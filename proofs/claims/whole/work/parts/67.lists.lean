/-! ===== the answers of a run, as a list of question, wording and value ===== -/
abbrev aT : Type := Int32 × Int32 × Int32
def cT (C : gCT) (r j : Nat) : aT := (C 13 (1024 * r + j) 0, C 13 (1024 * r + j) 1, C 13 (1024 * r + j) 2)
def cLf (C : gCT) (r : Nat) : Nat → Nat → List aT
  | _, 0 => []
  | i, m + 1 => cT C r i :: cLf C r (i + 1) m
def rT (M : gCT) (k : Nat) : aT := (M 21 31 k, M 21 32 k, M 21 33 k)
def rLf (M : gCT) (r : Nat) : Nat → Nat → List aT
  | _, 0 => []
  | k, m + 1 => if M 21 30 k = nI r then rT M k :: rLf M r (k + 1) m else rLf M r (k + 1) m
def nthR (q w : Int32) : List aT → Nat → Int32
  | [], _ => -1
  | t :: L, n => if t.1 = q ∧ t.2.1 = w then (if n = 1 then t.2.2 else nthR q w L (n - 1)) else nthR q w L n
def cntR (q w : Int32) : List aT → Nat
  | [] => 0
  | t :: L => (if t.1 = q ∧ t.2.1 = w then 1 else 0) + cntR q w L
theorem cntR_le (q w : Int32) (L : List aT) : cntR q w L ≤ L.length := by
  induction L with
  | nil => exact Nat.le_refl _
  | cons t L ih =>
    show (if t.1 = q ∧ t.2.1 = w then 1 else 0) + cntR q w L ≤ L.length + 1
    split <;> omega
theorem cntR_app (q w : Int32) (L K : List aT) : cntR q w (L ++ K) = cntR q w L + cntR q w K := by
  induction L with
  | nil => simp [cntR]
  | cons t L ih =>
    show (if t.1 = q ∧ t.2.1 = w then 1 else 0) + cntR q w (L ++ K) = _
    rw [ih]
    show _ = (if t.1 = q ∧ t.2.1 = w then 1 else 0) + cntR q w L + cntR q w K
    omega
/-- found, or not -/
theorem nthR_no {q w : Int32} : ∀ (L : List aT) {n : Nat}, 1 ≤ n → cntR q w L < n → nthR q w L n = -1 := by
  intro L
  induction L with
  | nil => intro n _ _; rfl
  | cons t L ih =>
    intro n h1 h
    have h : (if t.1 = q ∧ t.2.1 = w then 1 else 0) + cntR q w L < n := h
    show (if t.1 = q ∧ t.2.1 = w then (if n = 1 then t.2.2 else nthR q w L (n - 1)) else nthR q w L n) = -1
    by_cases c : t.1 = q ∧ t.2.1 = w
    · rw [if_pos c] at h ⊢
      by_cases c1 : n = 1
      · omega
      · rw [if_neg c1]
        exact ih (by omega) (by omega)
    · rw [if_neg c] at h ⊢
      exact ih h1 (by omega)
theorem nthR_yes {q w : Int32} : ∀ (L : List aT) {n : Nat}, 1 ≤ n → n ≤ cntR q w L → (∀ t ∈ L, ¬ t.2.2 = -1) → ¬ nthR q w L n = -1 := by
  intro L
  induction L with
  | nil =>
    intro n h1 h _
    have h : n ≤ 0 := h
    omega
  | cons t L ih =>
    intro n h1 h hv
    have h : n ≤ (if t.1 = q ∧ t.2.1 = w then 1 else 0) + cntR q w L := h
    show ¬ (if t.1 = q ∧ t.2.1 = w then (if n = 1 then t.2.2 else nthR q w L (n - 1)) else nthR q w L n) = -1
    by_cases c : t.1 = q ∧ t.2.1 = w
    · rw [if_pos c] at h ⊢
      by_cases c1 : n = 1
      · rw [if_pos c1]; exact hv t List.mem_cons_self
      · rw [if_neg c1]
        exact ih (by omega) (by omega) (fun t ht => hv t (List.mem_cons_of_mem _ ht))
    · rw [if_neg c] at h ⊢
      exact ih h1 (by omega) (fun t ht => hv t (List.mem_cons_of_mem _ ht))
theorem nthR_app {q w : Int32} : ∀ (L K : List aT) {n : Nat}, 1 ≤ n → (n ≤ cntR q w L → nthR q w (L ++ K) n = nthR q w L n) ∧ (cntR q w L < n → nthR q w (L ++ K) n = nthR q w K (n - cntR q w L)) := by
  intro L K
  induction L with
  | nil =>
    intro n h1
    refine ⟨fun h => ?_, fun _ => rfl⟩
    have h : n ≤ 0 := h
    omega
  | cons t L ih =>
    intro n h1
    have e : cntR q w (t :: L) = (if t.1 = q ∧ t.2.1 = w then 1 else 0) + cntR q w L := rfl
    have e2 : nthR q w (t :: L ++ K) n = (if t.1 = q ∧ t.2.1 = w then (if n = 1 then t.2.2 else nthR q w (L ++ K) (n - 1)) else nthR q w (L ++ K) n) := rfl
    have e3 : nthR q w (t :: L) n = (if t.1 = q ∧ t.2.1 = w then (if n = 1 then t.2.2 else nthR q w L (n - 1)) else nthR q w L n) := rfl
    rw [e, e2, e3]
    by_cases c : t.1 = q ∧ t.2.1 = w
    · simp only [if_pos c]
      by_cases c1 : n = 1
      · simp only [if_pos c1]
        exact ⟨fun _ => trivial, fun h => by omega⟩
      · simp only [if_neg c1]
        obtain ⟨k1, k2⟩ := ih (n := n - 1) (by omega)
        refine ⟨fun h => k1 (by omega), fun h => ?_⟩
        rw [k2 (by omega)]
        congr 1
        omega
    · simp only [if_neg c]
      obtain ⟨k1, k2⟩ := ih h1
      refine ⟨fun h => k1 (by omega), fun h => ?_⟩
      rw [k2 (by omega)]
      congr 1
      omega
theorem cLf_snoc (C : gCT) (r : Nat) : ∀ (m i : Nat), cLf C r i (m + 1) = cLf C r i m ++ [cT C r (i + m)] := by
  intro m
  induction m with
  | zero => intro i; rfl
  | succ m ih =>
    intro i
    show cT C r i :: cLf C r (i + 1) (m + 1) = cT C r i :: (cLf C r (i + 1) m ++ [cT C r (i + (m + 1))])
    rw [ih (i + 1), show i + 1 + m = i + (m + 1) by omega]
theorem rLf_snoc (M : gCT) (r : Nat) : ∀ (m k : Nat), rLf M r k (m + 1) = rLf M r k m ++ (if M 21 30 (k + m) = nI r then [rT M (k + m)] else []) := by
  intro m
  induction m with
  | zero =>
    intro k
    show (if M 21 30 k = nI r then rT M k :: [] else []) = [] ++ _
    rfl
  | succ m ih =>
    intro k
    show (if M 21 30 k = nI r then rT M k :: rLf M r (k + 1) (m + 1) else rLf M r (k + 1) (m + 1)) = (if M 21 30 k = nI r then rT M k :: rLf M r (k + 1) m else rLf M r (k + 1) m) ++ _
    rw [ih (k + 1), show k + 1 + m = k + (m + 1) by omega]
    by_cases c : M 21 30 k = nI r
    · rw [if_pos c, if_pos c]; rfl
    · rw [if_neg c, if_neg c]
theorem cLf_len (C : gCT) (r : Nat) : ∀ (m i : Nat), (cLf C r i m).length = m := by
  intro m
  induction m with
  | zero => intro i; rfl
  | succ m ih => intro i; exact congrArg (· + 1) (ih (i + 1))
theorem cLf_cong {C D : gCT} {r : Nat} : ∀ (m i : Nat), (∀ j, j < i + m → cT D r j = cT C r j) → cLf D r i m = cLf C r i m := by
  intro m
  induction m with
  | zero => intro i _; rfl
  | succ m ih =>
    intro i h
    show cT D r i :: cLf D r (i + 1) m = cT C r i :: cLf C r (i + 1) m
    rw [h i (by omega), ih (i + 1) (fun j hj => h j (by omega))]
theorem rLf_cong {M N : gCT} {r : Nat} : ∀ (m k : Nat), (∀ j, j < k + m → N 21 30 j = M 21 30 j ∧ rT N j = rT M j) → rLf N r k m = rLf M r k m := by
  intro m
  induction m with
  | zero => intro k _; rfl
  | succ m ih =>
    intro k h
    show (if N 21 30 k = nI r then rT N k :: rLf N r (k + 1) m else rLf N r (k + 1) m) = (if M 21 30 k = nI r then rT M k :: rLf M r (k + 1) m else rLf M r (k + 1) m)
    rw [(h k (by omega)).1, (h k (by omega)).2, ih (k + 1) (fun j hj => h j (by omega))]
/-- the class's search -/
theorem m_nth_L_at {C : gCT} {r c : Nat} (hc : C 2 r 1 = nI c) (hc2 : c ≤ 512) {q w : Int32} {n : Nat} (hn2 : n ≤ 1000) : ∀ (m n0 f i : Nat), i + m = c → m < n0 → f < n → f ≤ i → (m_nth_L n0 C r q (nI n) w (nI f) (nI i)).1 = nthR q w (cLf C r i m) (n - f) := by
  intro m
  induction m with
  | zero =>
    intro n0 f i hi hn0 hf hfi
    obtain ⟨k, rfl⟩ : ∃ k, n0 = k + 1 := ⟨n0 - 1, by omega⟩
    unfold m_nth_L
    dsimp only
    rw [hc, if_pos ((nat_le rfl rfl (by omega) (by omega)).mpr (by omega))]
    rfl
  | succ m ih =>
    intro n0 f i hi hn0 hf hfi
    obtain ⟨k, rfl⟩ : ∃ k, n0 = k + 1 := ⟨n0 - 1, by omega⟩
    unfold m_nth_L
    dsimp only
    rw [hc, if_neg (fun z => absurd ((nat_le rfl rfl (by omega) (by omega)).mp z) (by omega)), nI_clamp (by omega), nI_1, nI_1]
    show _ = (if C 13 (1024 * r + i) 0 = q ∧ C 13 (1024 * r + i) 1 = w then (if n - f = 1 then C 13 (1024 * r + i) 2 else nthR q w (cLf C r (i + 1) m) (n - f - 1)) else nthR q w (cLf C r (i + 1) m) (n - f))
    by_cases c1 : C 13 (1024 * r + i) 0 = q
    · by_cases c2 : C 13 (1024 * r + i) 1 = w
      · rw [if_pos c1, if_pos c2, if_pos (show C 13 (1024 * r + i) 0 = q ∧ C 13 (1024 * r + i) 1 = w from ⟨c1, c2⟩)]
        by_cases c3 : n - f = 1
        · rw [if_pos c3, if_pos (show nI (f + 1) = nI n by rw [show f + 1 = n by omega])]
        · rw [if_neg c3, if_neg (show ¬ nI (f + 1) = nI n from fun z => absurd ((nI_eq (by omega) (by omega)).mp z) (by omega)), ih k (f + 1) (i + 1) (by omega) (by omega) (by omega) (by omega)]
          congr 1
      · rw [if_pos c1, if_neg c2, if_neg (fun z => c2 z.2)]
        exact ih k f (i + 1) (by omega) (by omega) hf (by omega)
    · rw [if_neg c1, if_neg (fun z => c1 z.1)]
      exact ih k f (i + 1) (by omega) (by omega) hf (by omega)
theorem m_nth_at {C : gCT} {r c : Nat} (hc : C 2 r 1 = nI c) (hc2 : c ≤ 512) {q : Nat} (hq : q < 16) {n : Nat} (h1 : 1 ≤ n) (hn2 : n ≤ 1000) : (m_nth C r (nI q) (nI n)).1 = nthR (nI q) (C 12 r q) (cLf C r 0 c) n := by
  unfold m_nth
  dsimp only
  rw [(m_addF_at (C 12 r) hq 0).2]
  exact m_nth_L_at hc hc2 hn2 c 2001 0 0 (by omega) (by omega) (by omega) (by omega)
/-- the reference's search: found already -/
theorem nI_neg {j : Nat} (hj : j < 2 ^ 30) : ¬ (0 : Int32) - nI (j + 1) = 0 := by
  intro h
  have h2 : (0 : Int32) - nI (j + 1) + nI (j + 1) = 0 + nI (j + 1) := by rw [h]
  rw [Int32.sub_add_cancel, Int32.zero_add] at h2
  exact nI_ne0 (n := j + 1) (by omega) (by omega) h2.symm
theorem q_answerOf_L_had {M : gCT} {a : Nat} (ha : M 20 0 2 = nI a) (ha2 : a ≤ 512) {r w : Nat} {v : Int32} : ∀ (m n0 j k : Nat) (fd : Int32), k + m = a → m < n0 → j ≤ k → (q_answerOf_L n0 M r w v (0 - nI j) fd k).1 = fd := by
  intro m
  induction m with
  | zero =>
    intro n0 j k fd hk hn0 hj
    obtain ⟨n, rfl⟩ : ∃ k, n0 = k + 1 := ⟨n0 - 1, by omega⟩
    unfold q_answerOf_L
    dsimp only
    rw [ha, if_pos ((nat_le rfl rfl (by omega) (by omega)).mpr (by omega))]
  | succ m ih =>
    intro n0 j k fd hk hn0 hj
    obtain ⟨n, rfl⟩ : ∃ k, n0 = k + 1 := ⟨n0 - 1, by omega⟩
    unfold q_answerOf_L
    dsimp only
    rw [ha, if_neg (fun z => absurd ((nat_le rfl rfl (by omega) (by omega)).mp z) (by omega))]
    have e1 : (0 : Int32) - nI j - 1 = 0 - nI (j + 1) := by
      rw [← nI_1, Int32.sub_sub]
    by_cases c : M 21 30 k = nI r ∧ M 21 31 k = nI w ∧ M 21 32 k = M 21 27 (16 * r + w)
    · rw [if_pos c.1, if_pos c.2.1, if_pos c.2.2, if_neg (show ¬ (1 : Int32) = 0 by decide), if_neg (show ¬ (1 : Int32) = 0 by decide), e1, if_neg (nI_neg (by omega))]
      exact ih n (j + 1) (k + 1) fd (by omega) (by omega) (by omega)
    · have c0 : (if M 21 30 k = nI r then (if M 21 31 k = nI w then (if M 21 32 k = M 21 27 (16 * r + w) then (1 : Int32) else 0) else 0) else 0) = 0 := by
        by_cases d1 : M 21 30 k = nI r
        · by_cases d2 : M 21 31 k = nI w
          · by_cases d3 : M 21 32 k = M 21 27 (16 * r + w)
            · exact absurd ⟨d1, d2, d3⟩ c
            · rw [if_pos d1, if_pos d2, if_neg d3]
          · rw [if_pos d1, if_neg d2]
        · rw [if_neg d1]
      rw [c0, if_pos rfl, if_pos rfl, Int32.sub_zero]
      exact ih n j (k + 1) fd (by omega) (by omega) (by omega)
theorem q_answerOf_L_at {M : gCT} {a : Nat} (ha : M 20 0 2 = nI a) (ha2 : a ≤ 512) {r w : Nat} {v : Int32} : ∀ (m n0 n k : Nat) (fd : Int32), k + m = a → m < n0 → 1 ≤ n → n ≤ 1000 → (cntR (nI w) (M 21 27 (16 * r + w)) (rLf M r k m) < n → (q_answerOf_L n0 M r w v (nI n) fd k).1 = fd) ∧ (n ≤ cntR (nI w) (M 21 27 (16 * r + w)) (rLf M r k m) → ∃ i, i < 512 ∧ (q_answerOf_L n0 M r w v (nI n) fd k).1 = nI i ∧ M 21 33 i = nthR (nI w) (M 21 27 (16 * r + w)) (rLf M r k m) n) := by
  intro m
  induction m with
  | zero =>
    intro n0 n k fd hk hn0 h1 h2
    obtain ⟨n', rfl⟩ : ∃ k, n0 = k + 1 := ⟨n0 - 1, by omega⟩
    refine ⟨fun _ => ?_, fun h => ?_⟩
    · unfold q_answerOf_L
      dsimp only
      rw [ha, if_pos ((nat_le rfl rfl (by omega) (by omega)).mpr (by omega))]
    · have h : n ≤ 0 := h
      omega
  | succ m ih =>
    intro n0 n k fd hk hn0 h1 h2
    obtain ⟨n', rfl⟩ : ∃ k, n0 = k + 1 := ⟨n0 - 1, by omega⟩
    unfold q_answerOf_L
    dsimp only
    rw [ha, if_neg (fun z => absurd ((nat_le rfl rfl (by omega) (by omega)).mp z) (by omega))]
    have eL : rLf M r k (m + 1) = if M 21 30 k = nI r then rT M k :: rLf M r (k + 1) m else rLf M r (k + 1) m := rfl
    rw [eL]
    by_cases c : M 21 30 k = nI r ∧ M 21 31 k = nI w ∧ M 21 32 k = M 21 27 (16 * r + w)
    · have ec : cntR (nI w) (M 21 27 (16 * r + w)) (rT M k :: rLf M r (k + 1) m) = 1 + cntR (nI w) (M 21 27 (16 * r + w)) (rLf M r (k + 1) m) := by
        show (if M 21 31 k = nI w ∧ M 21 32 k = M 21 27 (16 * r + w) then 1 else 0) + _ = _
        rw [if_pos c.2]
      have en : nthR (nI w) (M 21 27 (16 * r + w)) (rT M k :: rLf M r (k + 1) m) n = if n = 1 then M 21 33 k else nthR (nI w) (M 21 27 (16 * r + w)) (rLf M r (k + 1) m) (n - 1) := by
        show (if M 21 31 k = nI w ∧ M 21 32 k = M 21 27 (16 * r + w) then _ else _) = _
        rw [if_pos c.2]
        rfl
      have es : nI n - 1 = nI (n - 1) := nat_sub rfl (show (1 : Int32) = nI 1 from rfl) h1
      rw [if_pos c.1, if_pos c.1, if_pos c.2.1, if_pos c.2.2, if_neg (show ¬ (1 : Int32) = 0 by decide), if_neg (show ¬ (1 : Int32) = 0 by decide), es, ec, en]
      by_cases c1 : n = 1
      · subst c1
        have e0 : nI (1 - 1) = 0 := rfl
        rw [e0, if_pos rfl, if_pos rfl]
        refine ⟨fun h => by omega, fun _ => ⟨k, by omega, ?_, rfl⟩⟩
        exact q_answerOf_L_had ha ha2 m n' 0 (k + 1) (nI k) (by omega) (by omega) (by omega)
      · rw [if_neg (nI_ne0 (n := n - 1) (by omega) (by omega)), if_neg c1]
        obtain ⟨i1, i2⟩ := ih n' (n - 1) (k + 1) fd (by omega) (by omega) (by omega) (by omega)
        exact ⟨fun h => i1 (by omega), fun h => i2 (by omega)⟩
    · have c0 : (if M 21 30 k = nI r then (if M 21 31 k = nI w then (if M 21 32 k = M 21 27 (16 * r + w) then (1 : Int32) else 0) else 0) else 0) = 0 := by
        by_cases d1 : M 21 30 k = nI r
        · by_cases d2 : M 21 31 k = nI w
          · by_cases d3 : M 21 32 k = M 21 27 (16 * r + w)
            · exact absurd ⟨d1, d2, d3⟩ c
            · rw [if_pos d1, if_pos d2, if_neg d3]
          · rw [if_pos d1, if_neg d2]
        · rw [if_neg d1]
      rw [c0, if_pos rfl, if_pos rfl, Int32.sub_zero]
      have key := ih n' n (k + 1) fd (by omega) (by omega) h1 h2
      by_cases d1 : M 21 30 k = nI r
      · rw [if_pos d1]
        have d2 : ¬ (M 21 31 k = nI w ∧ M 21 32 k = M 21 27 (16 * r + w)) := fun z => c ⟨d1, z⟩
        have ec : cntR (nI w) (M 21 27 (16 * r + w)) (rT M k :: rLf M r (k + 1) m) = cntR (nI w) (M 21 27 (16 * r + w)) (rLf M r (k + 1) m) := by
          show (if M 21 31 k = nI w ∧ M 21 32 k = M 21 27 (16 * r + w) then 1 else 0) + _ = _
          rw [if_neg d2, Nat.zero_add]
        have en : nthR (nI w) (M 21 27 (16 * r + w)) (rT M k :: rLf M r (k + 1) m) n = nthR (nI w) (M 21 27 (16 * r + w)) (rLf M r (k + 1) m) n := by
          show (if M 21 31 k = nI w ∧ M 21 32 k = M 21 27 (16 * r + w) then _ else _) = _
          rw [if_neg d2]
        rw [ec, en]
        exact key
      · rw [if_neg d1]
        exact key
theorem q_ans_at {M : gCT} {a : Nat} (ha : M 20 0 2 = nI a) (ha2 : a ≤ 512) {r w n : Nat} (h1 : 1 ≤ n) (h2 : n ≤ 1000) (hv : ∀ t ∈ rLf M r 0 a, ¬ t.2.2 = -1) : q_ans M r w (nI n) = nthR (nI w) (M 21 27 (16 * r + w)) (rLf M r 0 a) n ∧ (¬ (q_answerOf M r w (nI n)).1 < 0 → ¬ M 21 33 (q_answerOf M r w (nI n)).1.toNatClampNeg = -1) := by
  obtain ⟨i1, i2⟩ := q_answerOf_L_at (v := nI n) ha ha2 (r := r) (w := w) a 513 n 0 (-1) (by omega) (by omega) h1 h2
  have eq : q_answerOf M r w (nI n) = q_answerOf_L 513 M r w (nI n) (nI n) (-1) 0 := rfl
  unfold q_ans
  rw [eq]
  by_cases c : cntR (nI w) (M 21 27 (16 * r + w)) (rLf M r 0 a) < n
  · rw [i1 c, if_pos (by decide), nthR_no _ h1 c]
    exact ⟨rfl, fun z => absurd (by decide) z⟩
  · obtain ⟨i, k1, k2, k3⟩ := i2 (by omega)
    have hn : ¬ nI i < 0 := fun z => absurd ((nat_lt rfl (show (0 : Int32) = nI 0 from rfl) (by omega) (by decide)).mp z) (Nat.not_lt_zero _)
    rw [k2, if_neg hn, nI_clamp (by omega), k3]
    exact ⟨rfl, fun _ => nthR_yes _ h1 (by omega) hv⟩

/-! ===== the class's own theory, as in whole ===== -/
theorem cs_n (C : gCT) (κ : Nat) {n n' : Nat} (j : Nat) (v : Int32) (h : n' ≠ n) : cs C κ n j v κ n' = C κ n' := g2_n _ _ (fun e => h e.2)
theorem cs_rd (C : gCT) (κ n j : Nat) (v : Int32) (κ' n' j' : Nat) : cs C κ n j v κ' n' j' = if κ' = κ ∧ n' = n ∧ j' = j then v else C κ' n' j' := by
  unfold cs g2 upd
  by_cases h1 : κ' = κ ∧ n' = n
  · rw [if_pos h1]
    by_cases h2 : j' = j
    · rw [if_pos h2, if_pos ⟨h1.1, h1.2, h2⟩]
    · rw [if_neg h2, if_neg (fun e => h2 e.2.2), h1.1, h1.2]
  · rw [if_neg h1, if_neg (fun e => h1 ⟨e.1, e.2.1⟩)]
abbrev aT : Type := Int32 × Int32 × Int32
def cT (C : gCT) (r j : Nat) : aT := (C 13 (1024 * r + j) 0, C 13 (1024 * r + j) 1, C 13 (1024 * r + j) 2)
def cLf (C : gCT) (r : Nat) : Nat → Nat → List aT
  | _, 0 => []
  | i, m + 1 => cT C r i :: cLf C r (i + 1) m
def nthR (q w : Int32) : List aT → Nat → Int32
  | [], _ => -1
  | t :: L, n => if t.1 = q ∧ t.2.1 = w then (if n = 1 then t.2.2 else nthR q w L (n - 1)) else nthR q w L n
def cntR (q w : Int32) : List aT → Nat
  | [] => 0
  | t :: L => (if t.1 = q ∧ t.2.1 = w then 1 else 0) + cntR q w L
theorem cntR_le (q w : Int32) (L : List aT) : cntR q w L ≤ L.length := by
  induction L with
  | nil => exact Nat.le_refl _
  | cons t L ih =>
    show (if t.1 = q ∧ t.2.1 = w then 1 else 0) + cntR q w L ≤ L.length + 1
    split <;> omega
theorem cntR_app (q w : Int32) (L K : List aT) : cntR q w (L ++ K) = cntR q w L + cntR q w K := by
  induction L with
  | nil => simp [cntR]
  | cons t L ih =>
    show (if t.1 = q ∧ t.2.1 = w then 1 else 0) + cntR q w (L ++ K) = _
    rw [ih]
    show _ = (if t.1 = q ∧ t.2.1 = w then 1 else 0) + cntR q w L + cntR q w K
    omega
theorem nthR_no {q w : Int32} : ∀ (L : List aT) {n : Nat}, 1 ≤ n → cntR q w L < n → nthR q w L n = -1 := by
  intro L
  induction L with
  | nil => intro n _ _; rfl
  | cons t L ih =>
    intro n h1 h
    have h : (if t.1 = q ∧ t.2.1 = w then 1 else 0) + cntR q w L < n := h
    show (if t.1 = q ∧ t.2.1 = w then (if n = 1 then t.2.2 else nthR q w L (n - 1)) else nthR q w L n) = -1
    by_cases c : t.1 = q ∧ t.2.1 = w
    · rw [if_pos c] at h ⊢
      by_cases c1 : n = 1
      · omega
      · rw [if_neg c1]
        exact ih (by omega) (by omega)
    · rw [if_neg c] at h ⊢
      exact ih h1 (by omega)
theorem nthR_yes {q w : Int32} : ∀ (L : List aT) {n : Nat}, 1 ≤ n → n ≤ cntR q w L → (∀ t ∈ L, ¬ t.2.2 = -1) → ¬ nthR q w L n = -1 := by
  intro L
  induction L with
  | nil =>
    intro n h1 h _
    have h : n ≤ 0 := h
    omega
  | cons t L ih =>
    intro n h1 h hv
    have h : n ≤ (if t.1 = q ∧ t.2.1 = w then 1 else 0) + cntR q w L := h
    show ¬ (if t.1 = q ∧ t.2.1 = w then (if n = 1 then t.2.2 else nthR q w L (n - 1)) else nthR q w L n) = -1
    by_cases c : t.1 = q ∧ t.2.1 = w
    · rw [if_pos c] at h ⊢
      by_cases c1 : n = 1
      · rw [if_pos c1]; exact hv t List.mem_cons_self
      · rw [if_neg c1]
        exact ih (by omega) (by omega) (fun t ht => hv t (List.mem_cons_of_mem _ ht))
    · rw [if_neg c] at h ⊢
      exact ih h1 (by omega) (fun t ht => hv t (List.mem_cons_of_mem _ ht))
theorem nthR_app {q w : Int32} : ∀ (L K : List aT) {n : Nat}, 1 ≤ n → (n ≤ cntR q w L → nthR q w (L ++ K) n = nthR q w L n) ∧ (cntR q w L < n → nthR q w (L ++ K) n = nthR q w K (n - cntR q w L)) := by
  intro L K
  induction L with
  | nil =>
    intro n h1
    refine ⟨fun h => ?_, fun _ => rfl⟩
    have h : n ≤ 0 := h
    omega
  | cons t L ih =>
    intro n h1
    have e : cntR q w (t :: L) = (if t.1 = q ∧ t.2.1 = w then 1 else 0) + cntR q w L := rfl
    have e2 : nthR q w (t :: L ++ K) n = (if t.1 = q ∧ t.2.1 = w then (if n = 1 then t.2.2 else nthR q w (L ++ K) (n - 1)) else nthR q w (L ++ K) n) := rfl
    have e3 : nthR q w (t :: L) n = (if t.1 = q ∧ t.2.1 = w then (if n = 1 then t.2.2 else nthR q w L (n - 1)) else nthR q w L n) := rfl
    rw [e, e2, e3]
    by_cases c : t.1 = q ∧ t.2.1 = w
    · simp only [if_pos c]
      by_cases c1 : n = 1
      · simp only [if_pos c1]
        exact ⟨fun _ => trivial, fun h => by omega⟩
      · simp only [if_neg c1]
        obtain ⟨k1, k2⟩ := ih (n := n - 1) (by omega)
        refine ⟨fun h => k1 (by omega), fun h => ?_⟩
        rw [k2 (by omega)]
        congr 1
        omega
    · simp only [if_neg c]
      obtain ⟨k1, k2⟩ := ih h1
      refine ⟨fun h => k1 (by omega), fun h => ?_⟩
      rw [k2 (by omega)]
      congr 1
      omega
theorem cLf_snoc (C : gCT) (r : Nat) : ∀ (m i : Nat), cLf C r i (m + 1) = cLf C r i m ++ [cT C r (i + m)] := by
  intro m
  induction m with
  | zero => intro i; rfl
  | succ m ih =>
    intro i
    show cT C r i :: cLf C r (i + 1) (m + 1) = cT C r i :: (cLf C r (i + 1) m ++ [cT C r (i + (m + 1))])
    rw [ih (i + 1), show i + 1 + m = i + (m + 1) by omega]
theorem cLf_len (C : gCT) (r : Nat) : ∀ (m i : Nat), (cLf C r i m).length = m := by
  intro m
  induction m with
  | zero => intro i; rfl
  | succ m ih => intro i; exact congrArg (· + 1) (ih (i + 1))
theorem cLf_cong {C D : gCT} {r : Nat} : ∀ (m i : Nat), (∀ j, j < i + m → cT D r j = cT C r j) → cLf D r i m = cLf C r i m := by
  intro m
  induction m with
  | zero => intro i _; rfl
  | succ m ih =>
    intro i h
    show cT D r i :: cLf D r (i + 1) m = cT C r i :: cLf C r (i + 1) m
    rw [h i (by omega), ih (i + 1) (fun j hj => h j (by omega))]
theorem m_nth_L_at {C : gCT} {r c : Nat} (hc : C 2 r 1 = nI c) (hc2 : c ≤ 512) {q w : Int32} {n : Nat} (hn2 : n ≤ 1000) : ∀ (m n0 f i : Nat), i + m = c → m < n0 → f < n → f ≤ i → (m_nth_L n0 C r q (nI n) w (nI f) (nI i)).1 = nthR q w (cLf C r i m) (n - f) := by
  intro m
  induction m with
  | zero =>
    intro n0 f i hi hn0 hf hfi
    obtain ⟨k, rfl⟩ : ∃ k, n0 = k + 1 := ⟨n0 - 1, by omega⟩
    unfold m_nth_L
    dsimp only
    rw [hc, if_pos ((nat_le rfl rfl (by omega) (by omega)).mpr (by omega))]
    rfl
  | succ m ih =>
    intro n0 f i hi hn0 hf hfi
    obtain ⟨k, rfl⟩ : ∃ k, n0 = k + 1 := ⟨n0 - 1, by omega⟩
    unfold m_nth_L
    dsimp only
    rw [hc, if_neg (fun z => absurd ((nat_le rfl rfl (by omega) (by omega)).mp z) (by omega)), nI_clamp (by omega), nI_1, nI_1]
    show _ = (if C 13 (1024 * r + i) 0 = q ∧ C 13 (1024 * r + i) 1 = w then (if n - f = 1 then C 13 (1024 * r + i) 2 else nthR q w (cLf C r (i + 1) m) (n - f - 1)) else nthR q w (cLf C r (i + 1) m) (n - f))
    by_cases c1 : C 13 (1024 * r + i) 0 = q
    · by_cases c2 : C 13 (1024 * r + i) 1 = w
      · rw [if_pos c1, if_pos c2, if_pos (show C 13 (1024 * r + i) 0 = q ∧ C 13 (1024 * r + i) 1 = w from ⟨c1, c2⟩)]
        by_cases c3 : n - f = 1
        · rw [if_pos c3, if_pos (show nI (f + 1) = nI n by rw [show f + 1 = n by omega])]
        · rw [if_neg c3, if_neg (show ¬ nI (f + 1) = nI n from fun z => absurd ((nI_eq (by omega) (by omega)).mp z) (by omega)), ih k (f + 1) (i + 1) (by omega) (by omega) (by omega) (by omega)]
          congr 1
      · rw [if_pos c1, if_neg c2, if_neg (fun z => c2 z.2)]
        exact ih k f (i + 1) (by omega) (by omega) hf (by omega)
    · rw [if_neg c1, if_neg (fun z => c1 z.1)]
      exact ih k f (i + 1) (by omega) (by omega) hf (by omega)
theorem m_nth_at {C : gCT} {r c : Nat} (hc : C 2 r 1 = nI c) (hc2 : c ≤ 512) {q : Nat} (hq : q < 16) {n : Nat} (h1 : 1 ≤ n) (hn2 : n ≤ 1000) : (m_nth C r (nI q) (nI n)).1 = nthR (nI q) (C 12 r q) (cLf C r 0 c) n := by
  unfold m_nth
  dsimp only
  rw [(m_addF_at (C 12 r) hq 0).2]
  exact m_nth_L_at hc hc2 hn2 c 2001 0 0 (by omega) (by omega) (by omega) (by omega)
def sCt (C : gCT) (r : Nat) : Nat → Nat := fun q => cntR (nI q) (C 12 r q) (cLf C r 0 (gCnt C r))
theorem isB (x : Int32) {c : Nat} (hc : c < 2 ^ 31) : m_isWithin x 0 (nI c - 1) = q_isBelow x (nI c) := by
  have h5 : (nI c - 1).toInt = (nI c).toInt - (1 : Int32).toInt := sub_toInt' (by rw [nI_toInt hc]; simp; omega) (by rw [nI_toInt hc]; simp; omega)
  rw [nI_toInt hc] at h5
  unfold m_isWithin q_isBelow
  by_cases h1 : x < 0
  · rw [if_pos h1, if_pos h1]
  · rw [if_neg h1, if_neg h1]
    have e : (nI c - 1 < x) = (nI c ≤ x) := by
      refine propext ⟨fun h => ?_, fun h => ?_⟩
      · have h2 := Int32.lt_iff_toInt_lt.mp h
        refine Int32.le_iff_toInt_le.mpr ?_
        rw [nI_toInt hc]
        rw [h5] at h2
        simp at h2
        omega
      · have h2 := Int32.le_iff_toInt_le.mp h
        refine Int32.lt_iff_toInt_lt.mpr ?_
        rw [h5]
        rw [nI_toInt hc] at h2
        simp
        omega
    by_cases h2 : nI c ≤ x
    · rw [if_pos (by rw [e]; exact h2), if_pos h2]
    · rw [if_neg (by rw [e]; exact h2), if_neg h2]
theorem isB4 (x : Int32) : m_isWithin x 0 3 = q_isBelow x 4 := isB x (c := 4) (by decide)
theorem isB8 (x : Int32) : m_isWithin x 0 7 = q_isBelow x 8 := isB x (c := 8) (by decide)
theorem isB16 (x : Int32) : m_isWithin x 0 15 = q_isBelow x 16 := isB x (c := 16) (by decide)
theorem formAt_eq (C : gCT) (x : Int32) : m_formAt C x = if q_isBelow x 4 = 0 then 1 else 0 := by
  unfold m_formAt
  dsimp only
  rw [isB4]
theorem m_isW_01 (a b c : Int32) : m_isWithin a b c = 0 ∨ m_isWithin a b c = 1 := by
  unfold m_isWithin
  split
  · exact Or.inl rfl
  · split
    · exact Or.inl rfl
    · exact Or.inr rfl
theorem one_ne : ¬ (1 : Int32) = 0 := by decide
theorem n1_ne : ¬ (1 : Nat) = 0 := by decide
theorem formNo {C : gCT} {x : Int32} (c : q_isBelow x 4 = 0) : m_formAt C x = 1 := by rw [formAt_eq, if_pos c]
theorem formYes {C : gCT} {x : Int32} (c : ¬ q_isBelow x 4 = 0) : m_formAt C x = 0 := by rw [formAt_eq, if_neg c]
theorem m_nth_L_cong2 {C D : gCT} {r c : Nat} (hc : C 2 r 1 = nI c) (hc2 : c ≤ 512) (h2 : D 2 r 1 = C 2 r 1) (h13 : ∀ j, j < c → cT D r j = cT C r j) (q n w : Int32) : ∀ (n0 j : Nat) (f : Int32), j ≤ c → (m_nth_L n0 D r q n w f (nI j)).1 = (m_nth_L n0 C r q n w f (nI j)).1 := by
  intro n0
  induction n0 with
  | zero => intro j f _; rfl
  | succ n0 ih =>
    intro j f hj
    unfold m_nth_L
    dsimp only
    rw [h2, hc]
    by_cases c1 : nI c ≤ nI j
    · rw [if_pos c1, if_pos c1]
    · have hjc : j < c := by
        exact Nat.not_le.mp (fun z => c1 ((nat_le rfl rfl (by omega) (by omega)).mpr z))
      have e := h13 j hjc
      have e0 : D 13 (1024 * r + j) 0 = C 13 (1024 * r + j) 0 := congrArg Prod.fst e
      have e1 : D 13 (1024 * r + j) 1 = C 13 (1024 * r + j) 1 := congrArg (fun z => z.2.1) e
      have e2 : D 13 (1024 * r + j) 2 = C 13 (1024 * r + j) 2 := congrArg (fun z => z.2.2) e
      rw [if_neg c1, if_neg c1, nI_clamp (by omega), e0, e1, e2, nI_1]
      have k := fun g => ih (j + 1) g (by omega)
      by_cases d1 : C 13 (1024 * r + j) 0 = q
      · rw [if_pos d1, if_pos d1]
        by_cases d2 : C 13 (1024 * r + j) 1 = w
        · rw [if_pos d2, if_pos d2]
          by_cases d3 : f + 1 = n
          · rw [if_pos d3, if_pos d3]
          · rw [if_neg d3, if_neg d3]; exact k _
        · rw [if_neg d2, if_neg d2]; exact k _
      · rw [if_neg d1, if_neg d1]; exact k _
theorem envC_cong2 {C D : gCT} {r c d : Nat} (hd : (C 11 r 7).toNatClampNeg = d) (hc : C 2 r 1 = nI c) (hc2 : c ≤ 512) (h12 : D 12 r = C 12 r) (h2 : D 2 r 1 = C 2 r 1) (h13 : ∀ j, j < c → cT D r j = cT C r j) (h11 : D 11 r 7 = C 11 r 7) (h15 : D 15 d = C 15 d) (h16 : D 16 d = C 16 d) (h14 : D 14 d 0 = C 14 d 0) : envC D r = envC C r := by
  unfold envC
  rw [h11, hd, h15, h16, h14]
  have e : (fun q n => (m_nth D r q n).1) = fun q n => (m_nth C r q n).1 := by
    funext q n
    unfold m_nth
    simp only [h12]
    exact m_nth_L_cong2 hc hc2 h2 h13 q n _ 2001 0 0 (Nat.zero_le _)
  rw [e]
def cSm (C D : gCT) (r : Nat) : Prop := D 11 r = C 11 r ∧ D 12 r = C 12 r ∧ D 2 r 1 = C 2 r 1 ∧ (∀ j, j < gCnt C r → cT D r j = cT C r j) ∧ D 7 r = C 7 r ∧ D 8 r = C 8 r ∧ D 9 r = C 9 r ∧ D 10 r = C 10 r
theorem ite_10 {α : Type} {c : Prop} [Decidable c] (A B : α) : (if (if c then (1 : Int32) else 0) = 0 then A else B) = if c then B else A := by
  by_cases h : c
  · rw [if_pos h, if_pos h, if_neg one_ne]
  · rw [if_neg h, if_neg h, if_pos rfl]
theorem ite_01 {α : Type} {c : Prop} [Decidable c] (A B : α) : (if (if c then (0 : Int32) else 1) = 0 then A else B) = if c then A else B := by
  by_cases h : c
  · rw [if_pos h, if_pos h, if_pos rfl]
  · rw [if_neg h, if_neg h, if_neg one_ne]
def aVal (t : aT) : Int32 := 1000 * t.2.1 + 10 * t.1 + t.2.2
theorem cLf_get (C : gCT) (r : Nat) : ∀ (m i j : Nat), j < m → (cLf C r i m)[j]? = some (cT C r (i + j)) := by
  intro m
  induction m with
  | zero => intro i j h; omega
  | succ m ih =>
    intro i j h
    cases j with
    | zero => rfl
    | succ j =>
      show (cLf C r (i + 1) m)[j]? = _
      rw [ih (i + 1) j (by omega), show i + 1 + j = i + (j + 1) by omega]
theorem ite_same {α : Type} {c : Prop} [Decidable c] (A : α) : (if c then A else A) = A := by split <;> rfl
theorem m_append_at {C : gCT} {d j : Nat} (hd : C 14 d 0 = nI j) (hj : j < 24) (v w : Int32) : m_append C d v w = cs (cs (cs C 15 d j v) 16 d j w) 14 d 0 (nI (j + 1)) := by
  unfold m_append
  dsimp only
  have hf : (m_isFull C d).1 = 0 := by
    unfold m_isFull
    dsimp only
    rw [hd, if_pos ((nat_lt rfl (show (24 : Int32) = nI 24 from rfl) (by omega) (by decide)).mpr hj)]
  rw [hf, if_pos rfl, m_isFull_C, cs_k _ _ _ _ (show (14 : Nat) ≠ 15 by decide), hd, nI_clamp (by omega), cs_k _ _ _ _ (show (14 : Nat) ≠ 16 by decide), cs_k _ _ _ _ (show (14 : Nat) ≠ 15 by decide), hd, nI_1]
theorem m_publish_inv {C : gCT} (hI : gInv C) (x : Int32) : gInv (m_publish C x).2.2 := by
  unfold m_publish
  dsimp only
  by_cases c : m_formAt C x = 0
  · rw [if_pos c]
    by_cases c1 : C 14 (8 * x.toNatClampNeg + (C 4 x.toNatClampNeg 0).toNatClampNeg + 1) 0 = 0
    · rw [if_pos c1]; exact hI
    · rw [if_neg c1]
      by_cases c2 : C 4 x.toNatClampNeg 0 < 6
      · rw [if_pos c2]
        have hx : x.toNatClampNeg < 4 := by
          by_cases e : q_isBelow x 4 = 0
          · rw [formNo e] at c; exact absurd c n1_ne
          · exact (q_isBelow_of (N := 4) rfl (by decide) e).2
        exact m_mv_inv hI hx (pb_vn hI hx c2)
      · rw [if_neg c2]; exact hI
  · rw [if_neg c]; exact hI
theorem m_at_nat (g : Nat → Int32) {i N : Nat} (hi : i < N) (hN : N < 2 ^ 31) (v : Int32) : m_at g N (nI i) = g i ∧ m_addF N g (nI i) v = upd g i (g i + v) := by
  have h1 : ¬ nI i < 0 := fun e => absurd ((nat_lt rfl (show (0 : Int32) = nI 0 from rfl) (by omega) (by decide)).mp e) (Nat.not_lt_zero _)
  have h2 : ¬ nI N ≤ nI i := fun e => absurd ((nat_le rfl rfl (by omega) (by omega)).mp e) (by omega)
  unfold m_at m_addF
  rw [if_neg h1, if_neg h2, if_neg h1, if_neg h2, nI_clamp (by omega)]
  exact ⟨rfl, rfl⟩
def goG (C : gCT) (f p : Nat) : Nat := if C 6 f (p % 4) < C 5 f (p % 4) then 1000 else 0
def goZ (C : gCT) (r f p : Nat) : aM := a_L (envC C r) 201 (a_open (aGet C r) (nI (goG C f p)))
def goW (C : gCT) (f : Nat) (z : aM) : Int32 := if C 4 f 2 < z.1 3 then C 4 f 2 else z.1 3
def go8 (C : gCT) (r : Nat) (z : aM) : gCT := cs (aPut C r z) 11 r 4 (z.1 4)
theorem go8_k (C : gCT) (r : Nat) (z : aM) {κ : Nat} (h : κ < 7 ∨ 11 < κ) : go8 C r z κ = C κ := by
  unfold go8
  rw [cs_k _ _ _ _ (by omega), aPut_k C r z (by omega)]
theorem go8_n (C : gCT) (r : Nat) (z : aM) {n : Nat} (h : n ≠ r) (κ : Nat) : go8 C r z κ n = C κ n := by
  unfold go8
  by_cases e : κ = 11
  · subst e; rw [cs_n _ _ _ _ h, aPut_n C r z h]
  · rw [cs_k _ _ _ _ e, aPut_n C r z h]
theorem go8_11 (C : gCT) (r : Nat) (z : aM) (j : Nat) : go8 C r z 11 r j = if j = 4 then z.1 4 else C 11 r j := by
  unfold go8
  by_cases e : j = 4
  · subst e; rw [if_pos rfl, cs_s]
  · rw [if_neg e, cs_o _ _ _ _ e, aPut_k C r z (by decide)]
theorem go8_7 (C : gCT) (r : Nat) (z : aM) : go8 C r z 7 r = z.1 ∧ go8 C r z 8 r = z.2.1 ∧ go8 C r z 9 r = z.2.2.1 ∧ go8 C r z 10 r = z.2.2.2 := by
  unfold go8
  rw [cs_k _ _ _ _ (by decide), cs_k _ _ _ _ (by decide), cs_k _ _ _ _ (by decide), cs_k _ _ _ _ (by decide), aPut_7, aPut_8, aPut_9, aPut_10]
  exact ⟨rfl, rfl, rfl, rfl⟩
theorem go_at {C : gCT} {r f p : Nat} (hf : f < 4) (h6 : C 11 r 6 = nI f) (h1 : C 11 r 1 = nI (p % 4)) (hp : p < 16) (h0 : C 11 r 0 = nI p) : m_go C r = if (goZ C r f p).1 4 = 2 then g2 (cs (g2 (go8 C r (goZ C r f p)) 6 f (upd (C 6 f) (p % 4) (C 6 f (p % 4) + 1))) 4 f 2 (C 4 f 2 - goW C f (goZ C r f p))) 19 0 (upd (C 19 0) p (C 19 0 p + goW C f (goZ C r f p))) else if (goZ C r f p).1 4 = 5 then cs (cs (go8 C r (goZ C r f p)) 4 f 2 (C 4 f 2 + C 11 r 5)) 0 0 0 (C 0 0 0 + C 11 r 5) else if (goZ C r f p).1 4 = 4 then cs (cs (go8 C r (goZ C r f p)) 4 f 2 (C 4 f 2 + C 11 r 5)) 0 0 0 (C 0 0 0 + C 11 r 5) else go8 C r (goZ C r f p) := by
  have hfull : (if (m_isFullFor C f (nI (p % 4))).1 = 0 then (1000 : Int32) else 0) = nI (goG C f p) := by
    unfold m_isFullFor goG
    dsimp only
    rw [(m_at_nat (C 6 f) (i := p % 4) (N := 4) (by omega) (by decide) 0).1, (m_at_nat (C 5 f) (i := p % 4) (N := 4) (by omega) (by decide) 0).1]
    by_cases c : C 6 f (p % 4) < C 5 f (p % 4)
    · rw [if_pos c, if_pos c]; rfl
    · rw [if_neg c, if_neg c]; rfl
  have hgo : m_goOn C r r (nI (goG C f p)) = aPut C r (goZ C r f p) := by
    have := A_goOn C r r (aGet C r) (nI (goG C f p))
    rwa [aPut_aGet] at this
  unfold m_go
  dsimp only
  rw [h1, h6, nI_clamp (by omega), hfull, hgo]
  generalize goZ C r f p = z
  have e8 : cs (aPut C r z) 11 r 4 (aPut C r z 7 r 4) = go8 C r z := by rw [aPut_7]; rfl
  rw [e8]
  have e4 : go8 C r z 11 r 4 = z.1 4 := by rw [go8_11, if_pos rfl]
  have e5 : go8 C r z 11 r 5 = C 11 r 5 := by rw [go8_11, if_neg (by decide)]
  have e6 : (go8 C r z 11 r 6).toNatClampNeg = f := by rw [go8_11, if_neg (by decide), h6, nI_clamp (by omega)]
  have e1 : go8 C r z 11 r 1 = nI (p % 4) := by rw [go8_11, if_neg (by decide)]; exact h1
  have e0 : go8 C r z 11 r 0 = nI p := by rw [go8_11, if_neg (by decide)]; exact h0
  have ek : ∀ {κ : Nat}, (κ < 7 ∨ 11 < κ) → go8 C r z κ = C κ := fun h => go8_k C r z h
  rw [e4, e6, e5, e1, ek (show 4 < 7 ∨ 11 < 4 by decide)]
  by_cases c2 : z.1 4 = 2
  · rw [if_pos c2, if_pos c2]
    have eA : m_addTo (go8 C r z) 6 f 4 (nI (p % 4)) 1 = g2 (go8 C r z) 6 f (upd (C 6 f) (p % 4) (C 6 f (p % 4) + 1)) := by
      unfold m_addTo
      rw [(m_at_nat (go8 C r z 6 f) (i := p % 4) (N := 4) (by omega) (by decide) 1).2, ek (show 6 < 7 ∨ 11 < 6 by decide)]
    rw [eA]
    have g7 : g2 (go8 C r z) 6 f (upd (C 6 f) (p % 4) (C 6 f (p % 4) + 1)) 7 = go8 C r z 7 := g2_k _ _ (by decide)
    have g4 : g2 (go8 C r z) 6 f (upd (C 6 f) (p % 4) (C 6 f (p % 4) + 1)) 4 = C 4 := (g2_k _ _ (by decide)).trans (ek (by decide))
    have g11 : g2 (go8 C r z) 6 f (upd (C 6 f) (p % 4) (C 6 f (p % 4) + 1)) 11 = go8 C r z 11 := g2_k _ _ (by decide)
    have g19 : g2 (go8 C r z) 6 f (upd (C 6 f) (p % 4) (C 6 f (p % 4) + 1)) 19 = C 19 := (g2_k _ _ (by decide)).trans (ek (by decide))
    rw [g7, g4, g11, e6, (go8_7 C r z).1]
    show m_pay2 _ r (goW C f z) = _
    unfold m_pay2
    dsimp only
    rw [g11, e6, g4, cs_k _ _ _ _ (show (11 : Nat) ≠ 4 by decide), g11, e0]
    unfold m_addTo
    rw [cs_k _ _ _ _ (show (19 : Nat) ≠ 4 by decide), g19, (m_at_nat (C 19 0) hp (by decide) _).2]
  · rw [if_neg c2, if_neg c2]
    have k11 : ∀ v, cs (go8 C r z) 4 f 2 v 11 = go8 C r z 11 := fun v => cs_k _ _ _ _ (by decide)
    have k0 : ∀ v, cs (go8 C r z) 4 f 2 v 0 = C 0 := fun v => (cs_k _ _ _ _ (by decide)).trans (ek (by decide))
    rw [k11, e5, k0]
def aV (w : Int32) : Prop := w = 0 ∨ w = 2 ∨ w = 3 ∨ w = 4 ∨ w = 5 ∨ w = 7
theorem aV.of4 {x y : aM} (hx : x.1 4 = 7) (h : a4 x y) : aV (y.1 4) := by
  rcases h with h | h
  · rw [h, hx]; unfold aV; decide
  · rw [h]; unfold aV; decide
theorem aV.perf (ans : Int32 → Int32 → Int32) {x : aM} (i v : Int32) (hx : x.1 4 = 7) : aV ((a_perf ans x i v).1 4) := by
  have hp : ∀ w, aV ((a_put x w).1 4) := fun w => aV.of4 hx (a4.put x w)
  have hc : ∀ w, aV ((a_comb x w).1 4) := fun w => aV.of4 hx (a4.comb x w)
  have ht : aV ((a_take x).2.1 4) := aV.of4 hx (a4.take x)
  have h7 : aV (x.1 4) := by rw [hx]; unfold aV; decide
  have hg : ∀ w, aV w → aV ((a_st (a_gate x).2 w).1 4) := fun w hw => by
    rw [show (a_st (a_gate x).2 w).1 4 = w from sr_s _ 4 w]; exact hw
  have hg1 : ∀ {c : Prop} [Decidable c] {w : Int32}, aV w → aV (if c then (3 : Int32) else w) := by
    intro c _ w hw
    split
    · unfold aV; decide
    · exact hw
  have ha : aV ((a_ask ans x v).1 4) := by
    unfold a_ask
    split
    · exact Or.inl (upd_s (upd x.1 5 v) 4 0)
    · exact aV.of4 (x := (x.1, x.2.1, x.2.2.1, m_addF 16 x.2.2.2 v 1)) hx (a4.put _ _)
  have hs : aV ((a_store x v).1 4) := by
    unfold a_store
    split
    · split <;> exact ht
    · exact ht
  have hj : aV ((a_jz x v).1 4) := by
    unfold a_jz
    split
    · split
      · rw [show ((upd (a_take x).2.1 1 v, (a_take x).2.2) : aM).1 4 = (a_take x).2.1 4 from sr_o (a_take x).2 1 4 v (by decide)]; exact ht
      · exact ht
    · exact ht
  have h8 : aV (((upd x.1 1 v, x.2) : aM).1 4) := by rw [sr_o x 1 4 v (by decide)]; exact h7
  have h10 : aV (((upd x.1 3 (x.1 3 + v), x.2) : aM).1 4) := by rw [sr_o x 3 4 _ (by decide)]; exact h7
  have v7 : aV 7 := by unfold aV; decide
  have v2 : aV 2 := by unfold aV; decide
  unfold a_perf
  by_cases i0 : i = 0
  · rw [if_pos i0]; exact ha
  rw [if_neg i0]
  by_cases i1 : i = 1
  · rw [if_pos i1]; exact hp _
  rw [if_neg i1]
  by_cases i2 : i = 2
  · rw [if_pos i2]; exact hp _
  rw [if_neg i2]
  by_cases i3 : i = 3
  · rw [if_pos i3]; exact hs
  rw [if_neg i3]
  by_cases i4 : i = 4
  · rw [if_pos i4]; exact hc _
  rw [if_neg i4]
  by_cases i5 : i = 5
  · rw [if_pos i5]; exact hc _
  rw [if_neg i5]
  by_cases i6 : i = 6
  · rw [if_pos i6]; exact hc _
  rw [if_neg i6]
  by_cases i7 : i = 7
  · rw [if_pos i7]; exact hc _
  rw [if_neg i7]
  by_cases i8 : i = 8
  · rw [if_pos i8]; exact h8
  rw [if_neg i8]
  by_cases i9 : i = 9
  · rw [if_pos i9]; exact hj
  rw [if_neg i9]
  by_cases i10 : i = 10
  · rw [if_pos i10]; exact h10
  rw [if_neg i10]
  by_cases i11 : i = 11
  · rw [if_pos i11]; exact hg _ (hg1 v7)
  rw [if_neg i11]
  by_cases i12 : i = 12
  · rw [if_pos i12]; exact hg _ (hg1 v2)
  rw [if_neg i12]
  exact hc _
theorem aV.step (E : aE) {x : aM} (hI : aI x) (hx : x.1 4 = 7) : aV ((a_step E x).1 4) := by
  unfold a_step
  by_cases c : (a_pay E x).1 = -1
  · rw [if_pos c]
    rcases a_pay_no c hI with e | e
    · rw [e, show (a_st x 5).1 4 = 5 from sr_s x 4 5]; unfold aV; decide
    · rw [e, show (a_st x 4).1 4 = 4 from sr_s x 4 4]; unfold aV; decide
  · rw [if_neg c]
    exact aV.perf _ _ _ (a_pay_4 c hx)
theorem aV.loop {E : aE} (hE : aFit E) : ∀ (n : Nat) {x : aM}, aI x → aV (x.1 4) → aV ((a_L E n x).1 4) := by
  intro n
  induction n with
  | zero => intro x _ h; exact h
  | succ n ih =>
    intro x hI h
    unfold a_L
    by_cases h7 : x.1 4 = 7
    · rw [if_pos h7]; exact ih (hI.step hE) (aV.step E hI h7)
    · rw [if_neg h7]; exact h
def goK (C D : gCT) (r : Nat) (z : aM) : Prop := (∀ κ, κ = 2 ∨ κ = 3 ∨ κ = 5 ∨ κ = 12 ∨ κ = 13 ∨ κ = 14 ∨ κ = 15 ∨ κ = 16 ∨ κ = 17 ∨ κ = 18 → D κ = C κ) ∧ (∀ κ n, κ = 7 ∨ κ = 8 ∨ κ = 9 ∨ κ = 10 ∨ κ = 11 → n ≠ r → D κ n = C κ n) ∧ (∀ j, D 11 r j = if j = 4 then z.1 4 else C 11 r j) ∧ (D 7 r = z.1 ∧ D 8 r = z.2.1 ∧ D 9 r = z.2.2.1 ∧ D 10 r = z.2.2.2) ∧ ∀ f j, j ≠ 2 → D 4 f j = C 4 f j
theorem goK.eight (C : gCT) (r : Nat) (z : aM) : goK C (go8 C r z) r z := ⟨fun κ hk => go8_k C r z (by omega), fun κ n _ hn => go8_n C r z hn κ, fun j => go8_11 C r z j, go8_7 C r z, fun f j _ => by rw [go8_k C r z (by decide)]⟩
theorem goK.g {C D : gCT} {r : Nat} {z : aM} (h : goK C D r z) {κ n : Nat} {x : Nat → Int32} (hk : κ = 0 ∨ κ = 6 ∨ κ = 19) : goK C (g2 D κ n x) r z := by
  have e : ∀ {κ' : Nat}, κ' ≠ 0 → κ' ≠ 6 → κ' ≠ 19 → g2 D κ n x κ' = D κ' := fun h0 h6 h19 => g2_k _ _ (by omega)
  obtain ⟨h1, h2, h3, h4, h5⟩ := h
  refine ⟨fun κ' hk' => (e (by omega) (by omega) (by omega)).trans (h1 κ' hk'), fun κ' n' hk' hn => (by rw [e (by omega) (by omega) (by omega)]; exact h2 κ' n' hk' hn), fun j => by rw [e (by decide) (by decide) (by decide)]; exact h3 j, by rw [e (by decide) (by decide) (by decide), e (by decide) (by decide) (by decide), e (by decide) (by decide) (by decide), e (by decide) (by decide) (by decide)]; exact h4, fun f j hj => by rw [e (by decide) (by decide) (by decide)]; exact h5 f j hj⟩
theorem goK.c4 {C D : gCT} {r : Nat} {z : aM} (h : goK C D r z) {n : Nat} {v : Int32} : goK C (cs D 4 n 2 v) r z := by
  have e : ∀ {κ' : Nat}, κ' ≠ 4 → cs D 4 n 2 v κ' = D κ' := fun h0 => cs_k _ _ _ _ h0
  obtain ⟨h1, h2, h3, h4, h5⟩ := h
  refine ⟨fun κ' hk' => (e (by omega)).trans (h1 κ' hk'), fun κ' n' hk' hn => (by rw [e (by omega)]; exact h2 κ' n' hk' hn), fun j => by rw [e (by decide)]; exact h3 j, by rw [e (by decide), e (by decide), e (by decide), e (by decide)]; exact h4, fun f j hj => by rw [cs_rd, if_neg (by omega)]; exact h5 f j hj⟩
theorem aK.op {cnt : Nat → Nat} {x : aM} (h : aK cnt x) (g : Int32) : aK cnt (a_open x g) := by
  unfold aK at h ⊢
  rw [O_r x g (i := 4) (by decide), O_r x g (i := 5) (by decide)]
  exact h
theorem reach.op {E : aE} {F : Int32} {x : aM} (h : gReach E F x) (g : Int32) : gReach E F (a_open x g) := by
  obtain ⟨n, f, p, h1, h2, h3, h4, h5, h6⟩ := h
  have e : ∀ e : Int32, a_open (a_open x g) e = a_open x e := fun e => Prod.ext (upd_upd _ _ _ _) rfl
  refine ⟨n, f, p, (O_r x g (i := 2) (by decide)).trans h1, (O_r x g (i := 6) (by decide)).trans h2, h3, h4, ?_, fun y0 e0 he hz => ?_⟩
  · rw [O_r x g (i := 4) (by decide)]; exact h5
  · rw [e]
    rw [O_r x g (i := 4) (by decide)] at hz
    exact h6 y0 e0 he hz
theorem m_startOver_at {C : gCT} (hI : gInv C) {r f F : Nat} (hf : f < 4) (h6 : C 11 r 6 = nI f) (hv : 1 ≤ gVn C f) (h41 : C 4 f 1 = nI F) : aGet (m_startOver C r) r = a_reset (aGet C r) (nI F) ∧ (∀ κ n, κ = 7 ∨ κ = 8 ∨ κ = 9 ∨ κ = 10 ∨ κ = 11 ∨ κ = 12 → n ≠ r → m_startOver C r κ n = C κ n) ∧ (m_startOver C r 11 r 7 = nI (8 * f + gVn C f) ∧ m_startOver C r 11 r 2 = nI (gVn C f - 1) ∧ m_startOver C r 11 r 3 = nI F) ∧ (∀ j, j ≠ 7 → j ≠ 2 → j ≠ 3 → m_startOver C r 11 r j = C 11 r j) ∧ ∀ q, q < 16 → m_startOver C r 12 r q = C 18 0 q := by
  have hvn := hI.vn hf
  have e1 : m_takeNewest C r = g2 (cs (cs (cs C 11 r 7 (nI (8 * f + gVn C f))) 11 r 2 (nI (gVn C f - 1))) 11 r 3 (nI F)) 12 r (va_cpy (C 18 0) (C 12 r) 0 0 16) := by
    unfold m_takeNewest
    dsimp only
    rw [m_newest_1, h6, nI_clamp (by omega)]
    have k6 : ∀ v, cs C 11 r 7 v 11 r 6 = nI f := fun v => (cs_o _ _ _ _ (by decide)).trans h6
    rw [k6, nI_clamp (by omega), cs_k _ _ _ _ (show (4 : Nat) ≠ 11 by decide), hvn.2.1, nI_clamp (by omega), show nI (gVn C f) - 1 = nI (gVn C f - 1) from nat_sub rfl (show (1 : Int32) = nI 1 from rfl) hv]
    have k6b : ∀ v w, cs (cs C 11 r 7 v) 11 r 2 w 11 r 6 = nI f := fun v w => (cs_o _ _ _ _ (by decide)).trans (k6 v)
    rw [k6b, nI_clamp (by omega), cs_k _ _ _ _ (show (4 : Nat) ≠ 11 by decide), cs_k _ _ _ _ (show (4 : Nat) ≠ 11 by decide), h41]
    rw [cs_k _ _ _ _ (show (18 : Nat) ≠ 11 by decide), cs_k _ _ _ _ (show (18 : Nat) ≠ 11 by decide), cs_k _ _ _ _ (show (18 : Nat) ≠ 11 by decide), cs_k _ _ _ _ (show (12 : Nat) ≠ 11 by decide), cs_k _ _ _ _ (show (12 : Nat) ≠ 11 by decide), cs_k _ _ _ _ (show (12 : Nat) ≠ 11 by decide)]
    rfl
  have e3 : m_takeNewest C r 11 r 3 = nI F := by rw [e1, g2_k _ _ (by decide), cs_s]
  have eD : m_startOver C r = aPut (m_takeNewest C r) r (a_reset (aGet (m_takeNewest C r) r) (nI F)) := by
    unfold m_startOver
    dsimp only
    rw [e3]
    have := A_reset (m_takeNewest C r) r (aGet (m_takeNewest C r) r) (nI F)
    rwa [aPut_aGet] at this
  have ek : ∀ {κ : Nat}, κ ≠ 11 → κ ≠ 12 → m_takeNewest C r κ = C κ := fun h1 h2 => m_takeNewest_k C r h1 h2
  have eG : aGet (m_takeNewest C r) r = aGet C r := by
    unfold aGet
    rw [ek (by decide) (by decide), ek (by decide) (by decide), ek (by decide) (by decide), ek (by decide) (by decide)]
  rw [eG] at eD
  rw [eD]
  have p11 : aPut (m_takeNewest C r) r (a_reset (aGet C r) (nI F)) 11 = m_takeNewest C r 11 := aPut_k _ _ _ (by decide)
  have p12 : aPut (m_takeNewest C r) r (a_reset (aGet C r) (nI F)) 12 = m_takeNewest C r 12 := aPut_k _ _ _ (by decide)
  refine ⟨aGet_aPut _ _ _, fun κ n hk hn => ?_, ⟨?_, ?_, ?_⟩, fun j h1 h2 h3 => ?_, fun q hq => ?_⟩
  · rw [aPut_n _ _ _ hn, e1, g2_n _ _ (fun e => hn e.2)]
    by_cases e : κ = 11
    · subst e; rw [cs_n _ _ _ _ hn, cs_n _ _ _ _ hn, cs_n _ _ _ _ hn]
    · rw [cs_k _ _ _ _ e, cs_k _ _ _ _ e, cs_k _ _ _ _ e]
  · rw [p11, e1, g2_k _ _ (by decide), cs_o _ _ _ _ (by decide), cs_o _ _ _ _ (by decide), cs_s]
  · rw [p11, e1, g2_k _ _ (by decide), cs_o _ _ _ _ (by decide), cs_s]
  · rw [p11, e1, g2_k _ _ (by decide), cs_s]
  · rw [p11, e1, g2_k _ _ (by decide), cs_o _ _ _ _ h3, cs_o _ _ _ _ h2, cs_o _ _ _ _ h1]
  · rw [p12, e1, g2_s]
    unfold va_cpy
    rw [if_pos (by omega), Nat.zero_add, Nat.sub_zero]
theorem rem4 {p : Nat} (hp : p < 16) : (nI p : Int32) - nI p / 4 * 4 = nI (p % 4) := by
  have : ∀ p : Nat, p < 16 → (nI p : Int32) - nI p / 4 * 4 = nI (p % 4) := by decide
  exact this p hp
def anD (C : gCT) (r f p : Nat) (v pr : Int32) : gCT := aPut (g2 (cs (cs (m_keepAnswer C r v) 11 r 5 (C 11 r 5 + pr)) 4 f 2 (C 4 f 2 - pr)) 19 0 (upd (C 19 0) p (C 19 0 p + pr))) r (a_put (a_st (aGet C r) 7) v)
theorem an_at {C : gCT} {r f p : Nat} (v pr : Int32) (hf : f < 4) (h6 : C 11 r 6 = nI f) (hp : p < 16) (h0 : C 11 r 0 = nI p) : m_takeAnswer (m_pay2 (cs (m_keepAnswer C r v) 11 r 5 (m_keepAnswer C r v 11 r 5 + pr)) r pr) r v = anD C r f p v pr := by
  have k : ∀ {κ : Nat}, κ ≠ 2 → κ ≠ 3 → κ ≠ 13 → m_keepAnswer C r v κ = C κ := fun h2 h3 h13 => m_keepAnswer_k C r v h2 h3 h13
  have e2 : m_pay2 (cs (m_keepAnswer C r v) 11 r 5 (C 11 r 5 + pr)) r pr = g2 (cs (cs (m_keepAnswer C r v) 11 r 5 (C 11 r 5 + pr)) 4 f 2 (C 4 f 2 - pr)) 19 0 (upd (C 19 0) p (C 19 0 p + pr)) := by
    have j6 : (cs (m_keepAnswer C r v) 11 r 5 (C 11 r 5 + pr) 11 r 6).toNatClampNeg = f := by
      rw [cs_o _ _ _ _ (by decide), k (by decide) (by decide) (by decide), h6, nI_clamp (by omega)]
    have j0 : ∀ w, cs (cs (m_keepAnswer C r v) 11 r 5 (C 11 r 5 + pr)) 4 f 2 w 11 r 0 = nI p := fun w => by
      rw [cs_k _ _ _ _ (by decide), cs_o _ _ _ _ (by decide), k (by decide) (by decide) (by decide), h0]
    have j4 : cs (m_keepAnswer C r v) 11 r 5 (C 11 r 5 + pr) 4 = C 4 := by
      rw [cs_k _ _ _ _ (by decide), k (by decide) (by decide) (by decide)]
    have j19 : ∀ w, cs (cs (m_keepAnswer C r v) 11 r 5 (C 11 r 5 + pr)) 4 f 2 w 19 = C 19 := fun w => by
      rw [cs_k _ _ _ _ (by decide), cs_k _ _ _ _ (by decide), k (by decide) (by decide) (by decide)]
    unfold m_pay2
    dsimp only
    rw [j6, j4, j0]
    unfold m_addTo
    rw [j19, (m_at_nat (C 19 0) hp (by decide) pr).2]
  rw [k (show 11 ≠ 2 by decide) (show 11 ≠ 3 by decide) (show 11 ≠ 13 by decide), e2]
  have eG : aGet (g2 (cs (cs (m_keepAnswer C r v) 11 r 5 (C 11 r 5 + pr)) 4 f 2 (C 4 f 2 - pr)) 19 0 (upd (C 19 0) p (C 19 0 p + pr))) r = aGet C r := by
    have j : ∀ {κ : Nat}, κ ≠ 2 → κ ≠ 3 → κ ≠ 13 → κ ≠ 11 → κ ≠ 4 → κ ≠ 19 → g2 (cs (cs (m_keepAnswer C r v) 11 r 5 (C 11 r 5 + pr)) 4 f 2 (C 4 f 2 - pr)) 19 0 (upd (C 19 0) p (C 19 0 p + pr)) κ = C κ := fun h1 h2 h3 h4 h5 h6 => by
      rw [g2_k _ _ h6, cs_k _ _ _ _ h5, cs_k _ _ _ _ h4, k h1 h2 h3]
    unfold aGet
    rw [j (by decide) (by decide) (by decide) (by decide) (by decide) (by decide), j (by decide) (by decide) (by decide) (by decide) (by decide) (by decide), j (by decide) (by decide) (by decide) (by decide) (by decide) (by decide), j (by decide) (by decide) (by decide) (by decide) (by decide) (by decide)]
  unfold anD
  have := A_takeAnswer (g2 (cs (cs (m_keepAnswer C r v) 11 r 5 (C 11 r 5 + pr)) 4 f 2 (C 4 f 2 - pr)) 19 0 (upd (C 19 0) p (C 19 0 p + pr))) r (aGet C r) v
  rw [← eG] at this
  rw [aPut_aGet, eG] at this
  exact this
theorem anD_k (C : gCT) (r f p : Nat) (v pr : Int32) {κ : Nat} (h : κ ≠ 2 ∧ κ ≠ 3 ∧ κ ≠ 4 ∧ κ ≠ 7 ∧ κ ≠ 8 ∧ κ ≠ 9 ∧ κ ≠ 10 ∧ κ ≠ 11 ∧ κ ≠ 13 ∧ κ ≠ 19) : anD C r f p v pr κ = C κ := by
  unfold anD
  rw [aPut_k _ _ _ (by omega), g2_k _ _ (by omega), cs_k _ _ _ _ (by omega), cs_k _ _ _ _ (by omega), m_keepAnswer_k C r v (by omega) (by omega) (by omega)]
theorem anD_2 (C : gCT) (r f p : Nat) (v pr : Int32) : anD C r f p v pr 2 = m_keepAnswer C r v 2 := by
  unfold anD
  rw [aPut_k _ _ _ (by decide), g2_k _ _ (by decide), cs_k _ _ _ _ (by decide), cs_k _ _ _ _ (by decide)]
theorem anD_13 (C : gCT) (r f p : Nat) (v pr : Int32) : anD C r f p v pr 13 = g2 C 13 (1024 * r + gCnt C r) (m_ans C r v) 13 := by
  unfold anD
  rw [aPut_k _ _ _ (by decide), g2_k _ _ (by decide), cs_k _ _ _ _ (by decide), cs_k _ _ _ _ (by decide), m_keepAnswer_13]
theorem anD_4 (C : gCT) (r f p : Nat) (v pr : Int32) : anD C r f p v pr 4 = cs C 4 f 2 (C 4 f 2 - pr) 4 := by
  unfold anD
  rw [aPut_k _ _ _ (by decide), g2_k _ _ (by decide)]
  funext n j
  rw [cs_rd C 4 f 2, cs_rd _ 4 f 2, cs_k _ _ _ _ (show (4 : Nat) ≠ 11 by decide), m_keepAnswer_k C r v (by decide) (by decide) (by decide)]
theorem anD_11 (C : gCT) (r f p : Nat) (v pr : Int32) : anD C r f p v pr 11 = cs C 11 r 5 (C 11 r 5 + pr) 11 := by
  unfold anD
  rw [aPut_k _ _ _ (by decide), g2_k _ _ (by decide), cs_k _ _ _ _ (by decide)]
  funext n j
  rw [cs_rd, cs_rd, m_keepAnswer_k C r v (by decide) (by decide) (by decide)]
theorem anD_19 (C : gCT) (r f p : Nat) (v pr : Int32) : anD C r f p v pr 19 0 = upd (C 19 0) p (C 19 0 p + pr) := by
  unfold anD
  rw [aPut_k _ _ _ (by decide), g2_s]
theorem anD_m (C : gCT) (r f p : Nat) (v pr : Int32) {κ s : Nat} (hs : s ≠ r) (h : κ = 7 ∨ κ = 8 ∨ κ = 9 ∨ κ = 10) : anD C r f p v pr κ s = C κ s := by
  unfold anD
  rw [aPut_n _ _ _ hs, g2_k _ _ (by omega), cs_k _ _ _ _ (by omega), cs_k _ _ _ _ (by omega), m_keepAnswer_k C r v (by omega) (by omega) (by omega)]
theorem anD_inv {C : gCT} {r f p : Nat} (hI : gInv C) (hr : r < gRc C) (hc : gCnt C r ≤ 511) (v pr : Int32) : gInv (anD C r f p v pr) := by
  have h1 := m_keepAnswer_inv v hI hr hc
  have h2 : gSx (m_keepAnswer C r v) (g2 (cs (cs (m_keepAnswer C r v) 11 r 5 (C 11 r 5 + pr)) 4 f 2 (C 4 f 2 - pr)) 19 0 (upd (C 19 0) p (C 19 0 p + pr))) := ((gSx.rf.cs1 rfl).cs1 rfl).g21 (by decide) (by decide) (by decide) (by decide) (by decide)
  have h3 : gSx (m_keepAnswer C r v) (anD C r f p v pr) := by
    unfold anD
    refine h2.tr ⟨aPut_k _ _ _ (by decide), aPut_k _ _ _ (by decide), fun g => by rw [aPut_k _ _ _ (by decide)], fun s => by rw [aPut_k _ _ _ (by decide)]; exact ⟨rfl, rfl⟩, aPut_k _ _ _ (by decide)⟩
  exact h3.inv h1
theorem m_nth_L_ext {C D : gCT} {r c : Nat} (hc : C 2 r 1 = nI c) (hc2 : c ≤ 511) (hd : D 2 r 1 = nI (c + 1)) (h13 : ∀ j, j < c → cT D r j = cT C r j) (q n w : Int32) : ∀ (n0 j : Nat) (f : Int32), j ≤ c → ¬ (m_nth_L n0 C r q n w f (nI j)).1 = -1 → (m_nth_L n0 D r q n w f (nI j)).1 = (m_nth_L n0 C r q n w f (nI j)).1 := by
  intro n0
  induction n0 with
  | zero => intro j f _ _; rfl
  | succ n0 ih =>
    intro j f hj hne
    unfold m_nth_L at hne ⊢
    dsimp only at hne ⊢
    rw [hc] at hne ⊢
    rw [hd]
    by_cases c1 : nI c ≤ nI j
    · rw [if_pos c1] at hne
      exact absurd rfl hne
    · have hjc : j < c := Nat.not_le.mp (fun z => c1 ((nat_le rfl rfl (by omega) (by omega)).mpr z))
      have c1' : ¬ nI (c + 1) ≤ nI j := fun z => absurd ((nat_le rfl rfl (by omega) (by omega)).mp z) (by omega)
      have e := h13 j hjc
      have e0 : D 13 (1024 * r + j) 0 = C 13 (1024 * r + j) 0 := congrArg Prod.fst e
      have e1 : D 13 (1024 * r + j) 1 = C 13 (1024 * r + j) 1 := congrArg (fun z => z.2.1) e
      have e2 : D 13 (1024 * r + j) 2 = C 13 (1024 * r + j) 2 := congrArg (fun z => z.2.2) e
      rw [if_neg c1, nI_clamp (by omega), nI_1] at hne
      rw [if_neg c1, if_neg c1', nI_clamp (by omega), e0, e1, e2, nI_1]
      have k := fun g => ih (j + 1) g (by omega)
      by_cases d1 : C 13 (1024 * r + j) 0 = q
      · rw [if_pos d1] at hne
        rw [if_pos d1, if_pos d1]
        by_cases d2 : C 13 (1024 * r + j) 1 = w
        · rw [if_pos d2] at hne
          rw [if_pos d2, if_pos d2]
          by_cases d3 : f + 1 = n
          · rw [if_pos d3, if_pos d3]
          · rw [if_neg d3] at hne
            rw [if_neg d3, if_neg d3]; exact k _ hne
        · rw [if_neg d2] at hne
          rw [if_neg d2, if_neg d2]; exact k _ hne
      · rw [if_neg d1] at hne
        rw [if_neg d1, if_neg d1]; exact k _ hne
theorem cs_cs (C : gCT) (κ n j : Nat) (v w : Int32) : cs (cs C κ n j v) κ n j w = cs C κ n j w := by
  funext a b i
  rw [cs_rd, cs_rd, cs_rd]
  split
  · rfl
  · rfl
theorem an_env {C D : gCT} {r c q : Nat} {v : Int32} (hc : C 2 r 1 = nI c) (hc2 : c ≤ 511) (hd : D 2 r 1 = nI (c + 1)) (h13 : ∀ j, j < c → cT D r j = cT C r j) (h12 : D 12 r = C 12 r) (hnew : cT D r c = (nI q, C 12 r q, v)) (hq : q < 16) (h11 : D 11 r 7 = C 11 r 7) (h15 : D 15 = C 15) (h16 : D 16 = C 16) (h14 : D 14 = C 14) : (envC D r).2 = (envC C r).2 ∧ (∀ k n, ¬ (envC C r).1 k n = -1 → (envC D r).1 k n = (envC C r).1 k n) ∧ (cLf D r 0 (c + 1) = cLf C r 0 c ++ [(nI q, C 12 r q, v)]) ∧ (envC D r).1 (nI q) (nI (cntR (nI q) (C 12 r q) (cLf C r 0 c) + 1)) = v := by
  have hL : cLf D r 0 (c + 1) = cLf C r 0 c ++ [(nI q, C 12 r q, v)] := by
    rw [cLf_snoc, Nat.zero_add, hnew, cLf_cong c 0 (fun j hj => h13 j (by omega))]
  have hle : cntR (nI q) (C 12 r q) (cLf C r 0 c) ≤ c := Nat.le_trans (cntR_le _ _ _) (by rw [cLf_len]; exact Nat.le_refl _)
  refine ⟨?_, fun k n hne => ?_, hL, ?_⟩
  · unfold envC
    rw [h11, h15, h16, h14]
  · have hne : ¬ (m_nth C r k n).1 = -1 := hne
    show (m_nth D r k n).1 = (m_nth C r k n).1
    unfold m_nth at hne ⊢
    dsimp only at hne ⊢
    rw [h12]
    exact m_nth_L_ext hc hc2 hd h13 k n _ 2001 0 0 (Nat.zero_le _) hne
  · show (m_nth D r (nI q) (nI (cntR (nI q) (C 12 r q) (cLf C r 0 c) + 1))).1 = v
    rw [m_nth_at hd (by omega) hq (by omega) (by omega), h12, hL, (nthR_app (cLf C r 0 c) [(nI q, C 12 r q, v)] (by omega)).2 (by omega), Nat.add_sub_cancel_left]
    show (if nI q = nI q ∧ C 12 r q = C 12 r q then (if 1 = 1 then v else _) else _) = v
    rw [if_pos ⟨rfl, rfl⟩, if_pos rfl]
theorem aK_ans {cnt cnt' : Nat → Nat} {x : aM} (h : aK cnt x) (h0 : x.1 4 = 0) {q : Nat} (hq : q < 16) (h5 : x.1 5 = nI q) (hc : ∀ k, k < 16 → cnt' k = cnt k + (if k = q then 1 else 0)) (v : Int32) : aK cnt' (a_put (a_st x 7) v) := by
  have hs : (a_put (a_st x 7) v).1 4 ≠ 0 := by
    rcases a_put_st (a_st x 7) v with e | e
    · rw [e, show (a_st x 7).1 4 = 7 from sr_s x 4 7]; decide
    · rw [e]; decide
  refine ⟨fun k hk => ?_, fun e => absurd e hs⟩
  obtain ⟨d, d1, d2, d3⟩ := h.1 k hk
  rw [a_put_t]
  refine ⟨d, d1, ?_, ⟨fun e => ?_, fun e => absurd e.1 hs⟩⟩
  · rw [hc k hk]; split <;> omega
  · exfalso
    rw [hc k hk] at e
    by_cases hkq : k = q
    · rw [if_pos hkq] at e; omega
    · rw [if_neg hkq, Nat.add_zero] at e
      have := (d3.mp e).2
      rw [h5] at this
      exact hkq ((nI_eq (by omega) (by omega)).mp this).symm
theorem m_answer_inv {C : gCT} (hI : gInv C) (x y : Int32) : gInv (m_answer C x y).2.2 := by
  unfold m_answer
  dsimp only
  by_cases c1 : m_runAt C x = 0
  rotate_left
  · rw [if_neg c1]; exact hI
  rw [if_pos c1]
  by_cases c2 : m_isWithin y 0 9 = 0
  · rw [if_pos c2]; exact hI
  rw [if_neg c2]
  by_cases c3 : C 11 x.toNatClampNeg 4 = 0
  rotate_left
  · rw [if_neg c3]; exact hI
  rw [if_pos c3]
  by_cases c4 : C 2 x.toNatClampNeg 1 < 512
  rotate_left
  · rw [if_neg c4]; exact hI
  rw [if_pos c4]
  by_cases c5 : m_at (C 17 0) 16 (C 7 x.toNatClampNeg 5) ≤ C 4 ((C 11 x.toNatClampNeg 6).toNatClampNeg) 2
  rotate_left
  · rw [if_neg c5]; exact hI
  rw [if_pos c5]
  have hr := m_runAt_lt hI.runs c1
  have h1 := m_keepAnswer_inv y hI hr (an_cnt hI hr c4)
  exact (m_go_str (m_takeAnswer_str (m_pay2_str (gSx.rf.cs1 rfl) _ _) _ _) _).inv h1

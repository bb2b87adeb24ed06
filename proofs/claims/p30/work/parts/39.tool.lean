/-! ===== a new AskMachine ===== -/
def gQ0 : Nat → Int32 := upd (upd (upd (upd (fun _ => 0) (0 : Int32).toNatClampNeg 20) (1 : Int32).toNatClampNeg 20) (2 : Int32).toNatClampNeg 20) (3 : Int32).toNatClampNeg 20
def gC0 : gCT := fun κ _ => match κ with
  | 4 => fun j => if j = 1 then 60 else 0
  | 5 => gQ0
  | _ => fun _ => 0
def gL0 : gLv := fun κ n => κ = 0 ∧ n = 0
def gLvT (j : Nat) : gLv := fun κ n => match κ with
  | 0 => n = 0
  | 1 => n = 0
  | 2 => n = 24
  | 4 => n < j
  | 5 => n < j
  | 6 => n < j
  | 7 => n = 24
  | 8 => n = 24
  | 9 => n = 24
  | 10 => n = 24
  | 14 => n / 8 < j ∧ n % 8 ≤ 1
  | 15 => n / 8 < j ∧ n % 8 ≤ 1
  | 16 => n / 8 < j ∧ n % 8 ≤ 1
  | 17 => n = 0
  | 18 => n = 0
  | 19 => n = 0
  | _ => False
def gFT (G : gG) (j : Nat) (ad : gAd) : gCn := fun κ n => if κ = 1 then .inl (G.2.2.2.1, 4, .inr (.inr (.inr (.inr (fun i => if i < j then some (ad 4 i) else none))))) else gF G gC0 ad κ n
theorem gFT_ad {G : gG} {j : Nat} {ad ad' : gAd} (e : ∀ κ n, gLvT j κ n → ad' κ n = ad κ n) : ∀ κ n, gLvT j κ n → κ ≠ 1 → gF G gC0 ad' κ n = gF G gC0 ad κ n := by
  intro κ n hl h1
  show gB G κ n (gC0 κ n) ad' = gB G κ n (gC0 κ n) ad
  match κ, hl, h1 with
  | 0, hl, _ => simp only [gB, e 1 0 rfl, e 2 24 rfl, e 17 0 rfl, e 18 0 rfl, e 19 0 rfl, e 7 24 rfl]
  | 2, hl, _ => rfl
  | 4, hl, _ =>
    have hl : n < j := hl
    have z : (gC0 4 n 0).toNatClampNeg = 0 := rfl
    simp only [gB, z, e 5 n hl, e 6 n hl, e 14 (8 * n + 0 + 1) ⟨by omega, by omega⟩, e 14 (8 * n + 0) ⟨by omega, by omega⟩]
  | 5, hl, _ => rfl
  | 6, hl, _ => rfl
  | 7, hl, _ =>
    have hl : n = 24 := hl
    subst hl
    simp only [gB, e 8 24 rfl, e 9 24 rfl, e 10 24 rfl]
  | 8, hl, _ => rfl
  | 9, hl, _ => rfl
  | 10, hl, _ => rfl
  | 14, hl, _ => simp only [gB, e 15 n hl, e 16 n hl]
  | 15, hl, _ => rfl
  | 16, hl, _ => rfl
  | 17, hl, _ => rfl
  | 18, hl, _ => rfl
  | 19, hl, _ => rfl
theorem gLvT_4 : gLvT 4 = fun κ n => κ ≠ 22 ∧ gLvO gC0 κ n := by
  have e1 : gRc gC0 = 0 := rfl
  have e2 : ∀ f, gVn gC0 f = 0 := fun _ => rfl
  have e3 : ∀ n, gC0 2 n 2 = 0 := fun _ => rfl
  funext κ n
  refine propext ?_
  unfold gLvT gLvO
  simp only [e1, e2, e3]
  split <;> first | (simp; done) | (simp; omega) | skip
  refine ⟨fun h => h.elim, fun h => ?_⟩
  obtain ⟨h22, h⟩ := h
  split at h <;> first | exact h.elim | (exfalso; simp_all; done) | simp_all
theorem gC0_inv : gInv gC0 := by
  refine ⟨Nat.zero_le _, fun n _ => ⟨0, 0, rfl, rfl, Nat.le_refl _, by omega, by omega, fun h => absurd rfl h⟩, fun f _ => ⟨0, by omega, rfl, 0, by omega, rfl⟩, fun r hr => absurd hr (Nat.not_lt_zero r)⟩
section GTI
variable {p : Program} {l : Launch} {e : Env} {R : Room} {s : State} {m : MethodId} {args : Array Value} {below : List Frame} {meth : Method} {c : Code} {H : Heap} {locs : List Loc} {cells slots : Nat} {Q : State → Prop}
variable {ls : Array Slot} {G : gG} {A : Nat → Prop} {ad : gAd}
theorem gLvT_s {j : Nat} : (g2 (g2 (g2 (g2 (g2 (g2 (g2 (g2 (g2 (gLvT j) 4 j True) 14 (8 * j + 1) True) 15 (8 * j + 1) True) 16 (8 * j + 1) True) 14 (8 * j) True) 15 (8 * j) True) 16 (8 * j) True) 5 j True) 6 j True) = gLvT (j + 1) := by
  funext κ n
  refine propext ?_
  have hc : (n / 8 < j + 1 ∧ n % 8 ≤ 1) ↔ (n = 8 * j + 1 ∨ n = 8 * j ∨ (n / 8 < j ∧ n % 8 ≤ 1)) := by omega
  have hn : n < j + 1 ↔ (n = j ∨ n < j) := by omega
  by_cases h4 : κ = 4 ∨ κ = 5 ∨ κ = 6
  · rcases h4 with rfl | rfl | rfl
    · show (g2 (g2 (g2 (g2 (g2 (g2 (g2 (g2 (g2 (gLvT j) 4 j True) 14 (8 * j + 1) True) 15 (8 * j + 1) True) 16 (8 * j + 1) True) 14 (8 * j) True) 15 (8 * j) True) 16 (8 * j) True) 5 j True) 6 j True) 4 n ↔ n < j + 1
      rw [hn]
      by_cases h : n = j <;> simp [g2, h, gLvT]
    · show (g2 (g2 (g2 (g2 (g2 (g2 (g2 (g2 (g2 (gLvT j) 4 j True) 14 (8 * j + 1) True) 15 (8 * j + 1) True) 16 (8 * j + 1) True) 14 (8 * j) True) 15 (8 * j) True) 16 (8 * j) True) 5 j True) 6 j True) 5 n ↔ n < j + 1
      rw [hn]
      by_cases h : n = j <;> simp [g2, h, gLvT]
    · show (g2 (g2 (g2 (g2 (g2 (g2 (g2 (g2 (g2 (gLvT j) 4 j True) 14 (8 * j + 1) True) 15 (8 * j + 1) True) 16 (8 * j + 1) True) 14 (8 * j) True) 15 (8 * j) True) 16 (8 * j) True) 5 j True) 6 j True) 6 n ↔ n < j + 1
      rw [hn]
      by_cases h : n = j <;> simp [g2, h, gLvT]
  · by_cases hd : κ = 14 ∨ κ = 15 ∨ κ = 16
    · rcases hd with rfl | rfl | rfl
      · show (g2 (g2 (g2 (g2 (g2 (g2 (g2 (g2 (g2 (gLvT j) 4 j True) 14 (8 * j + 1) True) 15 (8 * j + 1) True) 16 (8 * j + 1) True) 14 (8 * j) True) 15 (8 * j) True) 16 (8 * j) True) 5 j True) 6 j True) 14 n ↔ (n / 8 < j + 1 ∧ n % 8 ≤ 1)
        rw [hc]
        by_cases h : n = 8 * j + 1 <;> by_cases h2 : n = 8 * j <;> simp [g2, h, h2, gLvT]
      · show (g2 (g2 (g2 (g2 (g2 (g2 (g2 (g2 (g2 (gLvT j) 4 j True) 14 (8 * j + 1) True) 15 (8 * j + 1) True) 16 (8 * j + 1) True) 14 (8 * j) True) 15 (8 * j) True) 16 (8 * j) True) 5 j True) 6 j True) 15 n ↔ (n / 8 < j + 1 ∧ n % 8 ≤ 1)
        rw [hc]
        by_cases h : n = 8 * j + 1 <;> by_cases h2 : n = 8 * j <;> simp [g2, h, h2, gLvT]
      · show (g2 (g2 (g2 (g2 (g2 (g2 (g2 (g2 (g2 (gLvT j) 4 j True) 14 (8 * j + 1) True) 15 (8 * j + 1) True) 16 (8 * j + 1) True) 14 (8 * j) True) 15 (8 * j) True) 16 (8 * j) True) 5 j True) 6 j True) 16 n ↔ (n / 8 < j + 1 ∧ n % 8 ≤ 1)
        rw [hc]
        by_cases h : n = 8 * j + 1 <;> by_cases h2 : n = 8 * j <;> simp [g2, h, h2, gLvT]
    · have hz : (g2 (g2 (g2 (g2 (g2 (g2 (g2 (g2 (g2 (gLvT j) 4 j True) 14 (8 * j + 1) True) 15 (8 * j + 1) True) 16 (8 * j + 1) True) 14 (8 * j) True) 15 (8 * j) True) 16 (8 * j) True) 5 j True) 6 j True) κ n = gLvT j κ n := by
        simp only [g2, if_neg (show ¬ (κ = 4 ∧ n = j) from by omega), if_neg (show ¬ (κ = 14 ∧ n = 8 * j + 1) from by omega), if_neg (show ¬ (κ = 15 ∧ n = 8 * j + 1) from by omega), if_neg (show ¬ (κ = 16 ∧ n = 8 * j + 1) from by omega), if_neg (show ¬ (κ = 14 ∧ n = 8 * j) from by omega), if_neg (show ¬ (κ = 15 ∧ n = 8 * j) from by omega), if_neg (show ¬ (κ = 16 ∧ n = 8 * j) from by omega), if_neg (show ¬ (κ = 5 ∧ n = j) from by omega), if_neg (show ¬ (κ = 6 ∧ n = j) from by omega)]
      rw [hz]
      unfold gLvT
      split <;> first | exact Iff.rfl | omega
set_option maxHeartbeats 8000000 in
theorem gFT_s {j q1 q2 q3 q4 q5 q6 q7 q8 q9 : Nat} (hj : j < 4) : ∀ κ n, (g2 (g2 (g2 (g2 (g2 (g2 (g2 (g2 (g2 (gLvT j) 4 j True) 14 (8 * j + 1) True) 15 (8 * j + 1) True) 16 (8 * j + 1) True) 14 (8 * j) True) 15 (8 * j) True) 16 (8 * j) True) 5 j True) 6 j True) κ n → g2 (g2 (g2 (g2 (g2 (g2 (g2 (g2 (g2 (g2 (gFT G j ad) 4 j (.inr (3, [.ref q2, .ref q5, .int 0, .int 60, .int 0, .ref q8, .ref q9]))) 14 (8 * j + 1) (.inr (2, [.ref q3, .ref q4, .int 0]))) 15 (8 * j + 1) (.inl (G.2.1, 24, .inl (fun _ => 0)))) 16 (8 * j + 1) (.inl (G.2.1, 24, .inl (fun _ => 0)))) 14 (8 * j) (.inr (2, [.ref q6, .ref q7, .int 0]))) 15 (8 * j) (.inl (G.2.1, 24, .inl (fun _ => 0)))) 16 (8 * j) (.inl (G.2.1, 24, .inl (fun _ => 0)))) 5 j (.inl (G.2.1, 4, .inl (upd (upd (upd (upd (fun _ => 0) (0 : Int32).toNatClampNeg 20) (1 : Int32).toNatClampNeg 20) (2 : Int32).toNatClampNeg 20) (3 : Int32).toNatClampNeg 20)))) 6 j (.inl (G.2.1, 4, .inl (fun _ => 0)))) 1 0 (.inl (G.2.2.2.1, 4, .inr (.inr (.inr (.inr (va_up (fun i => if i < j then some (ad 4 i) else none) j (some q1))))))) κ n = gFT G (j + 1) (g2 (g2 (g2 (g2 (g2 (g2 (g2 (g2 (g2 ad 4 j q1) 14 (8 * j + 1) q2) 15 (8 * j + 1) q3) 16 (8 * j + 1) q4) 14 (8 * j) q5) 15 (8 * j) q6) 16 (8 * j) q7) 5 j q8) 6 j q9) κ n := by
  intro a b hab
  have hK : ∀ κ n, gLvT j κ n → (g2 (g2 (g2 (g2 (g2 (g2 (g2 (g2 (g2 ad 4 j q1) 14 (8 * j + 1) q2) 15 (8 * j + 1) q3) 16 (8 * j + 1) q4) 14 (8 * j) q5) 15 (8 * j) q6) 16 (8 * j) q7) 5 j q8) 6 j q9) κ n = ad κ n := by
    intro κ n h
    have hn : ∀ k x, ¬ gLvT j k x → ¬ (κ = k ∧ n = x) := fun k x h1 e => h1 (by rw [← e.1, ← e.2]; exact h)
    simp only [g2, if_neg (hn 4 j (show ¬ gLvT j 4 j from fun h => by simp only [gLvT] at h; omega)), if_neg (hn 14 (8 * j + 1) (show ¬ gLvT j 14 (8 * j + 1) from fun h => by simp only [gLvT] at h; omega)), if_neg (hn 15 (8 * j + 1) (show ¬ gLvT j 15 (8 * j + 1) from fun h => by simp only [gLvT] at h; omega)), if_neg (hn 16 (8 * j + 1) (show ¬ gLvT j 16 (8 * j + 1) from fun h => by simp only [gLvT] at h; omega)), if_neg (hn 14 (8 * j) (show ¬ gLvT j 14 (8 * j) from fun h => by simp only [gLvT] at h; omega)), if_neg (hn 15 (8 * j) (show ¬ gLvT j 15 (8 * j) from fun h => by simp only [gLvT] at h; omega)), if_neg (hn 16 (8 * j) (show ¬ gLvT j 16 (8 * j) from fun h => by simp only [gLvT] at h; omega)), if_neg (hn 5 j (show ¬ gLvT j 5 j from fun h => by simp only [gLvT] at h; omega)), if_neg (hn 6 j (show ¬ gLvT j 6 j from fun h => by simp only [gLvT] at h; omega))]
  by_cases h1 : a = 1
  · subst h1
    by_cases hb : b = 0
    · subst hb
      rw [g2_s]
      show _ = (.inl (G.2.2.2.1, 4, .inr (.inr (.inr (.inr (fun i => if i < j + 1 then some ((g2 (g2 (g2 (g2 (g2 (g2 (g2 (g2 (g2 ad 4 j q1) 14 (8 * j + 1) q2) 15 (8 * j + 1) q3) 16 (8 * j + 1) q4) 14 (8 * j) q5) 15 (8 * j) q6) 16 (8 * j) q7) 5 j q8) 6 j q9) 4 i) else none))))) : va_E)
      refine congrArg (fun f : Nat → Option Nat => (.inl (G.2.2.2.1, 4, .inr (.inr (.inr (.inr f)))) : va_E)) (funext fun i => ?_)
      unfold va_up
      by_cases hi : i = j
      · rw [if_pos hi, if_pos (by omega), hi, show (g2 (g2 (g2 (g2 (g2 (g2 (g2 (g2 (g2 ad 4 j q1) 14 (8 * j + 1) q2) 15 (8 * j + 1) q3) 16 (8 * j + 1) q4) 14 (8 * j) q5) 15 (8 * j) q6) 16 (8 * j) q7) 5 j q8) 6 j q9) 4 j = q1 from (g2_n _ _ (fun e => absurd e.1 (by decide))).trans ((g2_n _ _ (fun e => absurd e.1 (by decide))).trans ((g2_n _ _ (fun e => absurd e.1 (by decide))).trans ((g2_n _ _ (fun e => absurd e.1 (by decide))).trans ((g2_n _ _ (fun e => absurd e.1 (by decide))).trans ((g2_n _ _ (fun e => absurd e.1 (by decide))).trans ((g2_n _ _ (fun e => absurd e.1 (by decide))).trans ((g2_n _ _ (fun e => absurd e.1 (by decide))).trans (g2_s _ _ _ _))))))))]
      · rw [if_neg hi]
        show (if i < j then some (ad 4 i) else none) = _
        by_cases hi2 : i < j
        · rw [if_pos hi2, if_pos (by omega), hK 4 i hi2]
        · rw [if_neg hi2, if_neg (by omega)]
    · exfalso
      have hz : (g2 (g2 (g2 (g2 (g2 (g2 (g2 (g2 (g2 (gLvT j) 4 j True) 14 (8 * j + 1) True) 15 (8 * j + 1) True) 16 (8 * j + 1) True) 14 (8 * j) True) 15 (8 * j) True) 16 (8 * j) True) 5 j True) 6 j True) 1 b = gLvT j 1 b := by simp [g2]
      rw [hz] at hab
      exact hb hab
  · rw [g2_n _ _ (fun e => h1 e.1)]
    show _ = (if a = 1 then _ else gF G gC0 (g2 (g2 (g2 (g2 (g2 (g2 (g2 (g2 (g2 ad 4 j q1) 14 (8 * j + 1) q2) 15 (8 * j + 1) q3) 16 (8 * j + 1) q4) 14 (8 * j) q5) 15 (8 * j) q6) 16 (8 * j) q7) 5 j q8) 6 j q9) a b)
    rw [if_neg h1]
    by_cases k1 : a = 4 ∧ b = j
    · rw [k1.1, k1.2]
      refine (show _ = (.inr (3, [.ref q2, .ref q5, .int 0, .int 60, .int 0, .ref q8, .ref q9]) : va_E) from (g2_n _ _ (fun e => absurd e.1 (by decide))).trans ((g2_n _ _ (fun e => absurd e.1 (by decide))).trans ((g2_n _ _ (fun e => absurd e.1 (by decide))).trans ((g2_n _ _ (fun e => absurd e.1 (by decide))).trans ((g2_n _ _ (fun e => absurd e.1 (by decide))).trans ((g2_n _ _ (fun e => absurd e.1 (by decide))).trans ((g2_n _ _ (fun e => absurd e.1 (by decide))).trans ((g2_n _ _ (fun e => absurd e.1 (by decide))).trans (g2_s _ _ _ _))))))))).trans ?_
      show _ = gB G 4 j (gC0 4 j) _
      have z : (gC0 4 j 0).toNatClampNeg = 0 := rfl
      simp only [gB, z, Nat.add_zero]
      rw [show (g2 (g2 (g2 (g2 (g2 (g2 (g2 (g2 (g2 ad 4 j q1) 14 (8 * j + 1) q2) 15 (8 * j + 1) q3) 16 (8 * j + 1) q4) 14 (8 * j) q5) 15 (8 * j) q6) 16 (8 * j) q7) 5 j q8) 6 j q9) 14 (8 * j + 1) = q2 from (g2_n _ _ (fun e => absurd e.1 (by decide))).trans ((g2_n _ _ (fun e => absurd e.1 (by decide))).trans ((g2_n _ _ (fun e => absurd e.1 (by decide))).trans ((g2_n _ _ (fun e => absurd e.1 (by decide))).trans ((g2_n _ _ (fun e => absurd e.2 (by omega))).trans ((g2_n _ _ (fun e => absurd e.1 (by decide))).trans ((g2_n _ _ (fun e => absurd e.1 (by decide))).trans (g2_s _ _ _ _))))))), show (g2 (g2 (g2 (g2 (g2 (g2 (g2 (g2 (g2 ad 4 j q1) 14 (8 * j + 1) q2) 15 (8 * j + 1) q3) 16 (8 * j + 1) q4) 14 (8 * j) q5) 15 (8 * j) q6) 16 (8 * j) q7) 5 j q8) 6 j q9) 14 (8 * j) = q5 from (g2_n _ _ (fun e => absurd e.1 (by decide))).trans ((g2_n _ _ (fun e => absurd e.1 (by decide))).trans ((g2_n _ _ (fun e => absurd e.1 (by decide))).trans ((g2_n _ _ (fun e => absurd e.1 (by decide))).trans (g2_s _ _ _ _)))), show (g2 (g2 (g2 (g2 (g2 (g2 (g2 (g2 (g2 ad 4 j q1) 14 (8 * j + 1) q2) 15 (8 * j + 1) q3) 16 (8 * j + 1) q4) 14 (8 * j) q5) 15 (8 * j) q6) 16 (8 * j) q7) 5 j q8) 6 j q9) 5 j = q8 from (g2_n _ _ (fun e => absurd e.1 (by decide))).trans (g2_s _ _ _ _), show (g2 (g2 (g2 (g2 (g2 (g2 (g2 (g2 (g2 ad 4 j q1) 14 (8 * j + 1) q2) 15 (8 * j + 1) q3) 16 (8 * j + 1) q4) 14 (8 * j) q5) 15 (8 * j) q6) 16 (8 * j) q7) 5 j q8) 6 j q9) 6 j = q9 from g2_s _ _ _ _]
      rfl
    by_cases k2 : a = 14 ∧ b = 8 * j + 1
    · rw [k2.1, k2.2]
      refine (show _ = (.inr (2, [.ref q3, .ref q4, .int 0]) : va_E) from (g2_n _ _ (fun e => absurd e.1 (by decide))).trans ((g2_n _ _ (fun e => absurd e.1 (by decide))).trans ((g2_n _ _ (fun e => absurd e.1 (by decide))).trans ((g2_n _ _ (fun e => absurd e.1 (by decide))).trans ((g2_n _ _ (fun e => absurd e.2 (by omega))).trans ((g2_n _ _ (fun e => absurd e.1 (by decide))).trans ((g2_n _ _ (fun e => absurd e.1 (by decide))).trans (g2_s _ _ _ _)))))))).trans ?_
      show _ = gB G 14 (8 * j + 1) (gC0 14 (8 * j + 1)) _
      simp only [gB]
      rw [show (g2 (g2 (g2 (g2 (g2 (g2 (g2 (g2 (g2 ad 4 j q1) 14 (8 * j + 1) q2) 15 (8 * j + 1) q3) 16 (8 * j + 1) q4) 14 (8 * j) q5) 15 (8 * j) q6) 16 (8 * j) q7) 5 j q8) 6 j q9) 15 (8 * j + 1) = q3 from (g2_n _ _ (fun e => absurd e.1 (by decide))).trans ((g2_n _ _ (fun e => absurd e.1 (by decide))).trans ((g2_n _ _ (fun e => absurd e.1 (by decide))).trans ((g2_n _ _ (fun e => absurd e.2 (by omega))).trans ((g2_n _ _ (fun e => absurd e.1 (by decide))).trans ((g2_n _ _ (fun e => absurd e.1 (by decide))).trans (g2_s _ _ _ _)))))), show (g2 (g2 (g2 (g2 (g2 (g2 (g2 (g2 (g2 ad 4 j q1) 14 (8 * j + 1) q2) 15 (8 * j + 1) q3) 16 (8 * j + 1) q4) 14 (8 * j) q5) 15 (8 * j) q6) 16 (8 * j) q7) 5 j q8) 6 j q9) 16 (8 * j + 1) = q4 from (g2_n _ _ (fun e => absurd e.1 (by decide))).trans ((g2_n _ _ (fun e => absurd e.1 (by decide))).trans ((g2_n _ _ (fun e => absurd e.2 (by omega))).trans ((g2_n _ _ (fun e => absurd e.1 (by decide))).trans ((g2_n _ _ (fun e => absurd e.1 (by decide))).trans (g2_s _ _ _ _)))))]
      rfl
    by_cases k3 : a = 15 ∧ b = 8 * j + 1
    · rw [k3.1, k3.2]
      refine (show _ = (.inl (G.2.1, 24, .inl (fun _ => 0)) : va_E) from (g2_n _ _ (fun e => absurd e.1 (by decide))).trans ((g2_n _ _ (fun e => absurd e.1 (by decide))).trans ((g2_n _ _ (fun e => absurd e.1 (by decide))).trans ((g2_n _ _ (fun e => absurd e.2 (by omega))).trans ((g2_n _ _ (fun e => absurd e.1 (by decide))).trans ((g2_n _ _ (fun e => absurd e.1 (by decide))).trans (g2_s _ _ _ _))))))).trans ?_
      show _ = gB G 15 (8 * j + 1) (gC0 15 (8 * j + 1)) _
      rfl
    by_cases k4 : a = 16 ∧ b = 8 * j + 1
    · rw [k4.1, k4.2]
      refine (show _ = (.inl (G.2.1, 24, .inl (fun _ => 0)) : va_E) from (g2_n _ _ (fun e => absurd e.1 (by decide))).trans ((g2_n _ _ (fun e => absurd e.1 (by decide))).trans ((g2_n _ _ (fun e => absurd e.2 (by omega))).trans ((g2_n _ _ (fun e => absurd e.1 (by decide))).trans ((g2_n _ _ (fun e => absurd e.1 (by decide))).trans (g2_s _ _ _ _)))))).trans ?_
      show _ = gB G 16 (8 * j + 1) (gC0 16 (8 * j + 1)) _
      rfl
    by_cases k5 : a = 14 ∧ b = 8 * j
    · rw [k5.1, k5.2]
      refine (show _ = (.inr (2, [.ref q6, .ref q7, .int 0]) : va_E) from (g2_n _ _ (fun e => absurd e.1 (by decide))).trans ((g2_n _ _ (fun e => absurd e.1 (by decide))).trans ((g2_n _ _ (fun e => absurd e.1 (by decide))).trans ((g2_n _ _ (fun e => absurd e.1 (by decide))).trans (g2_s _ _ _ _))))).trans ?_
      show _ = gB G 14 (8 * j) (gC0 14 (8 * j)) _
      simp only [gB]
      rw [show (g2 (g2 (g2 (g2 (g2 (g2 (g2 (g2 (g2 ad 4 j q1) 14 (8 * j + 1) q2) 15 (8 * j + 1) q3) 16 (8 * j + 1) q4) 14 (8 * j) q5) 15 (8 * j) q6) 16 (8 * j) q7) 5 j q8) 6 j q9) 15 (8 * j) = q6 from (g2_n _ _ (fun e => absurd e.1 (by decide))).trans ((g2_n _ _ (fun e => absurd e.1 (by decide))).trans ((g2_n _ _ (fun e => absurd e.1 (by decide))).trans (g2_s _ _ _ _))), show (g2 (g2 (g2 (g2 (g2 (g2 (g2 (g2 (g2 ad 4 j q1) 14 (8 * j + 1) q2) 15 (8 * j + 1) q3) 16 (8 * j + 1) q4) 14 (8 * j) q5) 15 (8 * j) q6) 16 (8 * j) q7) 5 j q8) 6 j q9) 16 (8 * j) = q7 from (g2_n _ _ (fun e => absurd e.1 (by decide))).trans ((g2_n _ _ (fun e => absurd e.1 (by decide))).trans (g2_s _ _ _ _))]
      rfl
    by_cases k6 : a = 15 ∧ b = 8 * j
    · rw [k6.1, k6.2]
      refine (show _ = (.inl (G.2.1, 24, .inl (fun _ => 0)) : va_E) from (g2_n _ _ (fun e => absurd e.1 (by decide))).trans ((g2_n _ _ (fun e => absurd e.1 (by decide))).trans ((g2_n _ _ (fun e => absurd e.1 (by decide))).trans (g2_s _ _ _ _)))).trans ?_
      show _ = gB G 15 (8 * j) (gC0 15 (8 * j)) _
      rfl
    by_cases k7 : a = 16 ∧ b = 8 * j
    · rw [k7.1, k7.2]
      refine (show _ = (.inl (G.2.1, 24, .inl (fun _ => 0)) : va_E) from (g2_n _ _ (fun e => absurd e.1 (by decide))).trans ((g2_n _ _ (fun e => absurd e.1 (by decide))).trans (g2_s _ _ _ _))).trans ?_
      show _ = gB G 16 (8 * j) (gC0 16 (8 * j)) _
      rfl
    by_cases k8 : a = 5 ∧ b = j
    · rw [k8.1, k8.2]
      refine (show _ = (.inl (G.2.1, 4, .inl (upd (upd (upd (upd (fun _ => 0) (0 : Int32).toNatClampNeg 20) (1 : Int32).toNatClampNeg 20) (2 : Int32).toNatClampNeg 20) (3 : Int32).toNatClampNeg 20)) : va_E) from (g2_n _ _ (fun e => absurd e.1 (by decide))).trans (g2_s _ _ _ _)).trans ?_
      show _ = gB G 5 j (gC0 5 j) _
      rfl
    by_cases k9 : a = 6 ∧ b = j
    · rw [k9.1, k9.2]
      refine (show _ = (.inl (G.2.1, 4, .inl (fun _ => 0)) : va_E) from g2_s _ _ _ _).trans ?_
      show _ = gB G 6 j (gC0 6 j) _
      rfl
    have hl : gLvT j a b := by
      have hz : (g2 (g2 (g2 (g2 (g2 (g2 (g2 (g2 (g2 (gLvT j) 4 j True) 14 (8 * j + 1) True) 15 (8 * j + 1) True) 16 (8 * j + 1) True) 14 (8 * j) True) 15 (8 * j) True) 16 (8 * j) True) 5 j True) 6 j True) a b = gLvT j a b := by simp only [g2, if_neg k1, if_neg k2, if_neg k3, if_neg k4, if_neg k5, if_neg k6, if_neg k7, if_neg k8, if_neg k9]
      exact Eq.mp hz hab
    have hz : (g2 (g2 (g2 (g2 (g2 (g2 (g2 (g2 (g2 (gFT G j ad) 4 j (.inr (3, [.ref q2, .ref q5, .int 0, .int 60, .int 0, .ref q8, .ref q9]))) 14 (8 * j + 1) (.inr (2, [.ref q3, .ref q4, .int 0]))) 15 (8 * j + 1) (.inl (G.2.1, 24, .inl (fun _ => 0)))) 16 (8 * j + 1) (.inl (G.2.1, 24, .inl (fun _ => 0)))) 14 (8 * j) (.inr (2, [.ref q6, .ref q7, .int 0]))) 15 (8 * j) (.inl (G.2.1, 24, .inl (fun _ => 0)))) 16 (8 * j) (.inl (G.2.1, 24, .inl (fun _ => 0)))) 5 j (.inl (G.2.1, 4, .inl (upd (upd (upd (upd (fun _ => 0) (0 : Int32).toNatClampNeg 20) (1 : Int32).toNatClampNeg 20) (2 : Int32).toNatClampNeg 20) (3 : Int32).toNatClampNeg 20)))) 6 j (.inl (G.2.1, 4, .inl (fun _ => 0)))) a b = gFT G j ad a b := by simp only [g2, if_neg k1, if_neg k2, if_neg k3, if_neg k4, if_neg k5, if_neg k6, if_neg k7, if_neg k8, if_neg k9]
    rw [hz, gFT_ad hK a b hl h1]
    exact if_neg h1
set_option maxHeartbeats 8000000 in
theorem tool_iter {j : Nat} (X : gX p s m args c cX5_init RX5 2 G A) (hj : j < 4) (hw : gW G A s.heap H locs (gLvT j) ad (gFT G j ad)) (hl : lv_has ls 2 [(1, .int (nI j)), (0, .ref (ad 0 0))]) (hRf : 4 ≤ R.frames) (hRl : 60 ≤ R.locals) (hRc : cells + 9 ≤ R.cells) (hRs : slots + 131 ≤ R.slots)
    (kk : ∀ (ad' : gAd) (H : Heap) (locs : List Loc) (ls : Array Slot), gW G A s.heap H locs (gLvT (j + 1)) ad' (gFT G (j + 1) ad') → lv_has ls 2 [(1, .int (nI (j + 1))), (0, .ref (ad' 0 0))] → ad' 0 0 = ad 0 0 → W p l e R s m args below meth c H locs (cells + 9) (slots + 131) Q (F0 m 60 ls [])) : W p l e R s m args below meth c H locs cells slots Q (F0 m 60 ls []) := by
  have hx := X.1.1; have hb := X.1.2.1; have hml := X.1.2.2.1; have hown := X.1.2.2.2.1; have hts := X.1.2.2.2.2
  refine lv_iload_n hx hb dX5_init_60 rfl (lv_at hl 0 rfl) ?_
  refine lv_iconst (v := 4) hx hb dX5_init_61 (by decide) ?_
  refine lv_icmp_ge (tgt := 84) hx hb dX5_init_62 (by decide) (fun q => absurd q (nI_ge (a := j) (b := 4) hj (by decide))) (fun _ => ?_)
  refine lv_aload_n hx hb dX5_init_65 rfl (lv_at hl 1 rfl) ?_
  refine r_get X hw 0 0 0 (show gLvT j 0 0 from rfl) rfl rfl k_X5 (by decide) fl_RX5_11 dX5_init_66 ?_
  refine lv_iload_n hx hb dX5_init_69 rfl (lv_at hl 0 rfl) ?_
  refine r_new X hw 4 j (show ¬ gLvT j 4 j from fun h => by simp only [gLvT] at h; omega) (fs := [.null, .null, .int 0, .int 0, .int 0, .null, .null]) k_X2 df_X2 cl_RX5_9 ins_RX2 ini_RX2 (by omega) (by omega) dX5_init_70 (fun q1 H _ hw => ?_)
  refine lv_dup hx hb dX5_init_73 rfl ?_
  refine W.eq (g2 := F0 m 74 ls [.ref ((g2 ad 4 j q1) 4 j), .ref q1, .int (nI j), .ref (ad 1 0)]) (by rw [show (g2 ad 4 j q1) 4 j = q1 from g2_s _ _ _ _]) ?_
  refine r_rv X hw (r_runI X (c_iX2 l G _ _ _ j (Eq.mpr (g2_s _ _ _ _) trivial) (fun h => (show ¬ gLvT j 14 (8 * j + 1) from fun h => by simp only [gLvT] at h; omega) (Eq.mp ((g2_n _ _ (fun e => absurd e.1 (by decide)))) h)) (fun h => (show ¬ gLvT j 15 (8 * j + 1) from fun h => by simp only [gLvT] at h; omega) (Eq.mp ((g2_n _ _ (fun e => absurd e.1 (by decide)))) h)) (fun h => (show ¬ gLvT j 16 (8 * j + 1) from fun h => by simp only [gLvT] at h; omega) (Eq.mp ((g2_n _ _ (fun e => absurd e.1 (by decide)))) h)) (fun h => (show ¬ gLvT j 14 (8 * j) from fun h => by simp only [gLvT] at h; omega) (Eq.mp ((g2_n _ _ (fun e => absurd e.1 (by decide)))) h)) (fun h => (show ¬ gLvT j 15 (8 * j) from fun h => by simp only [gLvT] at h; omega) (Eq.mp ((g2_n _ _ (fun e => absurd e.1 (by decide)))) h)) (fun h => (show ¬ gLvT j 16 (8 * j) from fun h => by simp only [gLvT] at h; omega) (Eq.mp ((g2_n _ _ (fun e => absurd e.1 (by decide)))) h)) (fun h => (show ¬ gLvT j 5 j from fun h => by simp only [gLvT] at h; omega) (Eq.mp ((g2_n _ _ (fun e => absurd e.1 (by decide)))) h)) (fun h => (show ¬ gLvT j 6 j from fun h => by simp only [gLvT] at h; omega) (Eq.mp ((g2_n _ _ (fun e => absurd e.1 (by decide)))) h)) (g2_s _ _ _ _) _) cy_X2_init ml_RX5_39 ⟨by show 2 + 1 ≤ R.frames; omega, by show 8 + (2 + 11) + 32 ≤ R.locals; omega⟩ gP.blind (gP_call X hw _) rfl hl.1 rfl (Nat.le_of_ble_eq_true rfl) dX5_init_74 ⟨by show (cells + 1) + 8 ≤ _; omega, by show (slots + 7) + 124 ≤ _; omega⟩) (fun u H locs hp hw => ?_)
  obtain ⟨q2, q3, q4, q5, q6, q7, q8, q9, rfl⟩ := hp
  have hw : gW G A s.heap H locs (g2 (g2 (g2 (g2 (g2 (g2 (g2 (g2 (g2 (gLvT j) 4 j True) 14 (8 * j + 1) True) 15 (8 * j + 1) True) 16 (8 * j + 1) True) 14 (8 * j) True) 15 (8 * j) True) 16 (8 * j) True) 5 j True) 6 j True) (g2 (g2 (g2 (g2 (g2 (g2 (g2 (g2 (g2 ad 4 j q1) 14 (8 * j + 1) q2) 15 (8 * j + 1) q3) 16 (8 * j + 1) q4) 14 (8 * j) q5) 15 (8 * j) q6) 16 (8 * j) q7) 5 j q8) 6 j q9) (g2 (g2 (g2 (g2 (g2 (g2 (g2 (g2 (g2 (g2 (gFT G j ad) 4 j (.inr (3, [.null, .null, .int 0, .int 0, .int 0, .null, .null]))) 14 (8 * j + 1) (.inr (2, [.ref q3, .ref q4, .int 0]))) 15 (8 * j + 1) (.inl (G.2.1, 24, .inl (fun _ => 0)))) 16 (8 * j + 1) (.inl (G.2.1, 24, .inl (fun _ => 0)))) 4 j (.inr (3, [.ref q2, .ref q5, .int 0, .int 60, .int 0, .ref q8, .ref q9]))) 14 (8 * j) (.inr (2, [.ref q6, .ref q7, .int 0]))) 15 (8 * j) (.inl (G.2.1, 24, .inl (fun _ => 0)))) 16 (8 * j) (.inl (G.2.1, 24, .inl (fun _ => 0)))) 5 j (.inl (G.2.1, 4, .inl (upd (upd (upd (upd (fun _ => 0) (0 : Int32).toNatClampNeg 20) (1 : Int32).toNatClampNeg 20) (2 : Int32).toNatClampNeg 20) (3 : Int32).toNatClampNeg 20)))) 6 j (.inl (G.2.1, 4, .inl (fun _ => 0)))) := hw
  have hE : (g2 (g2 (g2 (g2 (g2 (g2 (g2 (g2 (g2 (g2 (gFT G j ad) 4 j (.inr (3, [.null, .null, .int 0, .int 0, .int 0, .null, .null]))) 14 (8 * j + 1) (.inr (2, [.ref q3, .ref q4, .int 0]))) 15 (8 * j + 1) (.inl (G.2.1, 24, .inl (fun _ => 0)))) 16 (8 * j + 1) (.inl (G.2.1, 24, .inl (fun _ => 0)))) 4 j (.inr (3, [.ref q2, .ref q5, .int 0, .int 60, .int 0, .ref q8, .ref q9]))) 14 (8 * j) (.inr (2, [.ref q6, .ref q7, .int 0]))) 15 (8 * j) (.inl (G.2.1, 24, .inl (fun _ => 0)))) 16 (8 * j) (.inl (G.2.1, 24, .inl (fun _ => 0)))) 5 j (.inl (G.2.1, 4, .inl (upd (upd (upd (upd (fun _ => 0) (0 : Int32).toNatClampNeg 20) (1 : Int32).toNatClampNeg 20) (2 : Int32).toNatClampNeg 20) (3 : Int32).toNatClampNeg 20)))) 6 j (.inl (G.2.1, 4, .inl (fun _ => 0)))) = (g2 (g2 (g2 (g2 (g2 (g2 (g2 (g2 (g2 (gFT G j ad) 4 j (.inr (3, [.ref q2, .ref q5, .int 0, .int 60, .int 0, .ref q8, .ref q9]))) 14 (8 * j + 1) (.inr (2, [.ref q3, .ref q4, .int 0]))) 15 (8 * j + 1) (.inl (G.2.1, 24, .inl (fun _ => 0)))) 16 (8 * j + 1) (.inl (G.2.1, 24, .inl (fun _ => 0)))) 14 (8 * j) (.inr (2, [.ref q6, .ref q7, .int 0]))) 15 (8 * j) (.inl (G.2.1, 24, .inl (fun _ => 0)))) 16 (8 * j) (.inl (G.2.1, 24, .inl (fun _ => 0)))) 5 j (.inl (G.2.1, 4, .inl (upd (upd (upd (upd (fun _ => 0) (0 : Int32).toNatClampNeg 20) (1 : Int32).toNatClampNeg 20) (2 : Int32).toNatClampNeg 20) (3 : Int32).toNatClampNeg 20)))) 6 j (.inl (G.2.1, 4, .inl (fun _ => 0)))) := by
    funext a b
    simp only [g2]
    by_cases k1 : a = 4 ∧ b = j
    · simp only [if_pos k1, if_neg (show ¬ (a = 14 ∧ b = 8 * j + 1) from by omega), if_neg (show ¬ (a = 15 ∧ b = 8 * j + 1) from by omega), if_neg (show ¬ (a = 16 ∧ b = 8 * j + 1) from by omega), if_neg (show ¬ (a = 14 ∧ b = 8 * j) from by omega), if_neg (show ¬ (a = 15 ∧ b = 8 * j) from by omega), if_neg (show ¬ (a = 16 ∧ b = 8 * j) from by omega), if_neg (show ¬ (a = 5 ∧ b = j) from by omega), if_neg (show ¬ (a = 6 ∧ b = j) from by omega)]
    by_cases k2 : a = 14 ∧ b = 8 * j + 1
    · simp only [if_pos k2, if_neg (show ¬ (a = 4 ∧ b = j) from by omega), if_neg (show ¬ (a = 15 ∧ b = 8 * j + 1) from by omega), if_neg (show ¬ (a = 16 ∧ b = 8 * j + 1) from by omega), if_neg (show ¬ (a = 14 ∧ b = 8 * j) from by omega), if_neg (show ¬ (a = 15 ∧ b = 8 * j) from by omega), if_neg (show ¬ (a = 16 ∧ b = 8 * j) from by omega), if_neg (show ¬ (a = 5 ∧ b = j) from by omega), if_neg (show ¬ (a = 6 ∧ b = j) from by omega)]
    by_cases k3 : a = 15 ∧ b = 8 * j + 1
    · simp only [if_pos k3, if_neg (show ¬ (a = 4 ∧ b = j) from by omega), if_neg (show ¬ (a = 14 ∧ b = 8 * j + 1) from by omega), if_neg (show ¬ (a = 16 ∧ b = 8 * j + 1) from by omega), if_neg (show ¬ (a = 14 ∧ b = 8 * j) from by omega), if_neg (show ¬ (a = 15 ∧ b = 8 * j) from by omega), if_neg (show ¬ (a = 16 ∧ b = 8 * j) from by omega), if_neg (show ¬ (a = 5 ∧ b = j) from by omega), if_neg (show ¬ (a = 6 ∧ b = j) from by omega)]
    by_cases k4 : a = 16 ∧ b = 8 * j + 1
    · simp only [if_pos k4, if_neg (show ¬ (a = 4 ∧ b = j) from by omega), if_neg (show ¬ (a = 14 ∧ b = 8 * j + 1) from by omega), if_neg (show ¬ (a = 15 ∧ b = 8 * j + 1) from by omega), if_neg (show ¬ (a = 14 ∧ b = 8 * j) from by omega), if_neg (show ¬ (a = 15 ∧ b = 8 * j) from by omega), if_neg (show ¬ (a = 16 ∧ b = 8 * j) from by omega), if_neg (show ¬ (a = 5 ∧ b = j) from by omega), if_neg (show ¬ (a = 6 ∧ b = j) from by omega)]
    by_cases k5 : a = 14 ∧ b = 8 * j
    · simp only [if_pos k5, if_neg (show ¬ (a = 4 ∧ b = j) from by omega), if_neg (show ¬ (a = 14 ∧ b = 8 * j + 1) from by omega), if_neg (show ¬ (a = 15 ∧ b = 8 * j + 1) from by omega), if_neg (show ¬ (a = 16 ∧ b = 8 * j + 1) from by omega), if_neg (show ¬ (a = 15 ∧ b = 8 * j) from by omega), if_neg (show ¬ (a = 16 ∧ b = 8 * j) from by omega), if_neg (show ¬ (a = 5 ∧ b = j) from by omega), if_neg (show ¬ (a = 6 ∧ b = j) from by omega)]
    by_cases k6 : a = 15 ∧ b = 8 * j
    · simp only [if_pos k6, if_neg (show ¬ (a = 4 ∧ b = j) from by omega), if_neg (show ¬ (a = 14 ∧ b = 8 * j + 1) from by omega), if_neg (show ¬ (a = 15 ∧ b = 8 * j + 1) from by omega), if_neg (show ¬ (a = 16 ∧ b = 8 * j + 1) from by omega), if_neg (show ¬ (a = 14 ∧ b = 8 * j) from by omega), if_neg (show ¬ (a = 16 ∧ b = 8 * j) from by omega), if_neg (show ¬ (a = 5 ∧ b = j) from by omega), if_neg (show ¬ (a = 6 ∧ b = j) from by omega)]
    by_cases k7 : a = 16 ∧ b = 8 * j
    · simp only [if_pos k7, if_neg (show ¬ (a = 4 ∧ b = j) from by omega), if_neg (show ¬ (a = 14 ∧ b = 8 * j + 1) from by omega), if_neg (show ¬ (a = 15 ∧ b = 8 * j + 1) from by omega), if_neg (show ¬ (a = 16 ∧ b = 8 * j + 1) from by omega), if_neg (show ¬ (a = 14 ∧ b = 8 * j) from by omega), if_neg (show ¬ (a = 15 ∧ b = 8 * j) from by omega), if_neg (show ¬ (a = 5 ∧ b = j) from by omega), if_neg (show ¬ (a = 6 ∧ b = j) from by omega)]
    by_cases k8 : a = 5 ∧ b = j
    · simp only [if_pos k8, if_neg (show ¬ (a = 4 ∧ b = j) from by omega), if_neg (show ¬ (a = 14 ∧ b = 8 * j + 1) from by omega), if_neg (show ¬ (a = 15 ∧ b = 8 * j + 1) from by omega), if_neg (show ¬ (a = 16 ∧ b = 8 * j + 1) from by omega), if_neg (show ¬ (a = 14 ∧ b = 8 * j) from by omega), if_neg (show ¬ (a = 15 ∧ b = 8 * j) from by omega), if_neg (show ¬ (a = 16 ∧ b = 8 * j) from by omega), if_neg (show ¬ (a = 6 ∧ b = j) from by omega)]
    by_cases k9 : a = 6 ∧ b = j
    · simp only [if_pos k9, if_neg (show ¬ (a = 4 ∧ b = j) from by omega), if_neg (show ¬ (a = 14 ∧ b = 8 * j + 1) from by omega), if_neg (show ¬ (a = 15 ∧ b = 8 * j + 1) from by omega), if_neg (show ¬ (a = 16 ∧ b = 8 * j + 1) from by omega), if_neg (show ¬ (a = 14 ∧ b = 8 * j) from by omega), if_neg (show ¬ (a = 15 ∧ b = 8 * j) from by omega), if_neg (show ¬ (a = 16 ∧ b = 8 * j) from by omega), if_neg (show ¬ (a = 5 ∧ b = j) from by omega)]
    simp only [if_neg k1, if_neg k2, if_neg k3, if_neg k4, if_neg k5, if_neg k6, if_neg k7, if_neg k8, if_neg k9]
  rw [hE] at hw
  have a0 : (g2 (g2 (g2 (g2 (g2 (g2 (g2 (g2 (g2 ad 4 j q1) 14 (8 * j + 1) q2) 15 (8 * j + 1) q3) 16 (8 * j + 1) q4) 14 (8 * j) q5) 15 (8 * j) q6) 16 (8 * j) q7) 5 j q8) 6 j q9) 0 0 = ad 0 0 := (g2_n _ _ (fun e => absurd e.1 (by decide))).trans ((g2_n _ _ (fun e => absurd e.1 (by decide))).trans ((g2_n _ _ (fun e => absurd e.1 (by decide))).trans ((g2_n _ _ (fun e => absurd e.1 (by decide))).trans ((g2_n _ _ (fun e => absurd e.1 (by decide))).trans ((g2_n _ _ (fun e => absurd e.1 (by decide))).trans ((g2_n _ _ (fun e => absurd e.1 (by decide))).trans ((g2_n _ _ (fun e => absurd e.1 (by decide))).trans ((g2_n _ _ (fun e => absurd e.1 (by decide)))))))))))
  have a1 : (g2 (g2 (g2 (g2 (g2 (g2 (g2 (g2 (g2 ad 4 j q1) 14 (8 * j + 1) q2) 15 (8 * j + 1) q3) 16 (8 * j + 1) q4) 14 (8 * j) q5) 15 (8 * j) q6) 16 (8 * j) q7) 5 j q8) 6 j q9) 1 0 = ad 1 0 := (g2_n _ _ (fun e => absurd e.1 (by decide))).trans ((g2_n _ _ (fun e => absurd e.1 (by decide))).trans ((g2_n _ _ (fun e => absurd e.1 (by decide))).trans ((g2_n _ _ (fun e => absurd e.1 (by decide))).trans ((g2_n _ _ (fun e => absurd e.1 (by decide))).trans ((g2_n _ _ (fun e => absurd e.1 (by decide))).trans ((g2_n _ _ (fun e => absurd e.1 (by decide))).trans ((g2_n _ _ (fun e => absurd e.1 (by decide))).trans ((g2_n _ _ (fun e => absurd e.1 (by decide)))))))))))
  have a4 : (g2 (g2 (g2 (g2 (g2 (g2 (g2 (g2 (g2 ad 4 j q1) 14 (8 * j + 1) q2) 15 (8 * j + 1) q3) 16 (8 * j + 1) q4) 14 (8 * j) q5) 15 (8 * j) q6) 16 (8 * j) q7) 5 j q8) 6 j q9) 4 j = q1 := (g2_n _ _ (fun e => absurd e.1 (by decide))).trans ((g2_n _ _ (fun e => absurd e.1 (by decide))).trans ((g2_n _ _ (fun e => absurd e.1 (by decide))).trans ((g2_n _ _ (fun e => absurd e.1 (by decide))).trans ((g2_n _ _ (fun e => absurd e.1 (by decide))).trans ((g2_n _ _ (fun e => absurd e.1 (by decide))).trans ((g2_n _ _ (fun e => absurd e.1 (by decide))).trans ((g2_n _ _ (fun e => absurd e.1 (by decide))).trans (g2_s _ _ _ _))))))))
  refine W.eq (g2 := F0 m 77 ls [.ref ((g2 (g2 (g2 (g2 (g2 (g2 (g2 (g2 (g2 ad 4 j q1) 14 (8 * j + 1) q2) 15 (8 * j + 1) q3) 16 (8 * j + 1) q4) 14 (8 * j) q5) 15 (8 * j) q6) 16 (8 * j) q7) 5 j q8) 6 j q9) 4 j), .int (nI j), .ref ((g2 (g2 (g2 (g2 (g2 (g2 (g2 (g2 (g2 ad 4 j q1) 14 (8 * j + 1) q2) 15 (8 * j + 1) q3) 16 (8 * j + 1) q4) 14 (8 * j) q5) 15 (8 * j) q6) 16 (8 * j) q7) 5 j q8) 6 j q9) 1 0)]) (by rw [a4, a1]) ?_
  refine r_astq X hw 1 0 (Eq.mpr ((g2_n _ _ (fun e => absurd e.1 (by decide))).trans ((g2_n _ _ (fun e => absurd e.1 (by decide))).trans ((g2_n _ _ (fun e => absurd e.1 (by decide))).trans ((g2_n _ _ (fun e => absurd e.1 (by decide))).trans ((g2_n _ _ (fun e => absurd e.1 (by decide))).trans ((g2_n _ _ (fun e => absurd e.1 (by decide))).trans ((g2_n _ _ (fun e => absurd e.1 (by decide))).trans ((g2_n _ _ (fun e => absurd e.1 (by decide))).trans ((g2_n _ _ (fun e => absurd e.1 (by decide)))))))))))) (show gLvT j 1 0 from rfl)) 2 rfl (N := 4) (f := fun i => if i < j then some (ad 4 i) else none) (((g2_n _ _ (fun e => absurd e.1 (by decide))).trans ((g2_n _ _ (fun e => absurd e.1 (by decide))).trans ((g2_n _ _ (fun e => absurd e.1 (by decide))).trans ((g2_n _ _ (fun e => absurd e.1 (by decide))).trans ((g2_n _ _ (fun e => absurd e.1 (by decide))).trans ((g2_n _ _ (fun e => absurd e.1 (by decide))).trans ((g2_n _ _ (fun e => absurd e.1 (by decide))).trans ((g2_n _ _ (fun e => absurd e.1 (by decide))).trans ((g2_n _ _ (fun e => absurd e.1 (by decide)))))))))))).trans (if_pos rfl)) 4 j ((Eq.mpr ((g2_n _ _ (fun e => absurd e.1 (by decide))).trans ((g2_n _ _ (fun e => absurd e.1 (by decide))).trans ((g2_n _ _ (fun e => absurd e.1 (by decide))).trans ((g2_n _ _ (fun e => absurd e.1 (by decide))).trans ((g2_n _ _ (fun e => absurd e.1 (by decide))).trans ((g2_n _ _ (fun e => absurd e.1 (by decide))).trans ((g2_n _ _ (fun e => absurd e.1 (by decide))).trans ((g2_n _ _ (fun e => absurd e.1 (by decide))).trans (g2_s _ _ _ _))))))))) trivial)) (ci := 3) ((g2_n _ _ (fun e => absurd e.1 (by decide))).trans ((g2_n _ _ (fun e => absurd e.1 (by decide))).trans ((g2_n _ _ (fun e => absurd e.1 (by decide))).trans ((g2_n _ _ (fun e => absurd e.1 (by decide))).trans ((g2_n _ _ (fun e => absurd e.1 (by decide))).trans ((g2_n _ _ (fun e => absurd e.1 (by decide))).trans ((g2_n _ _ (fun e => absurd e.1 (by decide))).trans ((g2_n _ _ (fun e => absurd e.1 (by decide))).trans (g2_s _ _ _ _))))))))) rfl (fun comp c0 f1 f2 => by
      have hc := (X.2.1.1 3 _ rfl).2
      cases f1.symm.trans hc.1
      cases f2.symm.trans hc.1
      exact va_assign hc) (vp_in_nI hj (by decide)) dX5_init_77 (fun H locs hw => ?_)
  rw [nI_clamp (show j < 2 ^ 31 by omega), a4] at hw
  have hw := hw.cong (gFT_s (G := G) (ad := ad) hj)
  rw [gLvT_s] at hw
  refine lv_iinc (v := nI (j + 1)) (lv' := [(1, .int (nI (j + 1))), (0, .ref (ad 0 0))]) hx hb dX5_init_78 hl (k := 0) rfl (by rw [← nI_1]; rfl) (by decide) rfl (fun ls hl => ?_)
  refine lv_goto (tgt := 60) hx hb dX5_init_81 (by decide) ?_
  exact kk _ H locs ls hw (by rw [a0]; exact hl) a0
end GTI

/-! ===== answer, on both sides ===== -/
def anM (M : gCT) (r f p q a : Nat) (w v pr : Int32) : gCT := cs (cs (cs (cs (cs (cs (cs (cs (cs M 20 0 3 0) 21 30 a (nI r)) 21 31 a (nI q)) 21 32 a w) 21 33 a v) 20 0 2 (nI (a + 1))) 21 8 f (M 21 8 f - pr)) 21 13 p (M 21 13 p + pr)) 21 26 r (M 21 26 r + pr)
theorem anM_fr (M : gCT) (r f p q a : Nat) (w v pr : Int32) {κ n j : Nat} (h : ¬ (κ = 20 ∧ n = 0 ∧ (j = 3 ∨ j = 2))) (h2 : ¬ (κ = 21 ∧ ((n = 30 ∨ n = 31 ∨ n = 32 ∨ n = 33) ∧ j = a ∨ (n = 8 ∧ j = f) ∨ (n = 13 ∧ j = p) ∨ (n = 26 ∧ j = r)))) : anM M r f p q a w v pr κ n j = M κ n j := by
  unfold anM
  rw [cs_rd, if_neg (by omega), cs_rd, if_neg (by omega), cs_rd, if_neg (by omega), cs_rd, if_neg (by omega), cs_rd, if_neg (by omega), cs_rd, if_neg (by omega), cs_rd, if_neg (by omega), cs_rd, if_neg (by omega), cs_rd, if_neg (by omega)]
theorem anM_at (M : gCT) (r f p q a : Nat) (w v pr : Int32) : anM M r f p q a w v pr 20 0 2 = nI (a + 1) ∧ anM M r f p q a w v pr 20 0 3 = 0 ∧ anM M r f p q a w v pr 21 30 a = nI r ∧ anM M r f p q a w v pr 21 31 a = nI q ∧ anM M r f p q a w v pr 21 32 a = w ∧ anM M r f p q a w v pr 21 33 a = v ∧ anM M r f p q a w v pr 21 8 f = M 21 8 f - pr ∧ anM M r f p q a w v pr 21 13 p = M 21 13 p + pr ∧ anM M r f p q a w v pr 21 26 r = M 21 26 r + pr := by
  unfold anM
  refine ⟨?_, ?_, ?_, ?_, ?_, ?_, ?_, ?_, ?_⟩
  · rw [cs_rd, if_neg (by omega), cs_rd, if_neg (by omega), cs_rd, if_neg (by omega), cs_s]
  · rw [cs_rd, if_neg (by omega), cs_rd, if_neg (by omega), cs_rd, if_neg (by omega), cs_rd, if_neg (by omega), cs_rd, if_neg (by omega), cs_rd, if_neg (by omega), cs_rd, if_neg (by omega), cs_rd, if_neg (by omega), cs_s]
  · rw [cs_rd, if_neg (by omega), cs_rd, if_neg (by omega), cs_rd, if_neg (by omega), cs_rd, if_neg (by omega), cs_rd, if_neg (by omega), cs_rd, if_neg (by omega), cs_rd, if_neg (by omega), cs_s]
  · rw [cs_rd, if_neg (by omega), cs_rd, if_neg (by omega), cs_rd, if_neg (by omega), cs_rd, if_neg (by omega), cs_rd, if_neg (by omega), cs_rd, if_neg (by omega), cs_s]
  · rw [cs_rd, if_neg (by omega), cs_rd, if_neg (by omega), cs_rd, if_neg (by omega), cs_rd, if_neg (by omega), cs_rd, if_neg (by omega), cs_s]
  · rw [cs_rd, if_neg (by omega), cs_rd, if_neg (by omega), cs_rd, if_neg (by omega), cs_rd, if_neg (by omega), cs_s]
  · rw [cs_rd, if_neg (by omega), cs_rd, if_neg (by omega), cs_s]
  · rw [cs_rd, if_neg (by omega), cs_s]
  · rw [cs_s]
/-- what the machine finds: one answer more -/
theorem an_env {C D : gCT} {r c q : Nat} {v : Int32} (hc : C 2 r 1 = nI c) (hc2 : c ≤ 511) (hd : D 2 r 1 = nI (c + 1)) (h13 : ∀ j, j < c → cT D r j = cT C r j) (h12 : D 12 r = C 12 r) (hnew : cT D r c = (nI q, C 12 r q, v)) (hq : q < 16) (h11 : D 11 r 7 = C 11 r 7) (h15 : D 15 = C 15) (h16 : D 16 = C 16) (h14 : D 14 = C 14) : (envC D r).2 = (envC C r).2 ∧ (∀ k n, ¬ (envC C r).1 k n = -1 → (envC D r).1 k n = (envC C r).1 k n) ∧ (cLf D r 0 (c + 1) = cLf C r 0 c ++ [(nI q, C 12 r q, v)]) ∧ (envC D r).1 (nI q) (nI (cntR (nI q) (C 12 r q) (cLf C r 0 c) + 1)) = v := by
  have hL : cLf D r 0 (c + 1) = cLf C r 0 c ++ [(nI q, C 12 r q, v)] := by
    rw [cLf_snoc, Nat.zero_add, hnew, cLf_cong c 0 (fun j hj => h13 j (by omega))]
  have hle : cntR (nI q) (C 12 r q) (cLf C r 0 c) ≤ c := Nat.le_trans (cntR_le _ _ _) (by rw [cLf_len]; exact Nat.le_refl _)
  refine ⟨?_, fun k n hne => ?_, hL, ?_⟩
  · unfold envC
    rw [h11, h15, h16, h14]
  · have hne : ¬ (m_nth C r k n).1 = -1 := hne
    show (m_nth D r k n).1 = (m_nth C r k n).1
    unfold m_nth at hne ⊢
    dsimp only at hne ⊢
    rw [h12]
    exact m_nth_L_ext hc hc2 hd h13 k n _ 2001 0 0 (Nat.zero_le _) hne
  · show (m_nth D r (nI q) (nI (cntR (nI q) (C 12 r q) (cLf C r 0 c) + 1))).1 = v
    rw [m_nth_at hd (by omega) hq (by omega) (by omega), h12, hL, (nthR_app (cLf C r 0 c) [(nI q, C 12 r q, v)] (by omega)).2 (by omega), Nat.add_sub_cancel_left]
    show (if nI q = nI q ∧ C 12 r q = C 12 r q then (if 1 = 1 then v else _) else _) = v
    rw [if_pos ⟨rfl, rfl⟩, if_pos rfl]
theorem aK_ans {cnt cnt' : Nat → Nat} {x : aM} (h : aK cnt x) (h0 : x.1 4 = 0) {q : Nat} (hq : q < 16) (h5 : x.1 5 = nI q) (hc : ∀ k, k < 16 → cnt' k = cnt k + (if k = q then 1 else 0)) (v : Int32) : aK cnt' (a_put (a_st x 7) v) := by
  have hs : (a_put (a_st x 7) v).1 4 ≠ 0 := by
    rcases a_put_st (a_st x 7) v with e | e
    · rw [e, show (a_st x 7).1 4 = 7 from sr_s x 4 7]; decide
    · rw [e]; decide
  refine ⟨fun k hk => ?_, fun e => absurd e hs⟩
  obtain ⟨d, d1, d2, d3⟩ := h.1 k hk
  rw [a_put_t]
  refine ⟨d, d1, ?_, ⟨fun e => ?_, fun e => absurd e.1 hs⟩⟩
  · rw [hc k hk]; split <;> omega
  · exfalso
    rw [hc k hk] at e
    by_cases hkq : k = q
    · rw [if_pos hkq] at e; omega
    · rw [if_neg hkq, Nat.add_zero] at e
      have := (d3.mp e).2
      rw [h5] at this
      exact hkq ((nI_eq (by omega) (by omega)).mp this).symm

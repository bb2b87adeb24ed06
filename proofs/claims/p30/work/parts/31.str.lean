/-! ===== what no call but a few changes: the lists, the forms' versions, the runs' forms and codes, the codes ===== -/
def gSx (C D : gCT) : Prop := D 2 = C 2 ∧ D 3 = C 3 ∧ (∀ f, D 4 f 0 = C 4 f 0) ∧ (∀ r, D 11 r 6 = C 11 r 6 ∧ D 11 r 7 = C 11 r 7) ∧ D 14 = C 14
theorem gSx.rf {C : gCT} : gSx C C := ⟨rfl, rfl, fun _ => rfl, fun _ => ⟨rfl, rfl⟩, rfl⟩
theorem gSx.tr {C D E : gCT} (h : gSx C D) (g : gSx D E) : gSx C E := ⟨g.1.trans h.1, g.2.1.trans h.2.1, fun f => (g.2.2.1 f).trans (h.2.2.1 f), fun r => ⟨(g.2.2.2.1 r).1.trans (h.2.2.2.1 r).1, (g.2.2.2.1 r).2.trans (h.2.2.2.1 r).2⟩, g.2.2.2.2.trans h.2.2.2.2⟩
theorem gSx.lv {C D : gCT} (h : gSx C D) : gLvO D = gLvO C := gLvO_same (fun n => by rw [h.1]; exact ⟨rfl, rfl⟩) h.2.2.1
theorem gSx.inv {C D : gCT} (h : gSx C D) (hI : gInv C) : gInv D := gInv_same hI (fun n => by rw [h.1]; exact ⟨rfl, rfl⟩) h.2.1 h.2.2.1 h.2.2.2.1 (fun d => by rw [h.2.2.2.2])
theorem gSx.rc {C D : gCT} (h : gSx C D) : gRc D = gRc C := by unfold gRc; rw [h.1]
theorem gSx.cnt {C D : gCT} (h : gSx C D) : gCnt D = gCnt C := by funext n; unfold gCnt; rw [h.1]
theorem gSx.vn {C D : gCT} (h : gSx C D) : gVn D = gVn C := by funext f; unfold gVn; rw [h.2.2.1]
/-- the facts that calls ask for, carried over -/
theorem gSx.form {C D : gCT} (h : gSx C D) {lv : gLv} {f : Nat} (hf : gForm lv C f) : gForm lv D f := by
  unfold gForm at hf ⊢
  rw [h.2.2.1 f]
  exact hf
theorem gSx.top {C D : gCT} (h : gSx C D) {lv : gLv} (hT : gTop lv C) : gTop lv D := ⟨hT.1, hT.2.1, hT.2.2.1, hT.2.2.2.1, hT.2.2.2.2.1, hT.2.2.2.2.2.1, fun f hf => h.form (hT.2.2.2.2.2.2 f hf)⟩
theorem gSx.run {C D : gCT} (h : gSx C D) {lv : gLv} {r cnt cap : Nat} (hR : gRun lv C r cnt cap) : gRun lv D r cnt cap := hR.cong h.1 h.2.1
theorem gSx.ite {C a b : gCT} {c : Prop} [Decidable c] (h1 : gSx C a) (h2 : gSx C b) : gSx C (if c then a else b) := by
  split
  · exact h1
  · exact h2
theorem gSx.kp {C D : gCT} (h : gKeep C D) : gSx C D := ⟨h 2 (by decide) (by decide) (by decide) (by decide), h 3 (by decide) (by decide) (by decide) (by decide), fun f => by rw [h 4 (by decide) (by decide) (by decide) (by decide)], fun r => by rw [h 11 (by decide) (by decide) (by decide) (by decide)]; exact ⟨rfl, rfl⟩, h 14 (by decide) (by decide) (by decide) (by decide)⟩
/-- one number anew, where it doesn't matter -/
def gFree (κ j : Nat) : Bool := κ != 2 && κ != 3 && κ != 14 && (κ != 4 || j != 0) && (κ != 11 || (j != 6 && j != 7))
theorem gSx.cs1 {C D : gCT} (h : gSx C D) {κ n j : Nat} {v : Int32} (hk : gFree κ j = true) : gSx C (cs D κ n j v) := by
  refine h.tr ?_
  simp only [gFree, Bool.and_eq_true, bne_iff_ne, ne_eq, Bool.or_eq_true] at hk
  obtain ⟨⟨⟨⟨h2, h3⟩, h14⟩, h4⟩, h11⟩ := hk
  refine ⟨cs_k _ _ _ _ (Ne.symm h2), cs_k _ _ _ _ (Ne.symm h3), fun f => ?_, fun r => ?_, cs_k _ _ _ _ (Ne.symm h14)⟩
  · by_cases hc : κ = 4 ∧ n = f
    · obtain ⟨rfl, rfl⟩ := hc
      exact cs_o _ _ _ _ (by omega)
    · exact congrFun (g2_n _ _ (fun e => hc ⟨e.1.symm, e.2.symm⟩)) 0
  · by_cases hc : κ = 11 ∧ n = r
    · obtain ⟨rfl, rfl⟩ := hc
      exact ⟨cs_o _ _ _ _ (by omega), cs_o _ _ _ _ (by omega)⟩
    · exact ⟨congrFun (g2_n _ _ (fun e => hc ⟨e.1.symm, e.2.symm⟩)) 6, congrFun (g2_n _ _ (fun e => hc ⟨e.1.symm, e.2.symm⟩)) 7⟩
theorem gSx.g21 {C D : gCT} (h : gSx C D) {κ n : Nat} {x : Nat → Int32} (h2 : κ ≠ 2) (h3 : κ ≠ 3) (h4 : κ ≠ 4) (h11 : κ ≠ 11) (h14 : κ ≠ 14) : gSx C (g2 D κ n x) :=
  h.tr ⟨g2_k _ _ (Ne.symm h2), g2_k _ _ (Ne.symm h3), fun f => by rw [g2_k _ _ (Ne.symm h4)], fun r => by rw [g2_k _ _ (Ne.symm h11)]; exact ⟨rfl, rfl⟩, g2_k _ _ (Ne.symm h14)⟩
theorem m_addTo_str {C D : gCT} (h : gSx C D) {κ n N : Nat} {i v : Int32} (h2 : κ ≠ 2) (h3 : κ ≠ 3) (h4 : κ ≠ 4) (h11 : κ ≠ 11) (h14 : κ ≠ 14) : gSx C (m_addTo D κ n N i v) := h.g21 h2 h3 h4 h11 h14
theorem m_pay2_str {C D : gCT} (h : gSx C D) (r : Nat) (v : Int32) : gSx C (m_pay2 D r v) := m_addTo_str (h.cs1 rfl) (by decide) (by decide) (by decide) (by decide) (by decide)
theorem m_go_str {C D : gCT} (h : gSx C D) (r : Nat) : gSx C (m_go D r) := by
  unfold m_go
  have hg : ∀ (g : Int32), gSx C (m_goOn D r r g) := fun g => h.tr (gSx.kp (m_goOn_keep _ _ _ _))
  dsimp only
  refine gSx.ite ?_ (gSx.ite ?_ (gSx.ite ?_ ?_))
  · exact m_pay2_str (m_addTo_str ((hg _).cs1 rfl) (by decide) (by decide) (by decide) (by decide) (by decide)) _ _
  · exact ((((hg _).cs1 rfl).cs1 rfl).cs1 rfl)
  · exact ((((hg _).cs1 rfl).cs1 rfl).cs1 rfl)
  · exact (hg _).cs1 rfl
theorem m_doAgain_str {C D : gCT} (h : gSx C D) (r : Nat) : gSx C (m_doAgain D r) := by
  unfold m_doAgain
  exact (h.tr (gSx.kp (m_reset_keep _ _ _))).tr (gSx.kp (m_goOn_keep _ _ _ _))
theorem m_takeAnswer_str {C D : gCT} (h : gSx C D) (k : Nat) (v : Int32) : gSx C (m_takeAnswer D k v) := h.tr (gSx.kp (m_takeAnswer_keep _ _ _))
theorem str3 {C : gCT} {c : Prop} [Decidable c] {a b : Nat × Int32 × gCT} (h1 : gSx C a.2.2) (h2 : gSx C b.2.2) : gSx C (if c then a else b).2.2 := by
  split
  · exact h1
  · exact h2
theorem m_setFuel_str (C : gCT) (n1 n2 : Int32) : gSx C (m_setFuel C n1 n2).2.2 := str3 (str3 gSx.rf (gSx.rf.cs1 rfl)) gSx.rf
theorem m_fund_str (C : gCT) (n1 n2 : Int32) : gSx C (m_fund C n1 n2).2.2 := str3 (str3 gSx.rf (gSx.rf.cs1 rfl)) gSx.rf
theorem m_setQuota_str (C : gCT) (n1 n2 n3 : Int32) : gSx C (m_setQuota C n1 n2 n3).2.2 := str3 (str3 gSx.rf (str3 gSx.rf (gSx.rf.cs1 rfl))) gSx.rf
theorem m_setPrice_str (C : gCT) (n1 n2 : Int32) : gSx C (m_setPrice C n1 n2).2.2 := str3 gSx.rf (str3 gSx.rf (gSx.rf.cs1 rfl))
theorem m_reword_str (C : gCT) (n1 : Int32) : gSx C (m_reword C n1).2.2 := str3 gSx.rf (gSx.rf.cs1 rfl)
theorem m_save_str (C : gCT) (n1 : Int32) : gSx C (m_save C n1).2.2 := str3 (str3 (gSx.rf.cs1 rfl) gSx.rf) gSx.rf
theorem m_leave_str (C : gCT) (n1 : Int32) : gSx C (m_leave C n1).2.2 := str3 (str3 (gSx.rf.cs1 rfl) (str3 (gSx.rf.cs1 rfl) gSx.rf)) gSx.rf
theorem m_fuelAgain_str (C : gCT) (n1 : Int32) : gSx C (m_fuelAgain C n1).2.2 := by
  unfold m_fuelAgain
  refine str3 ?_ gSx.rf
  dsimp only
  exact m_doAgain_str gSx.rf _
theorem m_slotAgain_str (C : gCT) (n1 n2 : Int32) : gSx C (m_slotAgain C n1 n2).2.2 := by
  unfold m_slotAgain
  refine str3 (str3 gSx.rf ?_) gSx.rf
  dsimp only
  exact m_doAgain_str gSx.rf _
theorem str3e {C : gCT} {c : Prop} [Decidable c] {a b : Nat × Int32 × gCT} (h1 : a.2.2 = C) (h2 : b.2.2 = C) : (if c then a else b).2.2 = C := by
  split
  · exact h1
  · exact h2
theorem m_state_str (C : gCT) (n1 : Int32) : (m_state C n1).2.2 = C := by
  unfold m_state
  exact str3e rfl rfl
theorem m_version_str (C : gCT) (n1 : Int32) : (m_version C n1).2.2 = C := by
  unfold m_version
  exact str3e rfl rfl
theorem m_fuel_str (C : gCT) (n1 : Int32) : (m_fuel C n1).2.2 = C := by
  unfold m_fuel
  exact str3e rfl rfl
theorem m_depth_str (C : gCT) (n1 : Int32) : (m_depth C n1).2.2 = C := by
  unfold m_depth
  exact str3e rfl rfl
theorem m_answers_str (C : gCT) (n1 : Int32) : (m_answers C n1).2.2 = C := by
  unfold m_answers
  exact str3e rfl rfl
theorem m_question_str (C : gCT) (n1 : Int32) : (m_question C n1).2.2 = C := by
  unfold m_question
  exact str3e (str3e rfl rfl) rfl
theorem m_slot_str (C : gCT) (n1 n2 : Int32) : (m_slot C n1 n2).2.2 = C := by
  unfold m_slot
  exact str3e (str3e rfl rfl) rfl
theorem m_answerAt_str (C : gCT) (n1 n2 : Int32) : (m_answerAt C n1 n2).2.2 = C := by
  unfold m_answerAt
  exact str3e (str3e rfl rfl) rfl
theorem m_reward_str (C : gCT) (n1 : Int32) : (m_reward C n1).2.2 = C := by
  unfold m_reward
  exact str3e rfl rfl
theorem m_budget_str (C : gCT) (n1 : Int32) : (m_budget C n1).2.2 = C := by
  unfold m_budget
  exact str3e rfl rfl
theorem m_done_str (C : gCT) (n1 n2 : Int32) : (m_done C n1 n2).2.2 = C := by
  unfold m_done
  exact str3e (str3e rfl rfl) rfl
/-! the newest code is taken -/
theorem m_startOver_lv (C : gCT) (r : Nat) : gLvO (m_startOver C r) = gLvO C := gLvO_same (fun n => by rw [m_startOver_k _ _ (by decide) (by decide) (by decide) (by decide) (by decide) (by decide)]; exact ⟨rfl, rfl⟩) (fun f => by rw [m_startOver_k _ _ (by decide) (by decide) (by decide) (by decide) (by decide) (by decide)])
theorem m_startOver_11n (C : gCT) (r : Nat) {k : Nat} (h : k ≠ r) : m_startOver C r 11 k = C 11 k := by
  unfold m_startOver m_takeNewest
  dsimp only
  rw [m_reset_k _ _ _ (by decide) (by decide) (by decide) (by decide), g2_n _ _ (fun e => absurd e.1 (by decide))]
  unfold cs
  rw [g2_n _ _ (fun e => h e.2), g2_n _ _ (fun e => h e.2), g2_n _ _ (fun e => h e.2)]
theorem m_startOver_inv {C : gCT} {r : Nat} (hI : gInv C) (hr : r < gRc C) : gInv (m_startOver C r) := by
  have kk : ∀ {κ : Nat}, κ ≠ 7 → κ ≠ 8 → κ ≠ 9 → κ ≠ 10 → κ ≠ 11 → κ ≠ 12 → m_startOver C r κ = C κ := fun h7 h8 h9 h10 h11 h12 => m_startOver_k C r h7 h8 h9 h10 h11 h12
  have e2 := kk (κ := 2) (by decide) (by decide) (by decide) (by decide) (by decide) (by decide)
  have e3 := kk (κ := 3) (by decide) (by decide) (by decide) (by decide) (by decide) (by decide)
  have e4 := kk (κ := 4) (by decide) (by decide) (by decide) (by decide) (by decide) (by decide)
  have e14 := kk (κ := 14) (by decide) (by decide) (by decide) (by decide) (by decide) (by decide)
  have erc : gRc (m_startOver C r) = gRc C := by unfold gRc; rw [e2]
  have evn : gVn (m_startOver C r) = gVn C := by funext f; unfold gVn; rw [e4]
  refine ⟨by rw [erc]; exact hI.1, ?_, ?_, ?_⟩
  · unfold gList
    rw [erc, e2, e3]
    exact hI.2.1
  · rw [e4, e14]
    exact hI.2.2.1
  · rw [erc, evn]
    intro k hk
    by_cases hkr : k = r
    · subst hkr
      obtain ⟨f, d, h1, h2, -, -, -⟩ := hI.2.2.2 k hk
      have hv := hI.vn h1
      have ef : (C 11 k 6).toNatClampNeg = f := by rw [h2, nI_clamp (by omega)]
      refine ⟨f, 8 * f + gVn C f, h1, by rw [(m_startOver_11 C k).1]; exact h2, by omega, ?_, ?_⟩
      · rw [show (8 * f + gVn C f) / 8 = f by omega]
        omega
      · rw [(m_startOver_11 C k).2, ef]
        rfl
    · rw [m_startOver_11n C r hkr]
      exact hI.2.2.2 k hk
theorem m_wake_inv {C : gCT} {n1 : Int32} (hI : gInv C) : gInv (m_wake C n1).2.2 ∧ gLvO (m_wake C n1).2.2 = gLvO C := by
  unfold m_wake
  dsimp only
  by_cases h0 : m_runAt C n1 = 0
  · rw [if_pos h0]
    have hr := m_runAt_lt hI.runs h0
    split
    · split
      · exact ⟨(gSx.rf.cs1 rfl).inv hI, (gSx.rf.cs1 rfl).lv⟩
      · exact ⟨(m_go_str gSx.rf _).inv (m_startOver_inv hI hr), (m_go_str gSx.rf _).lv.trans (m_startOver_lv _ _)⟩
    · exact ⟨hI, rfl⟩
  · rw [if_neg h0]
    exact ⟨hI, rfl⟩
/-! write -/
theorem m_append_14n (C : gCT) (d : Nat) (v w : Int32) {k : Nat} (h : k ≠ d) : m_append C d v w 14 k = C 14 k := by
  unfold m_append
  dsimp only
  rw [m_isFull_C]
  split
  · rw [show ∀ (D : gCT) (x : Int32), cs D 14 d 0 x 14 k = D 14 k from fun D x => by unfold cs; exact g2_n _ _ (fun e => h e.2), cs_k _ _ _ _ (by decide), cs_k _ _ _ _ (by decide)]
  · rfl
theorem m_append_14 (C : gCT) (d : Nat) (v w : Int32) : m_append C d v w 14 d 0 = if (m_isFull C d).1 = 0 then C 14 d 0 + 1 else C 14 d 0 := by
  unfold m_append
  dsimp only
  rw [m_isFull_C]
  split
  · rw [cs_s, cs_k _ _ _ _ (by decide), cs_k _ _ _ _ (by decide)]
  · rfl
theorem m_isFull_lt {C : gCT} {d j : Nat} (hj : C 14 d 0 = nI j) (hj2 : j ≤ 24) (h : (m_isFull C d).1 = 0) : j < 24 := by
  have h1 := m_isFull_in hj hj2 h
  rw [hj] at h1
  have := vp_lt h1
  rwa [nI_clamp (by omega)] at this
theorem m_write_inv {C : gCT} {n1 n2 n3 : Int32} (hI : gInv C) : gInv (m_write C n1 n2 n3).2.2 ∧ gLvO (m_write C n1 n2 n3).2.2 = gLvO C := by
  unfold m_write
  dsimp only
  by_cases h0 : m_formAt C n1 = 0
  · rw [if_pos h0]
    have hf := m_formAt_lt C h0
    split
    · exact ⟨hI, rfl⟩
    · split
      · exact ⟨hI, rfl⟩
      · split
        · rename_i hfull
          dsimp only
          have ek : ∀ {κ : Nat}, κ ≠ 14 → κ ≠ 15 → κ ≠ 16 → m_append C (8 * n1.toNatClampNeg + (C 4 n1.toNatClampNeg 0).toNatClampNeg + 1) n2 n3 κ = C κ := fun h1 h2 h3 => m_append_k _ _ _ _ h1 h2 h3
          refine ⟨?_, gLvO_same (fun n => by rw [ek (by decide) (by decide) (by decide)]; exact ⟨rfl, rfl⟩) (fun f => by rw [ek (by decide) (by decide) (by decide)])⟩
          have erc : gRc (m_append C (8 * n1.toNatClampNeg + (C 4 n1.toNatClampNeg 0).toNatClampNeg + 1) n2 n3) = gRc C := by unfold gRc; rw [ek (by decide) (by decide) (by decide)]
          have evn : gVn (m_append C (8 * n1.toNatClampNeg + (C 4 n1.toNatClampNeg 0).toNatClampNeg + 1) n2 n3) = gVn C := by funext f; unfold gVn; rw [ek (by decide) (by decide) (by decide)]
          refine ⟨by rw [erc]; exact hI.1, ?_, ?_, ?_⟩
          · unfold gList
            rw [erc, ek (κ := 2) (by decide) (by decide) (by decide), ek (κ := 3) (by decide) (by decide) (by decide)]
            exact hI.2.1
          · intro f hf4
            rw [ek (κ := 4) (by decide) (by decide) (by decide)]
            obtain ⟨v, z1, z2, j, z3, z4⟩ := hI.2.2.1 f hf4
            refine ⟨v, z1, z2, ?_⟩
            by_cases hff : 8 * f + v + 1 = 8 * n1.toNatClampNeg + (C 4 n1.toNatClampNeg 0).toNatClampNeg + 1
            · rw [hff, m_append_14, if_pos hfull]
              rw [hff] at z4
              have hlt := m_isFull_lt z4 z3 hfull
              exact ⟨j + 1, hlt, by rw [z4, nI_1]⟩
            · rw [m_append_14n _ _ _ _ hff]
              exact ⟨j, z3, z4⟩
          · rw [erc, evn, ek (κ := 11) (by decide) (by decide) (by decide)]
            exact hI.2.2.2
        · exact ⟨hI, rfl⟩
  · rw [if_neg h0]
    exact ⟨hI, rfl⟩

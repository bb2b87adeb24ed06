/-! ===== drafts and versions ===== -/
theorem f_full {C : gCT} {f w : Nat} {a : Int32} (hf : f < 4) (hw : w < 13) (ha : m_isWithin a (m_at gLeast 13 (nI w)) (m_at gMost 13 (nI w)) = 1) (hj : C 14 (8 * f + gVn C f + 1) 0 = nI 24) : m_write C (nI f) (nI w) a = (3, 0, C) := by
  unfold m_write
  dsimp only
  rw [fm_ok C hf, if_pos rfl, show m_isWithin (nI w) 0 12 = 1 from isW_lo (b := 12) (by omega) (by decide), if_neg one_ne, ha, if_neg one_ne, nI_clamp (by omega), show (C 4 f 0).toNatClampNeg = gVn C f from rfl]
  unfold m_isFull
  dsimp only
  rw [hj, if_neg (show ¬ nI 24 < 24 by decide)]
  rfl
def wrD (C : gCT) (d j w : Nat) (a : Int32) : gCT := cs (cs (cs C 15 d j (nI w)) 16 d j a) 14 d 0 (nI (j + 1))
theorem f_write {C : gCT} {f w j : Nat} {a : Int32} (hf : f < 4) (hw : w < 13) (ha : m_isWithin a (m_at gLeast 13 (nI w)) (m_at gMost 13 (nI w)) = 1) (hj : C 14 (8 * f + gVn C f + 1) 0 = nI j) (hj2 : j < 24) : m_write C (nI f) (nI w) a = (0, nI (j + 1), wrD C (8 * f + gVn C f + 1) j w a) := by
  have eD := m_append_at (C := C) (d := 8 * f + gVn C f + 1) hj hj2 (nI w) a
  unfold m_write
  dsimp only
  rw [fm_ok C hf, if_pos rfl, show m_isWithin (nI w) 0 12 = 1 from isW_lo (b := 12) (by omega) (by decide), if_neg one_ne, ha, if_neg one_ne, nI_clamp (by omega), show (C 4 f 0).toNatClampNeg = gVn C f from rfl, eD]
  have e0 : (m_isFull C (8 * f + gVn C f + 1)).1 = 0 := by
    unfold m_isFull
    dsimp only
    rw [hj, if_pos ((nat_lt rfl (show (24 : Int32) = nI 24 from rfl) (by omega) (by decide)).mpr hj2)]
  rw [e0, if_pos rfl]
  have e4 : cs (cs (cs C 15 (8 * f + gVn C f + 1) j (nI w)) 16 (8 * f + gVn C f + 1) j a) 14 (8 * f + gVn C f + 1) 0 (nI (j + 1)) 4 = C 4 := by
    rw [cs_k _ _ _ _ (by decide), cs_k _ _ _ _ (by decide), cs_k _ _ _ _ (by decide)]
  rw [e4, show (C 4 f 0).toNatClampNeg = gVn C f from rfl, cs_s]
  rfl
theorem wrD_k (C : gCT) (d j w : Nat) (a : Int32) {κ : Nat} (h : κ ≠ 14 ∧ κ ≠ 15 ∧ κ ≠ 16) : wrD C d j w a κ = C κ := by
  unfold wrD
  rw [cs_k _ _ _ _ h.1, cs_k _ _ _ _ h.2.2, cs_k _ _ _ _ h.2.1]
theorem wrD_n (C : gCT) (d j w : Nat) (a : Int32) {κ n : Nat} (h : n ≠ d) : wrD C d j w a κ n = C κ n := by
  unfold wrD
  funext i
  rw [cs_rd, if_neg (by omega), cs_rd, if_neg (by omega), cs_rd, if_neg (by omega)]
theorem wrD_d (C : gCT) (d j w : Nat) (a : Int32) : wrD C d j w a 14 d 0 = nI (j + 1) ∧ (∀ i, wrD C d j w a 15 d i = if i = j then nI w else C 15 d i) ∧ ∀ i, wrD C d j w a 16 d i = if i = j then a else C 16 d i := by
  unfold wrD
  refine ⟨cs_s _ _ _ _ _, fun i => ?_, fun i => ?_⟩
  · rw [cs_rd, if_neg (by omega), cs_rd, if_neg (by omega), cs_rd]
    by_cases e : i = j
    · rw [if_pos ⟨rfl, rfl, e⟩, if_pos e]
    · rw [if_neg (fun z => e z.2.2), if_neg e]
  · rw [cs_rd, if_neg (by omega), cs_rd]
    by_cases e : i = j
    · rw [if_pos ⟨rfl, rfl, e⟩, if_pos e]
    · rw [if_neg (fun z => e z.2.2), if_neg e, cs_rd, if_neg (by omega)]
theorem j_write {n : Nat} {fd : Int32} {C : gCT} {f w j : Nat} {a : Int32} (hf : f < 4) (hw : w < 13) (ha : m_isWithin a (m_at gLeast 13 (nI w)) (m_at gMost 13 (nI w)) = 1) (hg : gFit (nI w) a) (hj : C 14 (8 * f + gVn C f + 1) 0 = nI j) (hj2 : j < 24) (h : kJ n fd C) : kJ (n + 1) fd (wrD C (8 * f + gVn C f + 1) j w a) := by
  obtain ⟨h1, h2, h3, h4, h5, h6⟩ := h
  have hI := (m_write_inv (n1 := nI f) (n2 := nI w) (n3 := a) h1).1
  rw [f_write hf hw ha hj hj2] at hI
  have hI : gInv (wrD C (8 * f + gVn C f + 1) j w a) := hI
  have hv6 := fun g hg => (h1.vn (f := g) hg).1
  have e := fun κ => @wrD_k C (8 * f + gVn C f + 1) j w a κ
  have en := fun κ n => @wrD_n C (8 * f + gVn C f + 1) j w a κ n
  obtain ⟨d1, d2, d3⟩ := wrD_d C (8 * f + gVn C f + 1) j w a
  have hvf := hv6 f hf
  generalize hd : 8 * f + gVn C f + 1 = d at *
  generalize wrD C d j w a = D at *
  have eV : gVn D = gVn C := by funext k; unfold gVn; rw [e 4 (by decide)]
  have eR : gRc D = gRc C := by unfold gRc; rw [e 2 (by decide)]
  refine ⟨hI, fun g hg4 => ?_, (kQ_same (e 17 (by decide)) (e 18 (by decide)) h3).up (Nat.le_succ n), fun r hr => ?_, (kM_same (by rw [e 19 (by decide)]) (fun g => by rw [e 4 (by decide)]) (by rw [e 0 (by decide)]) h5).up (Nat.le_succ n), kD_same (by rw [e 2 (by decide)]) (e 6 (by decide)) (fun r _ => by rw [e 11 (by decide)]) h6⟩
  · obtain ⟨a1, a2, a3⟩ := h2 g hg4
    refine ⟨by rw [e 4 (by decide)]; exact a1, by rw [e 5 (by decide)]; exact a2, fun v hv => ?_⟩
    rw [eV] at hv
    have hvg := hv6 g hg4
    obtain ⟨len, b1, b2, b3⟩ := a3 v hv
    by_cases ed : 8 * g + v + 1 = d
    · rw [ed] at b2 b3 ⊢
      have hlen : len = j := (nI_eq (by omega) (by omega)).mp (b2.symm.trans hj)
      subst hlen
      refine ⟨len + 1, by omega, d1, fun i hi => ?_⟩
      rw [d2, d3]
      by_cases ei : i = len
      · rw [if_pos ei, if_pos ei]; exact hg
      · rw [if_neg ei, if_neg ei]; exact b3 i (by omega)
    · refine ⟨len, b1, by rw [en 14 _ ed]; exact b2, fun i hi => by rw [en 15 _ ed, en 16 _ ed]; exact b3 i hi⟩
  · rw [eR] at hr
    refine kU.up (n := n) ?_ (Nat.le_succ n)
    refine kU_gen h1 hr (fun g => by rw [eV]; exact Nat.le_refl _) ?_ (fun g v hg4 hv => ?_) (h4 r hr)
    · unfold cSm cT
      rw [e 11 (by decide), e 12 (by decide), e 2 (by decide), e 13 (by decide), e 7 (by decide), e 8 (by decide), e 9 (by decide), e 10 (by decide)]
      exact ⟨rfl, rfl, rfl, fun _ _ => rfl, rfl, rfl, rfl, rfl⟩
    · have hvg := hv6 g hg4
      have ed : 8 * g + v + 1 ≠ d := fun z => by
        have : g = f := by omega
        subst this
        omega
      rw [en 15 _ ed, en 16 _ ed, en 14 _ ed]
      exact ⟨rfl, rfl, rfl⟩
theorem f_pub0 {C : gCT} (hI : gInv C) {f : Nat} (hf : f < 4) (h : C 14 (8 * f + gVn C f + 1) 0 = 0 ∨ gVn C f = 6) : m_publish C (nI f) = (3, 0, C) := by
  have hvn := hI.vn hf
  unfold m_publish
  dsimp only
  rw [fm_ok C hf, if_pos rfl, nI_clamp (by omega), show (C 4 f 0).toNatClampNeg = gVn C f from rfl]
  by_cases c : C 14 (8 * f + gVn C f + 1) 0 = 0
  · rw [if_pos c]
  · rw [if_neg c, hvn.2.1, h.resolve_left c, if_neg (show ¬ nI 6 < 6 by decide)]
theorem f_pub {C : gCT} (hI : gInv C) {f : Nat} (hf : f < 4) (h : ¬ C 14 (8 * f + gVn C f + 1) 0 = 0) (h6 : gVn C f < 6) : m_publish C (nI f) = (0, nI (gVn C f), m_makeVersion C f) := by
  have hvn := hI.vn hf
  unfold m_publish
  dsimp only
  rw [fm_ok C hf, if_pos rfl, nI_clamp (by omega), show (C 4 f 0).toNatClampNeg = gVn C f from rfl, if_neg h, hvn.2.1, if_pos ((nat_lt rfl (show (6 : Int32) = nI 6 from rfl) (by omega) (by decide)).mpr h6), m_newest_1, m_mv_4, upd_s, hvn.2.1, Int32.add_sub_cancel]
theorem j_pub {n : Nat} {fd : Int32} {C : gCT} {f : Nat} (hf : f < 4) (hv6 : gVn C f < 6) (h : kJ n fd C) : kJ (n + 1) fd (m_makeVersion C f) := by
  obtain ⟨h1, h2, h3, h4, h5, h6⟩ := h
  have hI := m_mv_inv h1 hf hv6
  have hvv := fun g hg => (h1.vn (f := g) hg).1
  have eV := m_mv_vn h1 hf
  have eR := m_mv_rc C f
  have e := fun κ => @m_mv_k C f κ
  have en := fun κ n => @m_mv_n C f κ n
  have e4 := m_mv_4 C f
  have e14 := @m_mv_d C f 14 (by decide)
  generalize m_makeVersion C f = D at *
  have g4 : ∀ g j, j ≠ 0 → D 4 g j = C 4 g j := fun g j hj => by
    by_cases eg : g = f
    · subst eg; rw [e4, upd_o _ _ hj]
    · rw [en 4 g (fun z => eg z.2) (fun z => by omega)]
  refine ⟨hI, fun g hg => ?_, (kQ_same (e 17 (by decide) (by decide) (by decide) (by decide)) (e 18 (by decide) (by decide) (by decide) (by decide)) h3).up (Nat.le_succ n), fun r hr => ?_, (kM_same (by rw [e 19 (by decide) (by decide) (by decide) (by decide)]) (fun g => g4 g 2 (by decide)) (by rw [e 0 (by decide) (by decide) (by decide) (by decide)]) h5).up (Nat.le_succ n), kD_same (by rw [e 2 (by decide) (by decide) (by decide) (by decide)]) (e 6 (by decide) (by decide) (by decide) (by decide)) (fun r _ => by rw [e 11 (by decide) (by decide) (by decide) (by decide)]) h6⟩
  · obtain ⟨a1, a2, a3⟩ := h2 g hg
    have hvg := hvv g hg
    refine ⟨by rw [g4 g 1 (by decide)]; exact a1, by rw [e 5 (by decide) (by decide) (by decide) (by decide)]; exact a2, fun v hv => ?_⟩
    rw [eV] at hv
    by_cases ed : 8 * g + v + 1 = 8 * f + gVn C f + 2
    · rw [ed]
      refine ⟨0, by omega, ?_, fun j hj => absurd hj (Nat.not_lt_zero _)⟩
      rw [e14]; rfl
    · have hv2 : v ≤ gVn C g := by
        by_cases eg : g = f
        · subst eg; rw [if_pos rfl] at hv; omega
        · rw [if_neg eg] at hv; exact hv
      obtain ⟨len, b1, b2, b3⟩ := a3 v hv2
      refine ⟨len, b1, by rw [en 14 _ (fun z => absurd z.1 (by decide)) (fun z => ed z.2)]; exact b2, fun i hi => by rw [en 15 _ (fun z => absurd z.1 (by decide)) (fun z => ed z.2), en 16 _ (fun z => absurd z.1 (by decide)) (fun z => ed z.2)]; exact b3 i hi⟩
  · rw [eR] at hr
    refine kU.up (n := n) ?_ (Nat.le_succ n)
    have hle : ∀ g, gVn C g ≤ gVn D g := by
      intro g
      rw [eV]
      by_cases eg : g = f
      · rw [if_pos eg, eg]; omega
      · rw [if_neg eg]; exact Nat.le_refl _
    refine kU_gen h1 hr hle ?_ (fun g v hg hv => ?_) (h4 r hr)
    · unfold cSm cT
      rw [e 11 (by decide) (by decide) (by decide) (by decide), e 12 (by decide) (by decide) (by decide) (by decide), e 2 (by decide) (by decide) (by decide) (by decide), e 13 (by decide) (by decide) (by decide) (by decide), e 7 (by decide) (by decide) (by decide) (by decide), e 8 (by decide) (by decide) (by decide) (by decide), e 9 (by decide) (by decide) (by decide) (by decide), e 10 (by decide) (by decide) (by decide) (by decide)]
      exact ⟨rfl, rfl, rfl, fun _ _ => rfl, rfl, rfl, rfl, rfl⟩
    · have hvg := hvv g hg
      have ed : 8 * g + v + 1 ≠ 8 * f + gVn C f + 2 := fun z => by
        have : g = f := by omega
        subst this
        omega
      rw [en 15 _ (fun z => absurd z.1 (by decide)) (fun z => ed z.2), en 16 _ (fun z => absurd z.1 (by decide)) (fun z => ed z.2), en 14 _ (fun z => absurd z.1 (by decide)) (fun z => ed z.2)]
      exact ⟨rfl, rfl, rfl⟩
/-! ===== save, leave, and a run that is left as it is ===== -/
theorem f_save0 {C : gCT} (hI : gInv C) {r : Nat} (hr : r < gRc C) (h : C 11 r 4 = 0) : m_save C (nI r) = (0, 0, cs C 11 r 4 1) := by
  have h24 := hI.1
  unfold m_save
  dsimp only
  rw [ru_ok hI hr, if_pos rfl, nI_clamp (by omega), if_pos h]
theorem f_save1 {C : gCT} (hI : gInv C) {r : Nat} (hr : r < gRc C) (h : ¬ C 11 r 4 = 0) : m_save C (nI r) = (3, 0, C) := by
  have h24 := hI.1
  unfold m_save
  dsimp only
  rw [ru_ok hI hr, if_pos rfl, nI_clamp (by omega), if_neg h]
theorem f_leave0 {C : gCT} (hI : gInv C) {r : Nat} (hr : r < gRc C) (h : C 11 r 4 = 0 ∨ C 11 r 4 = 1) : m_leave C (nI r) = (0, C 11 r 5, cs C 11 r 4 6) := by
  have h24 := hI.1
  have e5 : cs C 11 r 4 6 11 r 5 = C 11 r 5 := cs_o _ _ _ _ (by decide)
  unfold m_leave
  dsimp only
  rw [ru_ok hI hr, if_pos rfl, nI_clamp (by omega), e5]
  by_cases c : C 11 r 4 = 0
  · rw [if_pos c]
  · rw [if_neg c, if_pos (h.resolve_left c)]
theorem f_leave1 {C : gCT} (hI : gInv C) {r : Nat} (hr : r < gRc C) (h0 : ¬ C 11 r 4 = 0) (h1 : ¬ C 11 r 4 = 1) : m_leave C (nI r) = (3, 0, C) := by
  have h24 := hI.1
  unfold m_leave
  dsimp only
  rw [ru_ok hI hr, if_pos rfl, nI_clamp (by omega), if_neg h0, if_neg h1]
theorem j_state {n : Nat} {fd : Int32} {C : gCT} {r : Nat} {w : Int32} (hr : r < gRc C) (h01 : C 11 r 4 = 0 ∨ C 11 r 4 = 1) (hw : w = 0 ∨ w = 1 ∨ w = 6) (h : kJ n fd C) : kJ (n + 1) fd (cs C 11 r 4 w) ∧ kX C (cs C 11 r 4 w) := by
  obtain ⟨h1, h2, h3, h4, h5, h6⟩ := h
  have hx : gSx C (cs C 11 r 4 w) := gSx.rf.cs1 rfl
  have e : ∀ {κ : Nat}, κ ≠ 11 → cs C 11 r 4 w κ = C κ := fun hk => cs_k _ _ _ _ hk
  have en : ∀ {s : Nat}, s ≠ r → cs C 11 r 4 w 11 s = C 11 s := fun hs => cs_n _ _ _ _ hs
  have eo : ∀ j, j ≠ 4 → cs C 11 r 4 w 11 r j = C 11 r j := fun j hj => cs_o _ _ _ _ hj
  have es : cs C 11 r 4 w 11 r 4 = w := cs_s _ _ _ _ _
  generalize cs C 11 r 4 w = D at *
  have eR := hx.rc
  have eV := hx.vn
  refine ⟨⟨hx.inv h1, kF_same (fun f => by rw [e (by decide)]; exact ⟨rfl, rfl⟩) (e (by decide)) (e (by decide)) (e (by decide)) (e (by decide)) h2, (kQ_same (e (by decide)) (e (by decide)) h3).up (Nat.le_succ n), fun s hs => ?_, (kM_same (by rw [e (by decide)]) (fun g => by rw [e (by decide)]) (by rw [e (by decide)]) h5).up (Nat.le_succ n), ?_⟩, e (by decide), e (by decide), fun f => by rw [e (by decide)], by rw [eR]; exact Nat.le_refl _, fun s hs h1 => ?_⟩
  · rw [eR] at hs
    refine kU.up (n := n) ?_ (Nat.le_succ n)
    by_cases es2 : s = r
    · subst es2
      obtain ⟨u1, u2, u3, F, u4, u5, u6⟩ := h4 s hs
      have h7 : C 7 s 4 = 0 := by
        rcases u2 with ⟨-, q⟩ | ⟨q1, q2⟩
        · exact q
        · rw [← q1] at q2
          rcases h01 with q | q <;> rw [q] at q2 <;> exact absurd q2 (by decide)
      have eE : envC D s = envC C s := envC_cong (by rw [e (by decide)]) (by rw [e (by decide)]) (e (by decide)) (eo 7 (by decide)) (e (by decide)) (e (by decide)) (e (by decide))
      have eL : ∀ m, cLf D s 0 m = cLf C s 0 m := fun m => cLf_cong m 0 (fun j _ => by unfold cT; rw [e (by decide)])
      have eG : gCnt D s = gCnt C s := by unfold gCnt; rw [e (by decide)]
      have eS : sCt D s = sCt C s := by unfold sCt; rw [eG, eL, e (by decide)]
      have eA : aGet D s = aGet C s := by unfold aGet; rw [e (by decide), e (by decide), e (by decide), e (by decide)]
      refine ⟨kR_gen (fun f => by rw [eV]; exact Nat.le_refl _) (fun j hj => eo j hj) (fun q _ => by rw [e (by decide)]) (by rw [e (by decide)]) (fun j _ => by unfold cT; rw [e (by decide)]) u1, ?_, ?_⟩
      · unfold kS
        rw [es, e (by decide)]
        exact Or.inl ⟨hw, h7⟩
      · unfold kN
        rw [eE, eS, eA, eo 3 (by decide)]
        exact ⟨u3, F, u4, u5, u6⟩
    · refine kU_gen h1 hs (fun f => by rw [eV]; exact Nat.le_refl _) ?_ (fun f v _ _ => by rw [e (by decide), e (by decide), e (by decide)]; exact ⟨rfl, rfl, rfl⟩) (h4 s hs)
      unfold cSm cT
      rw [en es2, e (show (12 : Nat) ≠ 11 by decide), e (show (2 : Nat) ≠ 11 by decide), e (show (13 : Nat) ≠ 11 by decide), e (show (7 : Nat) ≠ 11 by decide), e (show (8 : Nat) ≠ 11 by decide), e (show (9 : Nat) ≠ 11 by decide), e (show (10 : Nat) ≠ 11 by decide)]
      exact ⟨rfl, rfl, rfl, fun _ _ => rfl, rfl, rfl, rfl, rfl⟩
  · unfold kD at h6 ⊢
    rw [e (by decide), eR, h6]
    refine sm_cong (fun s _ => ?_)
    unfold kE
    by_cases es2 : s = r
    · subst es2
      rw [es]
      rw [if_neg (by rcases h01 with q | q <;> rw [q] <;> decide), if_neg (by rcases hw with q | q | q <;> rw [q] <;> decide)]
    · rw [en es2]
  · by_cases es2 : s = r
    · subst es2
      rcases h01 with q | q <;> rw [q] at h1 <;> exact absurd h1 (by decide)
    · rw [en es2]

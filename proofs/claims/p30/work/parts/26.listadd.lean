/-! ===== ArrayList.add ===== -/
def lCap (cap c : Nat) : Nat := if c < cap then cap else lNxt cap
def lRow (cap c : Nat) : Nat → Int32 := fun j => if j = 0 then nI cap else nI c
def lAdd (C : gCT) (n cap c : Nat) : gCT := cs (g2 (cs C 2 n 2 (nI cap)) 3 n (lRow cap (c + 1))) 2 n 1 (nI (c + 1))
theorem cs_id (C : gCT) (κ n j : Nat) {v : Int32} (h : C κ n j = v) : cs C κ n j v = C := by
  subst h
  funext a b i
  unfold cs
  by_cases hc : a = κ ∧ b = n
  · obtain ⟨rfl, rfl⟩ := hc
    rw [g2_s]
    by_cases hi : i = j
    · subst hi; simp [upd]
    · simp [upd, hi]
  · rw [g2_n _ _ hc]
section GAD
variable {p : Program} {l : Launch} {e : Env} {R : Room} {s : State} {m : MethodId} {args : Array Value} {below : List Frame} {meth : Method} {c : Code} {H : Heap} {locs : List Loc} {cells slots : Nat} {Q : State → Prop}
variable {ls : Array Slot} {G : gG} {A : Nat → Prop} {lv : gLv} {ad : gAd}
theorem add_tail {D E0 : gCT} {n k cap : Nat} {post : gSt → Prop} (X : gX p s m args c cJx4a65c_add_72be8 RJx4a65c 4 G A) (hw : gW G A s.heap H locs lv ad (gF G D ad)) (hr : meth.sig.returnType = none) (hlk : meth.locks = false)
    (hcap : k < cap) (hcap2 : cap ≤ 2100) (l2 : lv 2 n) (l3 : lv 3 n) (d0 : D 3 n 0 = nI cap) (d1 : D 3 n 1 = nI k) (hE : lv (gElK n k).1 (gElK n k).2) (hl : lv_has ls 4 [(2, .ref (ad 3 n)), (0, .ref (ad 2 n)), (1, .ref (gElem ad n k)), (3, .int (nI k))])
    (hE0 : cs (g2 D 3 n (lRow cap (k + 1))) 2 n 1 (nI (k + 1)) = E0) (hp : post (lv, ad, gF G E0 ad)) (hc : cells ≤ 1) (hs : slots ≤ 2100) :
    W p l e R s m args below meth c H locs cells slots (MQ below (gQv G A post) args s 1 2100 A) (F0 m 11 ls []) := by
  subst hE0
  have hx := X.1.1; have hb := X.1.2.1
  have hk31 : k < 2 ^ 31 := by omega
  have hcap31 : cap < 2 ^ 31 := by omega
  have e3 : gF G D ad 3 n = .inl (G.2.2.2.2.1, cap, .inr (.inr (.inr (.inr (fun j => if j < k then some (gElem ad n j) else none))))) := by
    show gB G 3 n _ _ = _
    unfold gB
    simp only [d0, d1, nI_clamp hk31, nI_clamp hcap31]
  obtain ⟨ci, fs, r, z1, z2, z3⟩ := gElK_heir G D ad n k
  refine lv_aload_n hx hb dJx4a65c_add_72be8_11 rfl (lv_at hl 0 rfl) ?_
  refine lv_iload_n hx hb dJx4a65c_add_72be8_12 rfl (lv_at hl 3 rfl) ?_
  refine lv_aload_n hx hb dJx4a65c_add_72be8_13 rfl (lv_at hl 2 rfl) ?_
  rw [gElem_K]
  refine r_astq X hw 3 n l3 3 rfl e3 _ _ hE z1 z2 (fun comp c0 f1 f2 => by
      obtain ⟨c1, t1, g1, g2, g3⟩ := Cond.castable_spec (va_Nw.use (A := args) rfl (X.2.2.1.2.1 _ z3))
      cases f2.symm.trans g1
      cases f1.symm.trans g2
      exact g3) (vp_in_nI hcap hcap31) dJx4a65c_add_72be8_14 (fun H locs hw => ?_)
  rw [gF_set (x := lRow cap (k + 1)) (by
      show gB G 3 n _ _ = _
      unfold gB
      have q0 : (lRow cap (k + 1) 0).toNatClampNeg = cap := nI_clamp hcap31
      have q1 : (lRow cap (k + 1) 1).toNatClampNeg = k + 1 := nI_clamp (by omega)
      simp only [q0, q1]
      refine congrArg (fun f : Nat → Option Nat => (.inl (G.2.2.2.2.1, cap, .inr (.inr (.inr (.inr f)))) : va_E)) (funext fun j => ?_)
      rw [nI_clamp hk31, ← gElem_K ad n k]
      unfold va_up
      by_cases hj : j = k
      · subst hj
        simp
      · simp only [if_neg hj]
        by_cases hj2 : j < k
        · rw [if_pos hj2, if_pos (by omega)]
        · rw [if_neg hj2, if_neg (by omega)])] at hw
  refine lv_aload_n hx hb dJx4a65c_add_72be8_15 rfl (lv_at hl 1 rfl) ?_
  refine lv_iload_n hx hb dJx4a65c_add_72be8_16 rfl (lv_at hl 3 rfl) ?_
  refine lv_iconst (v := 1) hx hb dJx4a65c_add_72be8_17 (by decide) ?_
  refine lv_iadd hx hb dJx4a65c_add_72be8_18 ?_
  rw [nI_1]
  refine s_put X hw 2 n 2 1 l2 rfl rfl k_J (by decide) (Nat.le_of_ble_eq_true rfl) fl_J_48 rfl rfl dJx4a65c_add_72be8_19 (fun H locs hw => ?_)
  exact r_vret X hw hr hlk hc hs hp dJx4a65c_add_72be8_22
end GAD
def gLad (lv : gLv) (ad : gAd) (G : gG) (E : gCT) (n : Nat) (u : gSt) : Prop := ∃ q, u = (g2 lv 3 n True, g2 ad 3 n q, gF G E (g2 ad 3 n q))
set_option maxHeartbeats 8000000 in
theorem c_addE (l : Launch) (G : gG) (lv : gLv) (ad : gAd) (C : gCT) (n c cap a : Nat) (hL : gL lv C n c cap) (hc : c < 1400) (h23 : ¬ lv 23 0) (hE : ∀ j, j < c + 1 → lv (gElK n j).1 (gElK n j).2) (ha : (if C 2 n 2 = 0 then G.2.2.2.2.2 2 else ad 3 n) = a) :
    gMv l yJx4a65c_add_72be8 cJx4a65c_add_72be8 4 (gRm 5 105 1 2100) G [.ref (ad 2 n), .ref (gElem ad n c), .ref a, .int (nI c)] lv ad (gF G C ad) (gLad lv ad G (lAdd C n (lCap cap c) c) n) := by
  refine r_met (own := RJx4a65c) (by decide) rfl (Nat.le_of_ble_eq_true rfl) ?_
  intro p e s m below meth c' ls X hw hr hlk _ hl
  have hx := X.1.1; have hb := X.1.2.1; have hml := X.1.2.2.1; have hown := X.1.2.2.2.1; have hts := X.1.2.2.2.2
  have hl : lv_has ls 4 [(0, .ref (ad 2 n)), (1, .ref (gElem ad n c)), (2, .ref a), (3, .int (nI c))] := hl
  obtain ⟨hL2, hL3, hL4, hL5, hL7, hL6⟩ := id hL
  have hc31 : c < 2 ^ 31 := by omega
  by_cases hlt : c < cap
  · obtain ⟨l3, hc3, hn3⟩ := hL6 (by omega)
    have ha' : a = ad 3 n := ha.symm.trans (if_neg (by rw [hL4]; exact nI_ne0 (by omega) (by omega)))
    subst ha'
    have e3 : gF G C ad 3 n = .inl (G.2.2.2.2.1, cap, .inr (.inr (.inr (.inr (fun j => if j < c then some (gElem ad n j) else none))))) := by
      show gB G 3 n _ _ = _
      unfold gB
      simp only [hc3, hn3, nI_clamp hc31, nI_clamp (show cap < 2 ^ 31 by omega)]
    refine lv_iload_n hx hb dJx4a65c_add_72be8_0 rfl (lv_at hl 3 rfl) ?_
    refine lv_aload_n hx hb dJx4a65c_add_72be8_1 rfl (lv_at hl 2 rfl) ?_
    refine r_qalen X hw 3 n l3 e3 (v := nI cap) rfl dJx4a65c_add_72be8_2 ?_
    refine lv_icmp_ne (tgt := 11) hx hb dJx4a65c_add_72be8_3 (by decide) (fun _ => ?_) (fun q => absurd ((nI_eq hc31 (b := cap) (by omega)).mp q) (by omega))
    have e0 : lCap cap c = cap := if_pos hlt
    refine add_tail (E0 := lAdd C n (lCap cap c) c) X hw hr hlk hlt (by omega) hL2 l3 hc3 hn3 (hE c (by omega)) (lv_sub hl [2, 0, 1, 3] rfl) ?_ ⟨ad 3 n, ?_⟩ (Nat.zero_le _) (Nat.zero_le _)
    · rw [e0]
      unfold lAdd
      rw [cs_id C 2 n 2 hL4]
    · have f1 : g2 ad 3 n (ad 3 n) = ad := g2_id _ _ _
      have f2 : g2 lv 3 n True = lv := by
        have : True = lv 3 n := (eq_true l3).symm
        rw [this]
        exact g2_id _ _ _
      rw [f1, f2]
  · have hcc : c = cap := by omega
    subst hcc
    have e0 : lCap c c = lNxt c := if_neg hlt
    have hn := lNxt_le hc
    have alen : ∀ st, W p l e (gRm 5 105 1 2100) s m #[.ref (ad 2 n), .ref (gElem ad n c), .ref a, .int (nI c)] below meth c' s.heap [] 0 0 st (F0 m 3 ls [.int (nI c), .int (nI c)]) → W p l e (gRm 5 105 1 2100) s m #[.ref (ad 2 n), .ref (gElem ad n c), .ref a, .int (nI c)] below meth c' s.heap [] 0 0 st (F0 m 2 ls [.ref a, .int (nI c)]) := by
      intro st kk
      by_cases hc0 : c = 0
      · have ha' : a = G.2.2.2.2.2 2 := ha.symm.trans (if_pos (by rw [hL4, hc0]; exact nI_0))
        subst ha'
        obtain ⟨cell, b1, b2, b3, b4, b5, -, -⟩ := X.2.2.2.1.2.2.1.1.2.kept hw.2.2.1
        refine W.alen (n := 0) hx hb b1 b2 b5 rfl rfl dJx4a65c_add_72be8_2 ?_
        have e : nI c = 0 := by rw [hc0]; exact nI_0
        rw [e] at kk ⊢
        exact kk
      · obtain ⟨l3, hc3, hn3⟩ := hL6 hc0
        have ha' : a = ad 3 n := ha.symm.trans (if_neg (by rw [hL4]; exact nI_ne0 (by omega) (by omega)))
        subst ha'
        have e3 : gF G C ad 3 n = .inl (G.2.2.2.2.1, c, .inr (.inr (.inr (.inr (fun j => if j < c then some (gElem ad n j) else none))))) := by
          show gB G 3 n _ _ = _
          unfold gB
          simp only [hc3, hn3, nI_clamp hc31]
        exact r_qalen X hw 3 n l3 e3 (v := nI c) rfl dJx4a65c_add_72be8_2 kk
    refine lv_iload_n hx hb dJx4a65c_add_72be8_0 rfl (lv_at hl 3 rfl) ?_
    refine lv_aload_n hx hb dJx4a65c_add_72be8_1 rfl (lv_at hl 2 rfl) ?_
    refine alen _ ?_
    refine lv_icmp_ne (tgt := 11) hx hb dJx4a65c_add_72be8_3 (by decide) (fun q => absurd rfl q) (fun _ => ?_)
    refine lv_aload_n hx hb dJx4a65c_add_72be8_6 rfl (lv_at hl 0 rfl) ?_
    refine r_rr X hw (r_runV X (c_grow0 l G lv ad C n c hL hc h23 (fun j hj => hE j (by omega)) _) cy_Jx4a65c_grow_d5877 ml_J_129 ⟨Nat.le_of_ble_eq_true rfl, Nat.le_of_ble_eq_true rfl⟩ gP.blind (g_recv X hw 2 n hL2 rfl rfl) (gP_call X hw _) rfl hl.1 rfl (Nat.le_of_ble_eq_true rfl) dJx4a65c_add_72be8_7 ⟨Nat.le_of_ble_eq_true rfl, Nat.le_of_ble_eq_true rfl⟩) (fun v u H locs hp hw => ?_)
    obtain ⟨q, rfl, rfl⟩ := hp
    have hw : gW G (gA lv ad s.heap.size) s.heap H locs (g2 lv 3 n True) (g2 ad 3 n v) (gF G (lGrow C n (lNxt c) c) (g2 ad 3 n v)) := hw
    refine lv_astore_n (lv' := [(2, .ref v), (0, .ref (ad 2 n)), (1, .ref (gElem ad n c)), (3, .int (nI c))]) hx hb dJx4a65c_add_72be8_10 rfl hl (by decide) rfl (fun ls hl => ?_)
    have hK := gElK_3 n c
    refine add_tail (E0 := lAdd C n (lCap c c) c) (n := n) (k := c) (cap := lNxt c) X hw hr hlk hn.1 hn.2 (by rw [g2_n _ _ (fun q => absurd q.1 (by decide))]; exact hL2) (by rw [g2_s]; trivial) (by unfold lGrow; rw [g2_s]; rfl) (by unfold lGrow; rw [g2_s]; rfl) (by rw [g2_n _ _ (fun q => hK q.1)]; exact hE c (by omega)) ?_ ?_ ⟨v, rfl⟩ (Nat.le_of_ble_eq_true rfl) (Nat.le_of_ble_eq_true rfl)
    · rw [g2_s, g2_n _ _ (fun q => absurd q.1 (by decide)), gElem_3]
      exact hl
    · rw [e0]
      unfold lGrow lAdd
      rw [g2_g2]
set_option maxHeartbeats 8000000 in
theorem c_lAdd (l : Launch) (G : gG) (lv : gLv) (ad : gAd) (C : gCT) (n c cap : Nat) (hL : gL lv C n c cap) (hc : c < 1400) (h23 : ¬ lv 23 0) (hE : ∀ j, j < c + 1 → lv (gElK n j).1 (gElK n j).2) :
    gMi l yJx4a65c_add_9ea2d cJx4a65c_add_9ea2d 2 (some .boolean) (gRm 6 128 1 2100) G [.ref (ad 2 n), .ref (gElem ad n c)] lv ad (gF G C ad) (fun r u => r = 1 ∧ gLad lv ad G (lAdd (cs C 2 n 0 (C 2 n 0 + 1)) n (lCap cap c) c) n u) := by
  refine r_met (own := RJx4a65c) (by decide) rfl (Nat.le_of_ble_eq_true rfl) ?_
  intro p e s m below meth c' ls X hw hr hlk _ hl
  have hx := X.1.1; have hb := X.1.2.1; have hml := X.1.2.2.1; have hown := X.1.2.2.2.1; have hts := X.1.2.2.2.2
  have hl : lv_has ls 2 [(0, .ref (ad 2 n)), (1, .ref (gElem ad n c))] := hl
  obtain ⟨hL2, hL3, hL4, hL5, hL7, hL6⟩ := id hL
  refine lv_aload_n hx hb dJx4a65c_add_9ea2d_0 rfl (lv_at hl 0 rfl) ?_
  refine lv_dup hx hb dJx4a65c_add_9ea2d_1 rfl ?_
  refine r_get2 X hw 2 n 0 hL2 rfl (v := .int (C 2 n 0)) rfl k_J (by decide) fl_J_63 sf_J dJx4a65c_add_9ea2d_2 ?_
  refine lv_iconst (v := 1) hx hb dJx4a65c_add_9ea2d_5 (by decide) ?_
  refine lv_iadd hx hb dJx4a65c_add_9ea2d_6 ?_
  refine r_put2 X hw 2 n 0 hL2 rfl rfl k_J (by decide) (Nat.le_of_ble_eq_true rfl) fl_J_63 sf_J rfl rfl rfl dJx4a65c_add_9ea2d_7 (fun H locs hw => ?_)
  rw [gF_set (x := upd (C 2 n) 0 (C 2 n 0 + 1)) (by show gB G 2 n _ _ = _; unfold gB; simp [upd])] at hw
  have f1 : cs C 2 n 0 (C 2 n 0 + 1) 2 n 1 = C 2 n 1 := cs_o _ _ _ _ (by decide)
  have f2 : cs C 2 n 0 (C 2 n 0 + 1) 2 n 2 = C 2 n 2 := cs_o _ _ _ _ (by decide)
  have f3 : cs C 2 n 0 (C 2 n 0 + 1) 3 = C 3 := cs_k _ _ _ _ (by decide)
  have hL' : gL lv (cs C 2 n 0 (C 2 n 0 + 1)) n c cap := by
    unfold gL
    rw [f1, f2, f3]
    exact hL
  have hw : gW G (gA lv ad s.heap.size) s.heap H locs lv ad (gF G (cs C 2 n 0 (C 2 n 0 + 1)) ad) := hw
  refine lv_aload_n hx hb dJx4a65c_add_9ea2d_10 rfl (lv_at hl 0 rfl) ?_
  refine lv_aload_n hx hb dJx4a65c_add_9ea2d_11 rfl (lv_at hl 1 rfl) ?_
  refine lv_aload_n hx hb dJx4a65c_add_9ea2d_12 rfl (lv_at hl 0 rfl) ?_
  refine r_get X hw 2 n 1 hL2 rfl rfl k_J (by decide) fl_J_9 dJx4a65c_add_9ea2d_13 ?_
  refine lv_aload_n hx hb dJx4a65c_add_9ea2d_16 rfl (lv_at hl 0 rfl) ?_
  refine r_get X hw 2 n 2 hL2 rfl (v := .int (nI c)) (by show some (Value.int (cs C 2 n 0 (C 2 n 0 + 1) 2 n 1)) = _; rw [hL'.2.1]) k_J (by decide) fl_J_48 dJx4a65c_add_9ea2d_17 ?_
  refine r_rv X hw (r_runV X (c_addE l G lv ad _ n c cap _ hL' hc h23 hE rfl _) cy_Jx4a65c_add_72be8 ml_J_131 ⟨Nat.le_of_ble_eq_true rfl, Nat.le_of_ble_eq_true rfl⟩ gP.blind (g_recv X hw 2 n hL2 rfl rfl) (gP_call X hw _) rfl hl.1 rfl (Nat.le_of_ble_eq_true rfl) dJx4a65c_add_9ea2d_20 ⟨Nat.le_of_ble_eq_true rfl, Nat.le_of_ble_eq_true rfl⟩) (fun u H locs hp hw => ?_)
  refine lv_iconst (v := 1) hx hb dJx4a65c_add_9ea2d_23 (by decide) ?_
  exact r_iret X hw hr nar_b1 hlk (Nat.le_of_ble_eq_true rfl) (Nat.le_of_ble_eq_true rfl) ⟨rfl, hp⟩ dJx4a65c_add_9ea2d_24

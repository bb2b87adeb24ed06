/-! ===== grow, add ===== -/
def gElK (n j : Nat) : Nat × Nat := if n = 24 then (11, j) else (13, 1024 * n + j)
theorem gElem_K (ad : gAd) (n j : Nat) : gElem ad n j = ad (gElK n j).1 (gElK n j).2 := by
  unfold gElem gElK
  split <;> rfl
theorem gElK_3 (n j : Nat) : (gElK n j).1 ≠ 3 := by
  unfold gElK
  split <;> simp
theorem gElem_3 (ad : gAd) (n j k q : Nat) : gElem (g2 ad 3 k q) n j = gElem ad n j := by
  unfold gElem
  split <;> simp [g2]
theorem gElK_heir (G : gG) (C : gCT) (ad : gAd) (n j : Nat) : ∃ (ci : Nat) (fs : List Value) (r : vw_C), gF G C ad (gElK n j).1 (gElK n j).2 = .inr (ci, fs) ∧ vwCl[ci]? = some r ∧ (r.1, "java/lang/Object") ∈ gCast := by
  unfold gElK
  split
  · exact ⟨5, _, _, rfl, rfl, by decide⟩
  · exact ⟨1, _, _, rfl, rfl, by decide⟩
/-- only the list itself says where its row lies -/
theorem gB_ad3 (G : gG) (κ m : Nat) (x : Nat → Int32) (ad : gAd) (n q : Nat) (h : ¬ (κ = 2 ∧ m = n)) : gB G κ m x (g2 ad 3 n q) = gB G κ m x ad := by
  unfold gB
  split <;> first | rfl | (simp only [gElem_3]; done) | (have hm : ¬ m = n := fun e => h ⟨rfl, e⟩; simp [g2, hm]; done) | (simp [g2]; done)
/-- the row that was made takes its place -/
theorem gV.reidx {G : gG} {A : Nat → Prop} {lv : gLv} {ad : gAd} {con con' : gCn} {H : Heap} {n q : Nat} (h : gV G A (g2 lv 23 0 True) (g2 ad 23 0 q) con H) (h23 : ¬ lv 23 0) (h3 : con' 3 n = con 23 0) (ho : ∀ κ m, lv κ m → ¬ (κ = 3 ∧ m = n) → con' κ m = con κ m) : gV G A (g2 lv 3 n True) (g2 ad 3 n q) con' H := by
  have key : ∀ a b, g2 lv 3 n True a b → ∃ a' b', g2 lv 23 0 True a' b' ∧ g2 ad 3 n q a b = g2 ad 23 0 q a' b' ∧ con' a b = con a' b' ∧ ((a = 3 ∧ b = n) ∧ a' = 23 ∧ b' = 0 ∨ a' = a ∧ b' = b ∧ ¬ (a = 23 ∧ b = 0)) := by
    intro a b hab
    by_cases hc : a = 3 ∧ b = n
    · exact ⟨23, 0, by rw [g2_s]; trivial, by rw [hc.1, hc.2, g2_s, g2_s], by rw [hc.1, hc.2]; exact h3, Or.inl ⟨hc, rfl, rfl⟩⟩
    · rw [g2_n _ _ hc] at hab
      have hc' : ¬ (a = 23 ∧ b = 0) := fun e => h23 (by rw [← e.1, ← e.2]; exact hab)
      exact ⟨a, b, by rw [g2_n _ _ hc']; exact hab, by rw [g2_n _ _ hc, g2_n _ _ hc'], ho a b hab hc, Or.inr ⟨rfl, rfl, hc'⟩⟩
  refine ⟨fun a b hab => ?_, fun a b a2 b2 hab hab2 hz => ?_, fun a b hab => ?_⟩
  · obtain ⟨a', b', z1, z2, z3, -⟩ := key a b hab
    rw [z2, z3]
    exact h.1 a' b' z1
  · obtain ⟨a', b', z1, z2, z3, z4⟩ := key a b hab
    obtain ⟨c', d', y1, y2, y3, y4⟩ := key a2 b2 hab2
    rw [z2, y2] at hz
    obtain ⟨w1, w2⟩ := h.2.1 a' b' c' d' z1 y1 hz
    rcases z4 with ⟨⟨e1, e2⟩, e3, e4⟩ | ⟨e1, e2, e3⟩ <;> rcases y4 with ⟨⟨f1, f2⟩, f3, f4⟩ | ⟨f1, f2, f3⟩
    · exact ⟨e1.trans f1.symm, e2.trans f2.symm⟩
    · exact absurd ⟨f1.symm.trans (w1.symm.trans e3), f2.symm.trans (w2.symm.trans e4)⟩ f3
    · exact absurd ⟨e1.symm.trans (w1.trans f3), e2.symm.trans (w2.trans f4)⟩ e3
    · exact ⟨e1.symm.trans (w1.trans f1), e2.symm.trans (w2.trans f2)⟩
  · obtain ⟨a', b', z1, z2, -, -⟩ := key a b hab
    rw [z2]
    exact h.2.2 a' b' z1
def lGrow (C : gCT) (n cap c : Nat) : gCT := g2 (cs C 2 n 2 (nI cap)) 3 n (fun j => if j = 0 then nI cap else nI c)
theorem lGrow_con (G : gG) (lv : gLv) (ad : gAd) (C : gCT) (n cap c q : Nat) (con : gCn) (h23 : ¬ lv 23 0) (hcap : 0 < cap) (hcap2 : cap < 2 ^ 31) (hc2 : c < 2 ^ 31)
    (h3 : con 23 0 = .inl (G.2.2.2.2.1, cap, .inr (.inr (.inr (.inr (fun j => if j < c then some (gElem ad n j) else none)))))) (h2 : con 2 n = .inr (0, [.int (C 2 n 0), .ref q, .int (C 2 n 1)])) (ho : ∀ κ m, ¬ (κ = 23 ∧ m = 0) → ¬ (κ = 2 ∧ m = n) → con κ m = gF G C ad κ m) :
    gF G (lGrow C n cap c) (g2 ad 3 n q) 3 n = con 23 0 ∧ ∀ κ m, lv κ m → ¬ (κ = 3 ∧ m = n) → gF G (lGrow C n cap c) (g2 ad 3 n q) κ m = con κ m := by
  refine ⟨?_, fun κ m hl hc => ?_⟩
  · rw [h3]
    have e0 : ((lGrow C n cap c) 3 n 0).toNatClampNeg = cap := by
      show (g2 (cs C 2 n 2 (nI cap)) 3 n (fun j => if j = 0 then nI cap else nI c) 3 n 0).toNatClampNeg = cap
      rw [g2_s]; exact nI_clamp hcap2
    have e1 : ((lGrow C n cap c) 3 n 1).toNatClampNeg = c := by
      show (g2 (cs C 2 n 2 (nI cap)) 3 n (fun j => if j = 0 then nI cap else nI c) 3 n 1).toNatClampNeg = c
      rw [g2_s]; exact nI_clamp hc2
    show gB G 3 n _ _ = _
    unfold gB
    simp only [e0, e1, gElem_3]
  · by_cases h2' : κ = 2 ∧ m = n
    · obtain ⟨rfl, rfl⟩ := h2'
      rw [h2]
      show gB G 2 m _ _ = _
      have f0 : lGrow C m cap c 2 m 0 = C 2 m 0 := by simp [lGrow, g2, cs, upd]
      have f1 : lGrow C m cap c 2 m 1 = C 2 m 1 := by simp [lGrow, g2, cs, upd]
      have f2 : lGrow C m cap c 2 m 2 = nI cap := by simp [lGrow, g2, cs, upd]
      unfold gB
      simp only [f0, f1, f2, if_neg (nI_ne0 hcap hcap2), g2_s]
    · rw [ho κ m (fun e => h23 (by rw [← e.1, ← e.2]; exact hl)) h2']
      show gB G κ m _ _ = gB G κ m _ _
      rw [gB_ad3 _ _ _ _ _ _ _ h2']
      congr 1
      unfold lGrow cs
      rw [g2_n _ _ hc, g2_n _ _ h2']
set_option maxHeartbeats 8000000 in
theorem c_grow1 (l : Launch) (G : gG) (lv : gLv) (ad : gAd) (C : gCT) (n c : Nat) (hL : gL lv C n c c) (hc : c < 1400) (h23 : ¬ lv 23 0) (hE : ∀ j, j < c → lv (gElK n j).1 (gElK n j).2) :
    gMr l yJx4a65c_grow_92f84 cJx4a65c_grow_92f84 4 (some (.array (.object "java/lang/Object"))) (gRm 3 62 1 2100) G [.ref (ad 2 n), .int (nI (c + 1))] lv ad (gF G C ad) (fun v u => ∃ q, v = q ∧ u = (g2 lv 3 n True, g2 ad 3 n q, gF G (lGrow C n (lNxt c) c) (g2 ad 3 n q))) := by
  refine r_met (own := RJx4a65c) (by decide) rfl (Nat.le_of_ble_eq_true rfl) ?_
  intro p e s m below meth c' ls X hw hr hlk _ hl
  have hx := X.1.1; have hb := X.1.2.1; have hml := X.1.2.2.1; have hown := X.1.2.2.2.1; have hts := X.1.2.2.2.2
  have hl : lv_has ls 4 [(0, .ref (ad 2 n)), (1, .int (nI (c + 1)))] := hl
  obtain ⟨hL2, hL3, hL4, -, -, hL6⟩ := id hL
  have hn := lNxt_le hc
  by_cases hc0 : c = 0
  · subst hc0
    have ha : (if C 2 n 2 = 0 then G.2.2.2.2.2 2 else ad 3 n) = G.2.2.2.2.2 2 := if_pos (by rw [hL4]; exact nI_0)
    refine lv_aload_n hx hb dJx4a65c_grow_92f84_0 rfl (lv_at hl 0 rfl) ?_
    refine r_get X hw 2 n 1 hL2 rfl (v := .ref (G.2.2.2.2.2 2)) (by show some (Value.ref (if C 2 n 2 = 0 then _ else _)) = _; rw [ha]) k_J (by decide) fl_J_9 dJx4a65c_grow_92f84_1 ?_
    obtain ⟨cell, b1, b2, b3, b4, b5, -, -⟩ := X.2.2.2.1.2.2.1.1.2.kept hw.2.2.1
    refine W.alen (n := 0) hx hb b1 b2 b5 rfl rfl dJx4a65c_grow_92f84_4 ?_
    refine W.eq (g2 := F0 m 5 ls [.int 0]) rfl ?_
    refine lv_istore_n (lv' := [(2, .int 0), (0, .ref (ad 2 n)), (1, .int (nI (0 + 1)))]) hx hb dJx4a65c_grow_92f84_5 rfl hl (by decide) rfl (fun ls hl => ?_)
    refine lv_iload_n hx hb dJx4a65c_grow_92f84_6 rfl (lv_at hl 0 rfl) ?_
    refine lv_if_gt (tgt := 20) hx hb dJx4a65c_grow_92f84_7 (by decide) (fun q => absurd q (by decide)) (fun _ => ?_)
    refine lv_aload_n hx hb dJx4a65c_grow_92f84_10 rfl (lv_at hl 1 rfl) ?_
    refine r_get X hw 2 n 1 hL2 rfl (v := .ref (G.2.2.2.2.2 2)) (by show some (Value.ref (if C 2 n 2 = 0 then _ else _)) = _; rw [ha]) k_J (by decide) fl_J_9 dJx4a65c_grow_92f84_11 ?_
    refine va_gets hx hb X.2.2.2.1.2.2.1.1.1 hw.2 hown (hts _ fl_J_39) (fun _ h => h) dJx4a65c_grow_92f84_14 ?_
    refine lv_acmp_eq (rx := some (G.2.2.2.2.2 2)) (ry := some (G.2.2.2.2.2 2)) (tgt := 45) hx hb dJx4a65c_grow_92f84_17 (by decide) (fun _ => ?_) (fun q => absurd rfl q)
    refine lv_aload_n hx hb dJx4a65c_grow_92f84_45 rfl (lv_at hl 1 rfl) ?_
    refine lv_bipush (v := 10) hx hb dJx4a65c_grow_92f84_46 (by decide) ?_
    refine lv_iload_n hx hb dJx4a65c_grow_92f84_48 rfl (lv_at hl 2 rfl) ?_
    refine va_mmax hx hb (hml.trans hl.1.symm) hown (hts _ ml_J_79) (hts _ mm_st_max) (hts _ mm_ini) (hts _ mm_co_max) (Nat.le_of_ble_eq_true rfl) (Nat.le_of_ble_eq_true rfl) (Nat.le_of_ble_eq_true rfl) (Nat.le_of_ble_eq_true rfl) dJx4a65c_grow_92f84_49 ?_
    refine W.eq (g2 := F0 m 52 ls [.int 10, .ref (ad 2 n)]) (by rw [if_neg (show ¬ (10 : Int32) < nI (0 + 1) by decide)]) ?_
    refine r_newq X hw 23 0 h23 3 rfl X.2.2.1.2.2.2.2.2 (N := 10) (by decide) (by decide) (by decide) cl_J_7 (Nat.le_of_ble_eq_true rfl) (Nat.le_of_ble_eq_true rfl) dJx4a65c_grow_92f84_52 (fun q H hq hw => ?_)
    refine lv_dup_x1 hx hb dJx4a65c_grow_92f84_55 rfl rfl ?_
    have e2 : g2 ad 23 0 q 2 n = ad 2 n := g2_23 _ _ (by decide)
    have l2 : g2 lv 23 0 True 2 n := by rw [g2_23 _ _ (by decide)]; exact hL2
    refine W.eq (g2 := F0 m 56 ls [.ref q, .ref (g2 ad 23 0 q 2 n), .ref q]) (by rw [e2]) ?_
    refine r_put X hw 2 n 1 l2 (ci := 0) (fs := [.int (C 2 n 0), .ref (G.2.2.2.2.2 2), .int (C 2 n 1)]) (fs' := [.int (C 2 n 0), .ref q, .int (C 2 n 1)]) (by rw [g2_23 _ _ (by decide)]; show gB G 2 n _ _ = _; unfold gB; simp only [ha]) rfl k_J (by decide) (Nat.le_of_ble_eq_true rfl) fl_J_9 rfl rfl rfl dJx4a65c_grow_92f84_56 (fun H locs hw => ?_)
    obtain ⟨g1, g2'⟩ := lGrow_con G lv ad C n (lNxt 0) 0 q (g2 (g2 (gF G C ad) 23 0 (.inl (G.2.2.2.2.1, 10, .inr (.inr (.inr (.inr (fun _ => none))))))) 2 n (.inr (0, [.int (C 2 n 0), .ref q, .int (C 2 n 1)]))) h23 (by decide) (by decide) (by decide)
      (by rw [g2_n _ _ (fun e => absurd e.1 (by decide)), g2_s]; refine congrArg (fun f : Nat → Option Nat => (.inl (G.2.2.2.2.1, lNxt 0, .inr (.inr (.inr (.inr f)))) : va_E)) (funext fun j => ?_); exact (if_neg (Nat.not_lt_zero j)).symm) (g2_s _ _ _ _) (fun κ mm z1 z2 => by rw [g2_n _ _ z2, g2_n _ _ z1])
    have hw' : gW G (gA lv ad s.heap.size) s.heap H locs (g2 lv 3 n True) (g2 ad 3 n q) (gF G (lGrow C n (lNxt 0) 0) (g2 ad 3 n q)) := ⟨hw.1.reidx h23 g1 g2', hw.2⟩
    exact r_aret X hw' hr (Or.inr ⟨_, rfl⟩) hlk (Nat.le_of_ble_eq_true rfl) (Nat.le_of_ble_eq_true rfl) ⟨q, rfl, rfl⟩ dJx4a65c_grow_92f84_59
  · have hpos : 0 < c := Nat.pos_of_ne_zero hc0
    have hc31 : c < 2 ^ 31 := by omega
    obtain ⟨l3, hc3, hn3⟩ := hL6 hc0
    have ha : (if C 2 n 2 = 0 then G.2.2.2.2.2 2 else ad 3 n) = ad 3 n := if_neg (by rw [hL4]; exact nI_ne0 hpos hc31)
    have e3 : gF G C ad 3 n = .inl (G.2.2.2.2.1, c, .inr (.inr (.inr (.inr (fun j => if j < c then some (gElem ad n j) else none))))) := by
      show gB G 3 n _ _ = _
      unfold gB
      simp only [hc3, hn3, nI_clamp hc31]
    have hHeir : gHeir lv ad (gF G C ad) (fun j => if j < c then some (gElem ad n j) else none) c := by
      intro i hi y hy
      simp only [if_pos hi] at hy
      obtain ⟨ci, fs, r, z1, z2, z3⟩ := gElK_heir G C ad n i
      exact ⟨_, _, ci, fs, r, hE i hi, (Option.some.inj hy).symm.trans (gElem_K _ _ _), z1, z2, z3⟩
    refine lv_aload_n hx hb dJx4a65c_grow_92f84_0 rfl (lv_at hl 0 rfl) ?_
    refine r_get X hw 2 n 1 hL2 rfl (v := .ref (ad 3 n)) (by show some (Value.ref (if C 2 n 2 = 0 then _ else _)) = _; rw [ha]) k_J (by decide) fl_J_9 dJx4a65c_grow_92f84_1 ?_
    refine r_qalen X hw 3 n l3 e3 (v := nI c) rfl dJx4a65c_grow_92f84_4 ?_
    refine lv_istore_n (lv' := [(2, .int (nI c)), (0, .ref (ad 2 n)), (1, .int (nI (c + 1)))]) hx hb dJx4a65c_grow_92f84_5 rfl hl (by decide) rfl (fun ls hl => ?_)
    refine lv_iload_n hx hb dJx4a65c_grow_92f84_6 rfl (lv_at hl 0 rfl) ?_
    refine lv_if_gt (tgt := 20) hx hb dJx4a65c_grow_92f84_7 (by decide) (fun _ => ?_) (fun q => absurd (show (0 : Int32) < nI c from by rw [← nI_0]; exact nI_lt hpos hc31) q)
    refine lv_iload_n hx hb dJx4a65c_grow_92f84_20 rfl (lv_at hl 0 rfl) ?_
    refine lv_iload_n hx hb dJx4a65c_grow_92f84_21 rfl (lv_at hl 2 rfl) ?_
    refine lv_iload_n hx hb dJx4a65c_grow_92f84_22 rfl (lv_at hl 0 rfl) ?_
    refine lv_isub hx hb dJx4a65c_grow_92f84_23 ?_
    refine lv_iload_n hx hb dJx4a65c_grow_92f84_24 rfl (lv_at hl 0 rfl) ?_
    refine lv_iconst (v := 1) hx hb dJx4a65c_grow_92f84_25 (by decide) ?_
    refine lv_ishr hx hb dJx4a65c_grow_92f84_26 ?_
    refine W.eq (g2 := F0 m 27 ls [.int (nI c >>> ((1 : Int32) &&& 31)), .int 1, .int (nI c)]) (by rw [show nI (c + 1) - nI c = 1 from by rw [← nI_1, Int32.add_comm, Int32.add_sub_cancel]]) ?_
    refine r_rp (r_runS X (c_newLength l c hpos hc) cy_J8_newLength_cabcc ml_J_73 ⟨Nat.le_of_ble_eq_true rfl, Nat.le_of_ble_eq_true rfl⟩ gPc_blind (fun _ _ _ => ⟨rfl, trivial⟩) rfl hl.1 rfl (Nat.le_of_ble_eq_true rfl) dJx4a65c_grow_92f84_27 ⟨Nat.le_of_ble_eq_true rfl, Nat.le_of_ble_eq_true rfl⟩) ?_
    refine lv_istore_n (lv' := [(3, .int (nI (lNxt c))), (2, .int (nI c)), (0, .ref (ad 2 n)), (1, .int (nI (c + 1)))]) hx hb dJx4a65c_grow_92f84_30 rfl hl (by decide) rfl (fun ls hl => ?_)
    refine lv_aload_n hx hb dJx4a65c_grow_92f84_31 rfl (lv_at hl 2 rfl) ?_
    refine lv_aload_n hx hb dJx4a65c_grow_92f84_32 rfl (lv_at hl 2 rfl) ?_
    refine r_get X hw 2 n 1 hL2 rfl (v := .ref (ad 3 n)) (by show some (Value.ref (if C 2 n 2 = 0 then _ else _)) = _; rw [ha]) k_J (by decide) fl_J_9 dJx4a65c_grow_92f84_33 ?_
    refine lv_iload_n hx hb dJx4a65c_grow_92f84_36 rfl (lv_at hl 0 rfl) ?_
    refine r_rr X hw (r_runS X (c_copyOf1 l G lv ad (gF G C ad) n c (lNxt c) _ l3 e3 (by omega) hn.2 h23 hHeir _) cy_J7_copyOf_1904c ml_J_66 ⟨Nat.le_of_ble_eq_true rfl, Nat.le_of_ble_eq_true rfl⟩ gP.blind (gP_call X hw _) rfl hl.1 rfl (Nat.le_of_ble_eq_true rfl) dJx4a65c_grow_92f84_37 ⟨Nat.le_of_ble_eq_true rfl, Nat.le_of_ble_eq_true rfl⟩) (fun v u H locs hp hw => ?_)
    obtain ⟨q, rfl, rfl⟩ := hp
    have hw : gW G (gA lv ad s.heap.size) s.heap H locs (g2 lv 23 0 True) (g2 ad 23 0 v) (gCpq G (gF G C ad) (lNxt c) c (fun j => if j < c then some (gElem ad n j) else none)) := hw
    refine lv_dup_x1 hx hb dJx4a65c_grow_92f84_40 rfl rfl ?_
    have e2 : g2 ad 23 0 v 2 n = ad 2 n := g2_23 _ _ (by decide)
    have l2 : g2 lv 23 0 True 2 n := by rw [g2_23 _ _ (by decide)]; exact hL2
    refine W.eq (g2 := F0 m 41 ls [.ref v, .ref (g2 ad 23 0 v 2 n), .ref v]) (by rw [e2]) ?_
    refine r_put X hw 2 n 1 l2 (ci := 0) (fs := [.int (C 2 n 0), .ref (ad 3 n), .int (C 2 n 1)]) (fs' := [.int (C 2 n 0), .ref v, .int (C 2 n 1)]) (by show gCpq G (gF G C ad) (lNxt c) c _ 2 n = _; unfold gCpq; rw [g2_23 _ _ (by decide)]; show gB G 2 n _ _ = _; unfold gB; simp only [ha]) rfl k_J (by decide) (Nat.le_of_ble_eq_true rfl) fl_J_9 rfl rfl rfl dJx4a65c_grow_92f84_41 (fun H locs hw => ?_)
    obtain ⟨g1, g2'⟩ := lGrow_con G lv ad C n (lNxt c) c v (g2 (gCpq G (gF G C ad) (lNxt c) c (fun j => if j < c then some (gElem ad n j) else none)) 2 n (.inr (0, [.int (C 2 n 0), .ref v, .int (C 2 n 1)]))) h23 (by omega) (by omega) hc31
      (by
        rw [g2_n _ _ (fun e => absurd e.1 (by decide))]
        unfold gCpq
        rw [g2_s]
        refine congrArg (fun f : Nat → Option Nat => (.inl (G.2.2.2.2.1, lNxt c, .inr (.inr (.inr (.inr f)))) : va_E)) (funext fun j => ?_)
        unfold va_cpy
        by_cases hj : j < c
        · rw [if_pos ⟨Nat.zero_le _, by omega⟩, if_pos hj, show 0 + (j - 0) = j by omega]; exact if_pos hj
        · rw [if_neg (fun h => hj (by omega)), if_neg hj]) (g2_s _ _ _ _) (fun κ mm z1 z2 => by rw [g2_n _ _ z2]; unfold gCpq; rw [g2_n _ _ z1])
    have hw' : gW G (gA lv ad s.heap.size) s.heap H locs (g2 lv 3 n True) (g2 ad 3 n v) (gF G (lGrow C n (lNxt c) c) (g2 ad 3 n v)) := ⟨hw.1.reidx h23 g1 g2', hw.2⟩
    exact r_aret X hw' hr (Or.inr ⟨_, rfl⟩) hlk (Nat.le_of_ble_eq_true rfl) (Nat.le_of_ble_eq_true rfl) ⟨v, rfl, rfl⟩ dJx4a65c_grow_92f84_44
set_option maxHeartbeats 8000000 in
theorem c_grow0 (l : Launch) (G : gG) (lv : gLv) (ad : gAd) (C : gCT) (n c : Nat) (hL : gL lv C n c c) (hc : c < 1400) (h23 : ¬ lv 23 0) (hE : ∀ j, j < c → lv (gElK n j).1 (gElK n j).2) :
    gMr l yJx4a65c_grow_d5877 cJx4a65c_grow_d5877 1 (some (.array (.object "java/lang/Object"))) (gRm 4 85 1 2100) G [.ref (ad 2 n)] lv ad (gF G C ad) (fun v u => ∃ q, v = q ∧ u = (g2 lv 3 n True, g2 ad 3 n q, gF G (lGrow C n (lNxt c) c) (g2 ad 3 n q))) := by
  refine r_met (own := RJx4a65c) (by decide) rfl (Nat.le_of_ble_eq_true rfl) ?_
  intro p e s m below meth c' ls X hw hr hlk _ hl
  have hx := X.1.1; have hb := X.1.2.1; have hml := X.1.2.2.1; have hown := X.1.2.2.2.1; have hts := X.1.2.2.2.2
  have hl : lv_has ls 1 [(0, .ref (ad 2 n))] := hl
  refine lv_aload_n hx hb dJx4a65c_grow_d5877_0 rfl (lv_at hl 0 rfl) ?_
  refine lv_aload_n hx hb dJx4a65c_grow_d5877_1 rfl (lv_at hl 0 rfl) ?_
  refine r_get X hw 2 n 2 hL.1 rfl (v := .int (nI c)) (by show some (Value.int (C 2 n 1)) = _; rw [hL.2.1]) k_J (by decide) fl_J_48 dJx4a65c_grow_d5877_2 ?_
  refine lv_iconst (v := 1) hx hb dJx4a65c_grow_d5877_5 (by decide) ?_
  refine lv_iadd hx hb dJx4a65c_grow_d5877_6 ?_
  refine W.eq (g2 := F0 m 7 ls [.int (nI (c + 1)), .ref (ad 2 n)]) (by rw [nI_1]) ?_
  refine r_rr X hw (r_runV X (c_grow1 l G lv ad C n c hL hc h23 hE _) cy_Jx4a65c_grow_92f84 ml_J_69 ⟨Nat.le_of_ble_eq_true rfl, Nat.le_of_ble_eq_true rfl⟩ gP.blind (g_recv X hw 2 n hL.1 rfl rfl) (gP_call X hw _) rfl hl.1 rfl (Nat.le_of_ble_eq_true rfl) dJx4a65c_grow_d5877_7 ⟨Nat.le_of_ble_eq_true rfl, Nat.le_of_ble_eq_true rfl⟩) (fun v u H locs hp hw => ?_)
  exact r_aret X hw hr (Or.inr ⟨_, rfl⟩) hlk (Nat.le_of_ble_eq_true rfl) (Nat.le_of_ble_eq_true rfl) hp dJx4a65c_grow_d5877_10

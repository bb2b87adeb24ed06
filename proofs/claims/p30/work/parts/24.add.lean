/-! ===== ArrayList.add ===== -/
set_option maxHeartbeats 4000000 in
theorem c_newLength (l : Launch) (cap : Nat) (h0 : 0 < cap) (h : cap < 1400) : gMp l yJ8_newLength_cabcc cJ8_newLength_cabcc 4 (some .int) (gRm 1 14 0 0) [.int (nI cap), .int 1, .int (nI cap >>> ((1 : Int32) &&& 31))] (fun _ => True) (some (.int (nI (lNxt cap)))) := by
  refine r_metp (own := RJ8) (by decide) rfl (Nat.le_of_ble_eq_true rfl) ?_
  intro p e s m below meth c ls X0 _ hr hlk hl
  obtain ⟨hx, hb, hml, hown, hts⟩ := id X0
  have hl : lv_has ls 4 [(0, .int (nI cap)), (1, .int 1), (2, .int (nI cap >>> ((1 : Int32) &&& 31)))] := hl
  have hn := lNxt_le h
  refine lv_iload_n hx hb dJ8_newLength_cabcc_0 rfl (lv_at hl 0 rfl) ?_
  refine lv_iload_n hx hb dJ8_newLength_cabcc_1 rfl (lv_at hl 1 rfl) ?_
  refine lv_iload_n hx hb dJ8_newLength_cabcc_2 rfl (lv_at hl 2 rfl) ?_
  refine va_mmax hx hb (hml.trans hl.1.symm) hown (hts _ ml_RJ8_194) (hts _ mm_st_max) (hts _ mm_ini) (hts _ mm_co_max) (Nat.le_of_ble_eq_true rfl) (Nat.le_of_ble_eq_true rfl) (Nat.le_of_ble_eq_true rfl) (Nat.le_of_ble_eq_true rfl) dJ8_newLength_cabcc_3 ?_
  refine lv_iadd hx hb dJ8_newLength_cabcc_6 ?_
  refine lv_topi (fun x ex => ?_)
  have ex' : x = nI (lNxt cap) := ex.trans (lNxt_of cap h h0)
  clear ex
  subst ex'
  refine lv_istore_n (lv' := [(3, .int (nI (lNxt cap))), (0, .int (nI cap)), (1, .int 1), (2, .int (nI cap >>> ((1 : Int32) &&& 31)))]) hx hb dJ8_newLength_cabcc_7 rfl hl (by decide) rfl (fun ls hl => ?_)
  refine lv_iconst (v := 0) hx hb dJ8_newLength_cabcc_8 (by decide) ?_
  refine lv_iload_n hx hb dJ8_newLength_cabcc_9 rfl (lv_at hl 0 rfl) ?_
  refine lv_icmp_ge (tgt := 21) hx hb dJ8_newLength_cabcc_10 (by decide) (fun q => absurd q (nI_nle (by omega) (by omega))) (fun _ => ?_)
  refine lv_iload_n hx hb dJ8_newLength_cabcc_13 rfl (lv_at hl 0 rfl) ?_
  refine lv_ldc (v := 2147483639) hx hb hown (hts _ lc_RJ8_200) dJ8_newLength_cabcc_14 ?_
  refine lv_icmp_gt (tgt := 21) hx hb dJ8_newLength_cabcc_16 (by decide) (fun q => absurd (show nI (lNxt cap) ≤ 2147483639 from nI_le (b := 2147483639) (by omega) (by omega)) (Int32.not_le.mpr q)) (fun _ => ?_)
  refine lv_iload_n hx hb dJ8_newLength_cabcc_19 rfl (lv_at hl 0 rfl) ?_
  exact r_piret hx hb hr rfl hlk rfl dJ8_newLength_cabcc_20
def gCpq (G : gG) (con : gCn) (n1 n0 : Nat) (f : Nat → Option Nat) : gCn := g2 con 23 0 (.inl (G.2.2.2.2.1, n1, .inr (.inr (.inr (.inr (va_cpy f (fun _ => none) 0 0 n0))))))
theorem g2_23 {α : Type} (f : Nat → Nat → α) {κ n : Nat} (x : α) (h : κ ≠ 23) : g2 f 23 0 x κ n = f κ n := g2_n _ _ (fun q => h q.1)
theorem gHeir.push {lv : gLv} {ad : gAd} {con : gCn} {f : Nat → Option Nat} {n q : Nat} {x : va_E} (h : gHeir lv ad con f n) (h23 : ¬ lv 23 0) : gHeir (g2 lv 23 0 True) (g2 ad 23 0 q) (g2 con 23 0 x) f n := by
  intro i hi y hy
  obtain ⟨κ, m, ci, fs, r, z1, z2, z3, z4, z5⟩ := h i hi y hy
  have hc : ¬ (κ = 23 ∧ m = 0) := fun e => h23 (by rw [← e.1, ← e.2]; exact z1)
  exact ⟨κ, m, ci, fs, r, by rw [g2_n _ _ hc]; exact z1, by rw [g2_n _ _ hc]; exact z2, by rw [g2_n _ _ hc]; exact z3, z4, z5⟩
set_option maxHeartbeats 4000000 in
theorem c_copyOf2 (l : Launch) (G : gG) (lv : gLv) (ad : gAd) (con : gCn) (k0 n0 n1 : Nat) (f : Nat → Option Nat) (hl0 : lv 3 k0) (he0 : con 3 k0 = .inl (G.2.2.2.2.1, n0, .inr (.inr (.inr (.inr f))))) (h01 : n0 ≤ n1) (h2 : n1 ≤ 2100) (h23 : ¬ lv 23 0) (hel : gHeir lv ad con f n0) :
    gMr l yJ7_copyOf_6403c cJ7_copyOf_6403c 4 (some (.array (.object "java/lang/Object"))) (gRm 1 18 1 2100) G [.ref (ad 3 k0), .int (nI n1), .ref (G.2.2.2.2.2 3)] lv ad con (fun v u => ∃ q, v = q ∧ u = (g2 lv 23 0 True, g2 ad 23 0 q, gCpq G con n1 n0 f)) := by
  refine r_met (own := RJ7) (by decide) rfl (Nat.le_of_ble_eq_true rfl) ?_
  intro p e s m below meth c ls X hw hr hlk _ hl
  have hx := X.1.1; have hb := X.1.2.1; have hml := X.1.2.2.1; have hown := X.1.2.2.2.1; have hts := X.1.2.2.2.2
  have hl : lv_has ls 4 [(0, .ref (ad 3 k0)), (1, .int (nI n1)), (2, .ref (G.2.2.2.2.2 3))] := hl
  have hn1 : n1 < 2 ^ 31 := by omega
  have hn0 : n0 < 2 ^ 31 := by omega
  refine lv_aload_n hx hb dJ7_copyOf_6403c_0 rfl (lv_at hl 2 rfl) ?_
  refine va_ldcM hx hb hown (hts _ cl_RJ7_110) X.2.2.2.1.2.2.1.2 dJ7_copyOf_6403c_1 ?_
  refine lv_acmp_ne (rx := some (G.2.2.2.2.2 3)) (ry := some (G.2.2.2.2.2 3)) (tgt := 13) hx hb dJ7_copyOf_6403c_3 (by decide) (fun q => absurd rfl q) (fun _ => ?_)
  refine lv_iload_n hx hb dJ7_copyOf_6403c_6 rfl (lv_at hl 1 rfl) ?_
  refine r_newq X hw 23 0 h23 3 rfl X.2.2.1.2.2.2.2.2 (N := n1) (nI_pos hn1) (nI_clamp hn1) (by omega) cl_RJ7_2 (Nat.le_of_ble_eq_true rfl) (by show 0 + n1 ≤ 2100; omega) dJ7_copyOf_6403c_7 (fun q H hq hw => ?_)
  refine lv_goto (tgt := 24) hx hb dJ7_copyOf_6403c_10 (by decide) ?_
  refine lv_astore_n (lv' := [(3, .ref q), (0, .ref (ad 3 k0)), (1, .int (nI n1)), (2, .ref (G.2.2.2.2.2 3))]) hx hb dJ7_copyOf_6403c_24 rfl hl (by decide) rfl (fun ls hl => ?_)
  have e3 : g2 ad 23 0 q 3 k0 = ad 3 k0 := g2_23 _ _ (by decide)
  have e23 : g2 ad 23 0 q 23 0 = q := g2_s _ _ _ _
  have l3 : g2 lv 23 0 True 3 k0 := by rw [g2_23 _ _ (by decide)]; exact hl0
  have l23 : g2 lv 23 0 True 23 0 := by rw [g2_s]; trivial
  refine lv_aload_n hx hb dJ7_copyOf_6403c_25 rfl (lv_at hl 1 rfl) ?_
  refine lv_iconst (v := 0) hx hb dJ7_copyOf_6403c_26 (by decide) ?_
  refine lv_aload_n hx hb dJ7_copyOf_6403c_27 rfl (lv_at hl 0 rfl) ?_
  refine lv_iconst (v := 0) hx hb dJ7_copyOf_6403c_28 (by decide) ?_
  refine lv_aload_n hx hb dJ7_copyOf_6403c_29 rfl (lv_at hl 1 rfl) ?_
  refine W.eq (g2 := F0 m 30 ls [.ref (g2 ad 23 0 q 3 k0), .int 0, .ref q, .int 0, .ref (ad 3 k0)]) (by rw [e3]) ?_
  refine r_qalen X hw 3 k0 l3 (by rw [g2_23 _ _ (by decide)]; exact he0) (v := nI n0) rfl dJ7_copyOf_6403c_30 ?_
  refine lv_iload_n hx hb dJ7_copyOf_6403c_31 rfl (lv_at hl 2 rfl) ?_
  refine va_mmin hx hb (hml.trans hl.1.symm) hown (hts _ ml_RJ7_304) (hts _ mm_st_min) (hts _ mm_ini) (hts _ mm_co_min) (Nat.le_of_ble_eq_true rfl) (Nat.le_of_ble_eq_true rfl) (Nat.le_of_ble_eq_true rfl) (by show 0 + n1 ≤ 2100; omega) dJ7_copyOf_6403c_32 ?_
  rw [if_neg (nI_nlt h01 hn1)]
  refine W.eq (g2 := F0 m 35 ls [.int (nI n0), .int 0, .ref (g2 ad 23 0 q 23 0), .int 0, .ref (g2 ad 23 0 q 3 k0)]) (by rw [e3, e23]) ?_
  refine r_copyq X hw 3 k0 23 0 l3 l23 (f := f) (g := fun _ => none) (n0 := n0) (n1 := n1) (by rw [g2_23 _ _ (by decide)]; exact he0) (g2_s _ _ _ _) ml_RJ7_150 hl.1.symm (by decide) (by decide) (nI_pos hn0) (by rw [nI_clamp hn0]; show 0 + n0 ≤ n0; omega) (by rw [nI_clamp hn0]; show 0 + n0 ≤ n1; omega) ?_ (Nat.le_of_ble_eq_true rfl) (Nat.le_of_ble_eq_true rfl) dJ7_copyOf_6403c_35 (fun H locs hw => ?_)
  · rw [nI_clamp hn0]
    have e0 : (fun i => f ((0 : Int32).toNatClampNeg + i)) = f := funext fun i => congrArg f (show 0 + i = i from Nat.zero_add i)
    rw [e0]
    exact hel.push h23
  · refine lv_aload_n hx hb dJ7_copyOf_6403c_38 rfl (lv_at hl 0 rfl) ?_
    refine r_aret X hw hr (Or.inr ⟨_, rfl⟩) hlk (Nat.le_of_ble_eq_true rfl) (by show 0 + n1 ≤ 2100; omega) ⟨q, rfl, ?_⟩ dJ7_copyOf_6403c_39
    rw [g2_g2, nI_clamp hn0]
    rfl
set_option maxHeartbeats 4000000 in
theorem c_copyOf1 (l : Launch) (G : gG) (lv : gLv) (ad : gAd) (con : gCn) (k0 n0 n1 : Nat) (f : Nat → Option Nat) (hl0 : lv 3 k0) (he0 : con 3 k0 = .inl (G.2.2.2.2.1, n0, .inr (.inr (.inr (.inr f))))) (h01 : n0 ≤ n1) (h2 : n1 ≤ 2100) (h23 : ¬ lv 23 0) (hel : gHeir lv ad con f n0) :
    gMr l yJ7_copyOf_1904c cJ7_copyOf_1904c 2 (some (.array (.object "java/lang/Object"))) (gRm 2 41 1 2100) G [.ref (ad 3 k0), .int (nI n1)] lv ad con (fun v u => ∃ q, v = q ∧ u = (g2 lv 23 0 True, g2 ad 23 0 q, gCpq G con n1 n0 f)) := by
  refine r_met (own := RJ7) (by decide) rfl (Nat.le_of_ble_eq_true rfl) ?_
  intro p e s m below meth c ls X hw hr hlk _ hl
  have hx := X.1.1; have hb := X.1.2.1; have hml := X.1.2.2.1; have hown := X.1.2.2.2.1; have hts := X.1.2.2.2.2
  have hl : lv_has ls 2 [(0, .ref (ad 3 k0)), (1, .int (nI n1))] := hl
  refine lv_aload_n hx hb dJ7_copyOf_1904c_0 rfl (lv_at hl 0 rfl) ?_
  refine lv_iload_n hx hb dJ7_copyOf_1904c_1 rfl (lv_at hl 1 rfl) ?_
  refine lv_aload_n hx hb dJ7_copyOf_1904c_2 rfl (lv_at hl 0 rfl) ?_
  refine va_getC hx hb (hml.trans hl.1.symm) hown (hts _ ml_RJ7_86) (va_Nw.use rfl (X.2.2.1.2.2.1 gGC (by decide))) (hts _ gc_sel) (hts _ gc_inst) (hts _ gc_nat) X.2.2.2.1.2.2.1.2 ⟨_, (hw.1.one hl0 he0) 0 _ rfl, rfl, va_nmO (X.2.1.2 3 _ rfl).2 rfl⟩ (Nat.le_of_ble_eq_true rfl) (Nat.le_of_ble_eq_true rfl) dJ7_copyOf_1904c_3 ?_
  refine r_rr X hw (r_runS X (c_copyOf2 l G lv ad con k0 n0 n1 f hl0 he0 h01 h2 h23 hel _) cy_J7_copyOf_6403c ml_RJ7_300 ⟨Nat.le_of_ble_eq_true rfl, Nat.le_of_ble_eq_true rfl⟩ gP.blind (gP_call X hw _) rfl hl.1 rfl (Nat.le_of_ble_eq_true rfl) dJ7_copyOf_1904c_6 ⟨Nat.le_of_ble_eq_true rfl, Nat.le_of_ble_eq_true rfl⟩) (fun v u H locs hp hw => ?_)
  exact r_aret X hw hr (Or.inr ⟨_, rfl⟩) hlk (Nat.le_of_ble_eq_true rfl) (Nat.le_of_ble_eq_true rfl) hp dJ7_copyOf_1904c_9

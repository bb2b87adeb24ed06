/-! ===== constructors ===== -/
theorem df_X5 : ∀ j, j < 7 → defaultValue (tyX5 j) = vp_V [.null, .null, .null, .null, .null, .null, .int 0] j := by decide
theorem df_J : ∀ j, j < 3 → defaultValue (tyJx4a65c j) = vp_V [.int 0, .null, .int 0] j := by decide
theorem df_X2 : ∀ j, j < 7 → defaultValue (tyX2 j) = vp_V [.null, .null, .int 0, .int 0, .int 0, .null, .null] j := by decide
theorem df_X3 : ∀ j, j < 11 → defaultValue (tyX3 j) = vp_V [.null, .null, .null, .int 0, .int 0, .int 0, .int 0, .int 0, .int 0, .int 0, .int 0] j := by decide
theorem df_X4 : ∀ j, j < 11 → defaultValue (tyX4 j) = vp_V [.int 0, .int 0, .null, .null, .null, .null, .null, .int 0, .int 0, .int 0, .int 0] j := by decide
theorem df_X0 : ∀ j, j < 3 → defaultValue (tyX0 j) = vp_V [.int 0, .int 0, .int 0] j := by decide
theorem df_X1 : ∀ j, j < 3 → defaultValue (tyX1 j) = vp_V [.null, .null, .int 0] j := by decide
theorem oi_in : Cond.instanceMethod objectInit ∈ gwl := gwl_of (by decide +kernel) rfl
theorem oi_co : Cond.code objectInit ⟨#[0xb1]⟩ 1 none ∈ gwl := gwl_of (by decide +kernel) rfl
section GOI
variable {p : Program} {l : Launch} {e : Env} {R : Room} {s : State} {m : MethodId} {args : Array Value} {below : List Frame} {meth : Method} {c : Code} {H : Heap} {locs : List Loc} {cells slots : Nat} {Q : State → Prop}
variable {cc : ByteArray} {own : String} {nL pc : Nat} {ls : Array Slot} {rest : List Value} {G : gG} {A : Nat → Prop}
theorem r_oi (X : gX p s m args c cc own nL G A) {idx a : Nat} (hlink : Cond.methodLink own idx objectInit ∈ gwl) (hsz : ls.size = nL) (hdg : decode cc pc = .ok (.invokespecial idx, 3)) (hframes : 1 ≤ R.frames) (hlocals : (rest.map fun v => v.category).sum + 12 ≤ R.locals)
    (kk : W p l e R s m args below meth c H locs cells slots Q (F0 m (pc + 3) ls rest)) : W p l e R s m args below meth c H locs cells slots Q (F0 m pc ls (.ref a :: rest)) :=
  W.objInit X.1.1 X.1.2.1 X.1.2.2.2.1 (X.1.2.2.2.2 _ hlink) (X.1.2.2.2.2 _ oi_in) (X.1.2.2.2.2 _ oi_co) rfl (hsz.trans X.1.2.2.1.symm) rfl hdg hframes (by show 2 * 0 + _ + 12 ≤ _; omega) kk
end GOI
theorem ml_RJxa1e45_1 : Cond.methodLink RJxa1e45 1 objectInit ∈ gwl := gwl_of (by decide +kernel) rfl
theorem ml_RJxc12de_1 : Cond.methodLink RJxc12de 1 yJxa1e45_init_da8c8 ∈ gwl := gwl_of (by decide +kernel) rfl
theorem ml_RJx4a65c_1 : Cond.methodLink RJx4a65c 1 yJxc12de_init_da8c8 ∈ gwl := gwl_of (by decide +kernel) rfl
theorem fl_RJxc12de_7 : Cond.fieldLink RJxc12de 7 RJxc12de "modCount" "I" ∈ gwl := gwl_of (by decide +kernel) rfl
abbrev fl_RJx4a65c_9 := fl_J_9
set_option maxHeartbeats 4000000 in
set_option maxRecDepth 100000 in
theorem c_iX0 (l : Launch) (G : gG) (lv : gLv) (ad : gAd) (con : gCn) (k : Nat) (n1 n2 n3 : Int32) (h13 : lv 13 k) (hc : con 13 k = .inr (1, [.int 0, .int 0, .int 0])) : gMv l yX0_init cX0_init 4 (gRm 1 12 0 0) G [.ref (ad 13 k), .int n1, .int n2, .int n3] lv ad con (fun u => u = (lv, ad, (g2 con 13 k (.inr (1, [.int n1, .int n2, .int n3]))))) := by
  refine r_met (own := RX0) (by decide) rfl (Nat.le_of_ble_eq_true rfl) ?_
  intro p e s m below meth c ls X hw hr hlk hnm hl
  have hx := X.1.1; have hb := X.1.2.1; have hml := X.1.2.2.1; have hown := X.1.2.2.2.1; have hts := X.1.2.2.2.2
  have hl : lv_has ls 4 [(0, .ref (ad 13 k)), (1, .int n1), (2, .int n2), (3, .int n3)] := hl
  refine lv_aload_n hx hb dX0_init_0 rfl (lv_at hl 0 rfl) ?_
  refine r_oi X ml_RX0_1 hl.1 dX0_init_1 (Nat.le_of_ble_eq_true rfl) (Nat.le_of_ble_eq_true rfl) ?_
  refine lv_aload_n hx hb dX0_init_4 rfl (lv_at hl 0 rfl) ?_
  refine lv_iload_n hx hb dX0_init_5 rfl (lv_at hl 1 rfl) ?_
  refine r_putF X (hnm.trans rfl) hw 13 k 0 h13 (ci := 1) (fs := [.int 0, .int 0, .int 0]) (fs' := [.int n1, .int 0, .int 0]) (hc) rfl k_X0 (by decide) (Nat.le_of_ble_eq_true rfl) fl_RX0_7 rfl rfl rfl rfl dX0_init_6 (fun H locs hw => ?_)
  refine lv_aload_n hx hb dX0_init_9 rfl (lv_at hl 0 rfl) ?_
  refine lv_iload_n hx hb dX0_init_10 rfl (lv_at hl 2 rfl) ?_
  refine r_putF X (hnm.trans rfl) hw 13 k 1 h13 (ci := 1) (fs := [.int n1, .int 0, .int 0]) (fs' := [.int n1, .int n2, .int 0]) (g2_s _ _ _ _) rfl k_X0 (by decide) (Nat.le_of_ble_eq_true rfl) fl_RX0_13 rfl rfl rfl rfl dX0_init_11 (fun H locs hw => ?_)
  refine lv_aload_n hx hb dX0_init_14 rfl (lv_at hl 0 rfl) ?_
  refine lv_iload_n hx hb dX0_init_15 rfl (lv_at hl 3 rfl) ?_
  refine r_putF X (hnm.trans rfl) hw 13 k 2 h13 (ci := 1) (fs := [.int n1, .int n2, .int 0]) (fs' := [.int n1, .int n2, .int n3]) (g2_s _ _ _ _) rfl k_X0 (by decide) (Nat.le_of_ble_eq_true rfl) fl_RX0_16 rfl rfl rfl rfl dX0_init_16 (fun H locs hw => ?_)
  have hN : (g2 (g2 (g2 con 13 k (.inr (1, [.int n1, .int 0, .int 0]))) 13 k (.inr (1, [.int n1, .int n2, .int 0]))) 13 k (.inr (1, [.int n1, .int n2, .int n3]))) = (g2 con 13 k (.inr (1, [.int n1, .int n2, .int n3]))) := by
    funext a b
    simp only [g2]
    by_cases k1 : a = 13 ∧ b = k
    · simp only [if_pos k1, ]
    simp only [if_neg k1]
  exact r_vret X hw hr hlk (Nat.le_of_ble_eq_true rfl) (Nat.le_of_ble_eq_true rfl) (by rw [hN]) dX0_init_19
set_option maxHeartbeats 4000000 in
set_option maxRecDepth 100000 in
theorem c_iX1 (l : Launch) (G : gG) (lv : gLv) (ad : gAd) (con : gCn) (k : Nat) (h14 : lv 14 k) (h15 : ¬ lv 15 k) (h16 : ¬ lv 16 k) (hc : con 14 k = .inr (2, [.null, .null, .int 0])) : gMv l yX1_init cX1_init 1 (gRm 1 12 2 48) G [.ref (ad 14 k)] lv ad con (fun u => ∃ q1 q2, u = ((g2 (g2 lv 15 k True) 16 k True), (g2 (g2 ad 15 k q1) 16 k q2), (g2 (g2 (g2 con 15 k (.inl (G.2.1, 24, .inl (fun _ => 0)))) 14 k (.inr (2, [.ref q1, .ref q2, .int 0]))) 16 k (.inl (G.2.1, 24, .inl (fun _ => 0)))))) := by
  refine r_met (own := RX1) (by decide) rfl (Nat.le_of_ble_eq_true rfl) ?_
  intro p e s m below meth c ls X hw hr hlk hnm hl
  have hx := X.1.1; have hb := X.1.2.1; have hml := X.1.2.2.1; have hown := X.1.2.2.2.1; have hts := X.1.2.2.2.2
  have hl : lv_has ls 1 [(0, .ref (ad 14 k))] := hl
  refine lv_aload_n hx hb dX1_init_0 rfl (lv_at hl 0 rfl) ?_
  refine r_oi X ml_RX1_3 hl.1 dX1_init_1 (Nat.le_of_ble_eq_true rfl) (Nat.le_of_ble_eq_true rfl) ?_
  refine lv_aload_n hx hb dX1_init_4 rfl (lv_at hl 0 rfl) ?_
  refine lv_bipush (v := 24) hx hb dX1_init_5 (by decide) ?_
  refine r_newi X hw 15 k h15 (N := 24) (by decide) (by decide) (by decide) ac_int (Nat.le_of_ble_eq_true rfl) (Nat.le_of_ble_eq_true rfl) dX1_init_7 (fun q1 H _ hw => ?_)
  refine W.eq (g2 := F0 m 9 ls [.ref q1, .ref ((g2 ad 15 k q1) 14 k)]) (by rw [show (g2 ad 15 k q1) 14 k = (ad 14 k) from (g2_n _ _ (fun e => absurd e.1 (by decide)))]) ?_
  refine r_putF X (hnm.trans rfl) hw 14 k 0 (Eq.mpr ((g2_n _ _ (fun e => absurd e.1 (by decide)))) (h14)) (ci := 2) (fs := [.null, .null, .int 0]) (fs' := [.ref q1, .null, .int 0]) (((g2_n _ _ (fun e => absurd e.1 (by decide)))).trans (hc)) rfl k_X1 (by decide) (Nat.le_of_ble_eq_true rfl) fl_RX1_9 rfl rfl rfl rfl dX1_init_9 (fun H locs hw => ?_)
  refine lv_aload_n hx hb dX1_init_12 rfl (lv_at hl 0 rfl) ?_
  refine lv_bipush (v := 24) hx hb dX1_init_13 (by decide) ?_
  refine r_newi X hw 16 k (fun h => h16 (Eq.mp ((g2_n _ _ (fun e => absurd e.1 (by decide)))) h)) (N := 24) (by decide) (by decide) (by decide) ac_int (Nat.le_of_ble_eq_true rfl) (Nat.le_of_ble_eq_true rfl) dX1_init_15 (fun q2 H _ hw => ?_)
  refine W.eq (g2 := F0 m 17 ls [.ref q2, .ref ((g2 (g2 ad 15 k q1) 16 k q2) 14 k)]) (by rw [show (g2 (g2 ad 15 k q1) 16 k q2) 14 k = (ad 14 k) from (g2_n _ _ (fun e => absurd e.1 (by decide))).trans ((g2_n _ _ (fun e => absurd e.1 (by decide))))]) ?_
  refine r_putF X (hnm.trans rfl) hw 14 k 1 (Eq.mpr ((g2_n _ _ (fun e => absurd e.1 (by decide))).trans ((g2_n _ _ (fun e => absurd e.1 (by decide))))) (h14)) (ci := 2) (fs := [.ref q1, .null, .int 0]) (fs' := [.ref q1, .ref q2, .int 0]) ((g2_n _ _ (fun e => absurd e.1 (by decide))).trans (g2_s _ _ _ _)) rfl k_X1 (by decide) (Nat.le_of_ble_eq_true rfl) fl_RX1_15 rfl rfl rfl rfl dX1_init_17 (fun H locs hw => ?_)
  have hN : (g2 (g2 (g2 (g2 con 15 k (.inl (G.2.1, 24, .inl (fun _ => 0)))) 14 k (.inr (2, [.ref q1, .null, .int 0]))) 16 k (.inl (G.2.1, 24, .inl (fun _ => 0)))) 14 k (.inr (2, [.ref q1, .ref q2, .int 0]))) = (g2 (g2 (g2 con 15 k (.inl (G.2.1, 24, .inl (fun _ => 0)))) 14 k (.inr (2, [.ref q1, .ref q2, .int 0]))) 16 k (.inl (G.2.1, 24, .inl (fun _ => 0)))) := by
    funext a b
    simp only [g2]
    by_cases k1 : a = 15 ∧ b = k
    · simp only [if_pos k1, if_neg (show ¬ (a = 14 ∧ b = k) from by omega), if_neg (show ¬ (a = 16 ∧ b = k) from by omega)]
    by_cases k2 : a = 14 ∧ b = k
    · simp only [if_pos k2, if_neg (show ¬ (a = 15 ∧ b = k) from by omega), if_neg (show ¬ (a = 16 ∧ b = k) from by omega)]
    by_cases k3 : a = 16 ∧ b = k
    · simp only [if_pos k3, if_neg (show ¬ (a = 15 ∧ b = k) from by omega), if_neg (show ¬ (a = 14 ∧ b = k) from by omega)]
    simp only [if_neg k1, if_neg k2, if_neg k3]
  exact r_vret X hw hr hlk (Nat.le_of_ble_eq_true rfl) (Nat.le_of_ble_eq_true rfl) ⟨q1, q2, by rw [hN]⟩ dX1_init_20
set_option maxHeartbeats 4000000 in
set_option maxRecDepth 100000 in
theorem c_iX3 (l : Launch) (G : gG) (lv : gLv) (ad : gAd) (con : gCn) (k : Nat) (h7 : lv 7 k) (h8 : ¬ lv 8 k) (h9 : ¬ lv 9 k) (h10 : ¬ lv 10 k) (hc : con 7 k = .inr (4, [.null, .null, .null, .int 0, .int 0, .int 0, .int 0, .int 0, .int 0, .int 0, .int 0])) : gMv l yX3_init cX3_init 1 (gRm 1 12 3 32) G [.ref (ad 7 k)] lv ad con (fun u => ∃ q1 q2 q3, u = ((g2 (g2 (g2 lv 8 k True) 9 k True) 10 k True), (g2 (g2 (g2 ad 8 k q1) 9 k q2) 10 k q3), (g2 (g2 (g2 (g2 con 8 k (.inl (G.2.1, 8, .inl (fun _ => 0)))) 7 k (.inr (4, [.ref q1, .ref q2, .ref q3, .int 0, .int 0, .int 0, .int 0, .int 0, .int 0, .int 0, .int 0]))) 9 k (.inl (G.2.1, 8, .inl (fun _ => 0)))) 10 k (.inl (G.2.1, 16, .inl (fun _ => 0)))))) := by
  refine r_met (own := RX3) (by decide) rfl (Nat.le_of_ble_eq_true rfl) ?_
  intro p e s m below meth c ls X hw hr hlk hnm hl
  have hx := X.1.1; have hb := X.1.2.1; have hml := X.1.2.2.1; have hown := X.1.2.2.2.1; have hts := X.1.2.2.2.2
  have hl : lv_has ls 1 [(0, .ref (ad 7 k))] := hl
  refine lv_aload_n hx hb dX3_init_0 rfl (lv_at hl 0 rfl) ?_
  refine r_oi X ml_RX3_3 hl.1 dX3_init_1 (Nat.le_of_ble_eq_true rfl) (Nat.le_of_ble_eq_true rfl) ?_
  refine lv_aload_n hx hb dX3_init_4 rfl (lv_at hl 0 rfl) ?_
  refine lv_bipush (v := 8) hx hb dX3_init_5 (by decide) ?_
  refine r_newi X hw 8 k h8 (N := 8) (by decide) (by decide) (by decide) ac_int (Nat.le_of_ble_eq_true rfl) (Nat.le_of_ble_eq_true rfl) dX3_init_7 (fun q1 H _ hw => ?_)
  refine W.eq (g2 := F0 m 9 ls [.ref q1, .ref ((g2 ad 8 k q1) 7 k)]) (by rw [show (g2 ad 8 k q1) 7 k = (ad 7 k) from (g2_n _ _ (fun e => absurd e.1 (by decide)))]) ?_
  refine r_putF X (hnm.trans rfl) hw 7 k 0 (Eq.mpr ((g2_n _ _ (fun e => absurd e.1 (by decide)))) (h7)) (ci := 4) (fs := [.null, .null, .null, .int 0, .int 0, .int 0, .int 0, .int 0, .int 0, .int 0, .int 0]) (fs' := [.ref q1, .null, .null, .int 0, .int 0, .int 0, .int 0, .int 0, .int 0, .int 0, .int 0]) (((g2_n _ _ (fun e => absurd e.1 (by decide)))).trans (hc)) rfl k_X3 (by decide) (Nat.le_of_ble_eq_true rfl) fl_RX3_9 rfl rfl rfl rfl dX3_init_9 (fun H locs hw => ?_)
  refine lv_aload_n hx hb dX3_init_12 rfl (lv_at hl 0 rfl) ?_
  refine lv_bipush (v := 8) hx hb dX3_init_13 (by decide) ?_
  refine r_newi X hw 9 k (fun h => h9 (Eq.mp ((g2_n _ _ (fun e => absurd e.1 (by decide)))) h)) (N := 8) (by decide) (by decide) (by decide) ac_int (Nat.le_of_ble_eq_true rfl) (Nat.le_of_ble_eq_true rfl) dX3_init_15 (fun q2 H _ hw => ?_)
  refine W.eq (g2 := F0 m 17 ls [.ref q2, .ref ((g2 (g2 ad 8 k q1) 9 k q2) 7 k)]) (by rw [show (g2 (g2 ad 8 k q1) 9 k q2) 7 k = (ad 7 k) from (g2_n _ _ (fun e => absurd e.1 (by decide))).trans ((g2_n _ _ (fun e => absurd e.1 (by decide))))]) ?_
  refine r_putF X (hnm.trans rfl) hw 7 k 1 (Eq.mpr ((g2_n _ _ (fun e => absurd e.1 (by decide))).trans ((g2_n _ _ (fun e => absurd e.1 (by decide))))) (h7)) (ci := 4) (fs := [.ref q1, .null, .null, .int 0, .int 0, .int 0, .int 0, .int 0, .int 0, .int 0, .int 0]) (fs' := [.ref q1, .ref q2, .null, .int 0, .int 0, .int 0, .int 0, .int 0, .int 0, .int 0, .int 0]) ((g2_n _ _ (fun e => absurd e.1 (by decide))).trans (g2_s _ _ _ _)) rfl k_X3 (by decide) (Nat.le_of_ble_eq_true rfl) fl_RX3_15 rfl rfl rfl rfl dX3_init_17 (fun H locs hw => ?_)
  refine lv_aload_n hx hb dX3_init_20 rfl (lv_at hl 0 rfl) ?_
  refine lv_bipush (v := 16) hx hb dX3_init_21 (by decide) ?_
  refine r_newi X hw 10 k (fun h => h10 (Eq.mp ((g2_n _ _ (fun e => absurd e.1 (by decide))).trans ((g2_n _ _ (fun e => absurd e.1 (by decide))))) h)) (N := 16) (by decide) (by decide) (by decide) ac_int (Nat.le_of_ble_eq_true rfl) (Nat.le_of_ble_eq_true rfl) dX3_init_23 (fun q3 H _ hw => ?_)
  refine W.eq (g2 := F0 m 25 ls [.ref q3, .ref ((g2 (g2 (g2 ad 8 k q1) 9 k q2) 10 k q3) 7 k)]) (by rw [show (g2 (g2 (g2 ad 8 k q1) 9 k q2) 10 k q3) 7 k = (ad 7 k) from (g2_n _ _ (fun e => absurd e.1 (by decide))).trans ((g2_n _ _ (fun e => absurd e.1 (by decide))).trans ((g2_n _ _ (fun e => absurd e.1 (by decide)))))]) ?_
  refine r_putF X (hnm.trans rfl) hw 7 k 2 (Eq.mpr ((g2_n _ _ (fun e => absurd e.1 (by decide))).trans ((g2_n _ _ (fun e => absurd e.1 (by decide))).trans ((g2_n _ _ (fun e => absurd e.1 (by decide)))))) (h7)) (ci := 4) (fs := [.ref q1, .ref q2, .null, .int 0, .int 0, .int 0, .int 0, .int 0, .int 0, .int 0, .int 0]) (fs' := [.ref q1, .ref q2, .ref q3, .int 0, .int 0, .int 0, .int 0, .int 0, .int 0, .int 0, .int 0]) ((g2_n _ _ (fun e => absurd e.1 (by decide))).trans (g2_s _ _ _ _)) rfl k_X3 (by decide) (Nat.le_of_ble_eq_true rfl) fl_RX3_18 rfl rfl rfl rfl dX3_init_25 (fun H locs hw => ?_)
  have hN : (g2 (g2 (g2 (g2 (g2 (g2 con 8 k (.inl (G.2.1, 8, .inl (fun _ => 0)))) 7 k (.inr (4, [.ref q1, .null, .null, .int 0, .int 0, .int 0, .int 0, .int 0, .int 0, .int 0, .int 0]))) 9 k (.inl (G.2.1, 8, .inl (fun _ => 0)))) 7 k (.inr (4, [.ref q1, .ref q2, .null, .int 0, .int 0, .int 0, .int 0, .int 0, .int 0, .int 0, .int 0]))) 10 k (.inl (G.2.1, 16, .inl (fun _ => 0)))) 7 k (.inr (4, [.ref q1, .ref q2, .ref q3, .int 0, .int 0, .int 0, .int 0, .int 0, .int 0, .int 0, .int 0]))) = (g2 (g2 (g2 (g2 con 8 k (.inl (G.2.1, 8, .inl (fun _ => 0)))) 7 k (.inr (4, [.ref q1, .ref q2, .ref q3, .int 0, .int 0, .int 0, .int 0, .int 0, .int 0, .int 0, .int 0]))) 9 k (.inl (G.2.1, 8, .inl (fun _ => 0)))) 10 k (.inl (G.2.1, 16, .inl (fun _ => 0)))) := by
    funext a b
    simp only [g2]
    by_cases k1 : a = 8 ∧ b = k
    · simp only [if_pos k1, if_neg (show ¬ (a = 7 ∧ b = k) from by omega), if_neg (show ¬ (a = 9 ∧ b = k) from by omega), if_neg (show ¬ (a = 10 ∧ b = k) from by omega)]
    by_cases k2 : a = 7 ∧ b = k
    · simp only [if_pos k2, if_neg (show ¬ (a = 8 ∧ b = k) from by omega), if_neg (show ¬ (a = 9 ∧ b = k) from by omega), if_neg (show ¬ (a = 10 ∧ b = k) from by omega)]
    by_cases k3 : a = 9 ∧ b = k
    · simp only [if_pos k3, if_neg (show ¬ (a = 8 ∧ b = k) from by omega), if_neg (show ¬ (a = 7 ∧ b = k) from by omega), if_neg (show ¬ (a = 10 ∧ b = k) from by omega)]
    by_cases k4 : a = 10 ∧ b = k
    · simp only [if_pos k4, if_neg (show ¬ (a = 8 ∧ b = k) from by omega), if_neg (show ¬ (a = 7 ∧ b = k) from by omega), if_neg (show ¬ (a = 9 ∧ b = k) from by omega)]
    simp only [if_neg k1, if_neg k2, if_neg k3, if_neg k4]
  exact r_vret X hw hr hlk (Nat.le_of_ble_eq_true rfl) (Nat.le_of_ble_eq_true rfl) ⟨q1, q2, q3, by rw [hN]⟩ dX3_init_28
set_option maxHeartbeats 4000000 in
set_option maxRecDepth 100000 in
theorem c_iJ2 (l : Launch) (G : gG) (lv : gLv) (ad : gAd) (con : gCn) (k : Nat)  : gMv l yJxa1e45_init_da8c8 cJxa1e45_init_da8c8 1 (gRm 1 12 0 0) G [.ref (ad 2 k)] lv ad con (fun u => u = (lv, ad, con)) := by
  refine r_met (own := RJxa1e45) (by decide) rfl (Nat.le_of_ble_eq_true rfl) ?_
  intro p e s m below meth c ls X hw hr hlk hnm hl
  have hx := X.1.1; have hb := X.1.2.1; have hml := X.1.2.2.1; have hown := X.1.2.2.2.1; have hts := X.1.2.2.2.2
  have hl : lv_has ls 1 [(0, .ref (ad 2 k))] := hl
  refine lv_aload_n hx hb dJxa1e45_init_da8c8_0 rfl (lv_at hl 0 rfl) ?_
  refine r_oi X ml_RJxa1e45_1 hl.1 dJxa1e45_init_da8c8_1 (Nat.le_of_ble_eq_true rfl) (Nat.le_of_ble_eq_true rfl) ?_
  exact r_vret X hw hr hlk (Nat.le_of_ble_eq_true rfl) (Nat.le_of_ble_eq_true rfl) (rfl) dJxa1e45_init_da8c8_4
set_option maxHeartbeats 4000000 in
set_option maxRecDepth 100000 in
theorem c_iJ1 (l : Launch) (G : gG) (lv : gLv) (ad : gAd) (con : gCn) (k : Nat) (h2 : lv 2 k) (hc : con 2 k = .inr (0, [.int 0, .null, .int 0])) : gMv l yJxc12de_init_da8c8 cJxc12de_init_da8c8 1 (gRm 2 32 0 0) G [.ref (ad 2 k)] lv ad con (fun u => u = (lv, ad, (g2 con 2 k (.inr (0, [.int 0, .null, .int 0]))))) := by
  refine r_met (own := RJxc12de) (by decide) rfl (Nat.le_of_ble_eq_true rfl) ?_
  intro p e s m below meth c ls X hw hr hlk hnm hl
  have hx := X.1.1; have hb := X.1.2.1; have hml := X.1.2.2.1; have hown := X.1.2.2.2.1; have hts := X.1.2.2.2.2
  have hl : lv_has ls 1 [(0, .ref (ad 2 k))] := hl
  refine lv_aload_n hx hb dJxc12de_init_da8c8_0 rfl (lv_at hl 0 rfl) ?_
  refine r_rv X hw (r_runI X (c_iJ2 l G _ _ _ k _) cy_Jxa1e45_init_da8c8 ml_RJxc12de_1 ⟨(Nat.le_of_ble_eq_true rfl), (Nat.le_of_ble_eq_true rfl)⟩ gP.blind (gP_call X hw _) rfl hl.1 rfl (Nat.le_of_ble_eq_true rfl) dJxc12de_init_da8c8_1 ⟨(Nat.le_of_ble_eq_true rfl), (Nat.le_of_ble_eq_true rfl)⟩) (fun u H locs hp hw => ?_)
  obtain rfl := hp
  have hw : gW G (gA lv ad s.heap.size) s.heap H locs lv ad con := hw
  refine lv_aload_n hx hb dJxc12de_init_da8c8_4 rfl (lv_at hl 0 rfl) ?_
  refine lv_iconst (v := 0) hx hb dJxc12de_init_da8c8_5 (by decide) ?_
  refine r_put X hw 2 k 0 h2 (ci := 0) (fs := [.int 0, .null, .int 0]) (fs' := [.int 0, .null, .int 0]) (hc) rfl k_J (by decide) (Nat.le_of_ble_eq_true rfl) fl_RJxc12de_7 rfl rfl rfl dJxc12de_init_da8c8_6 (fun H locs hw => ?_)
  exact r_vret X hw hr hlk (Nat.le_of_ble_eq_true rfl) (Nat.le_of_ble_eq_true rfl) (rfl) dJxc12de_init_da8c8_9
set_option maxHeartbeats 4000000 in
set_option maxRecDepth 100000 in
theorem c_iJ (l : Launch) (G : gG) (lv : gLv) (ad : gAd) (con : gCn) (k : Nat) (h2 : lv 2 k) (hc : con 2 k = .inr (0, [.int 0, .null, .int 0])) : gMv l yJx4a65c_init_da8c8 cJx4a65c_init_da8c8 1 (gRm 3 52 0 0) G [.ref (ad 2 k)] lv ad con (fun u => u = (lv, ad, (g2 con 2 k (.inr (0, [.int 0, .ref (G.2.2.2.2.2 2), .int 0]))))) := by
  refine r_met (own := RJx4a65c) (by decide) rfl (Nat.le_of_ble_eq_true rfl) ?_
  intro p e s m below meth c ls X hw hr hlk hnm hl
  have hx := X.1.1; have hb := X.1.2.1; have hml := X.1.2.2.1; have hown := X.1.2.2.2.1; have hts := X.1.2.2.2.2
  have hl : lv_has ls 1 [(0, .ref (ad 2 k))] := hl
  refine lv_aload_n hx hb dJx4a65c_init_da8c8_0 rfl (lv_at hl 0 rfl) ?_
  refine r_rv X hw (r_runI X (c_iJ1 l G _ _ _ k h2 (hc) _) cy_Jxc12de_init_da8c8 ml_RJx4a65c_1 ⟨(Nat.le_of_ble_eq_true rfl), (Nat.le_of_ble_eq_true rfl)⟩ gP.blind (gP_call X hw _) rfl hl.1 rfl (Nat.le_of_ble_eq_true rfl) dJx4a65c_init_da8c8_1 ⟨(Nat.le_of_ble_eq_true rfl), (Nat.le_of_ble_eq_true rfl)⟩) (fun u H locs hp hw => ?_)
  obtain rfl := hp
  have hw : gW G (gA lv ad s.heap.size) s.heap H locs lv ad (g2 con 2 k (.inr (0, [.int 0, .null, .int 0]))) := hw
  refine lv_aload_n hx hb dJx4a65c_init_da8c8_4 rfl (lv_at hl 0 rfl) ?_
  refine va_gets hx hb X.2.2.2.1.2.2.1.1.1 hw.2 hown (hts _ fl_J_39) (fun _ h => h) dJx4a65c_init_da8c8_5 ?_
  refine r_put X hw 2 k 1 h2 (ci := 0) (fs := [.int 0, .null, .int 0]) (fs' := [.int 0, .ref (G.2.2.2.2.2 2), .int 0]) (g2_s _ _ _ _) rfl k_J (by decide) (Nat.le_of_ble_eq_true rfl) fl_RJx4a65c_9 rfl rfl rfl dJx4a65c_init_da8c8_8 (fun H locs hw => ?_)
  have hN : (g2 (g2 con 2 k (.inr (0, [.int 0, .null, .int 0]))) 2 k (.inr (0, [.int 0, .ref (G.2.2.2.2.2 2), .int 0]))) = (g2 con 2 k (.inr (0, [.int 0, .ref (G.2.2.2.2.2 2), .int 0]))) := by
    funext a b
    simp only [g2]
    by_cases k1 : a = 2 ∧ b = k
    · simp only [if_pos k1, ]
    simp only [if_neg k1]
  exact r_vret X hw hr hlk (Nat.le_of_ble_eq_true rfl) (Nat.le_of_ble_eq_true rfl) (by rw [hN]) dJx4a65c_init_da8c8_11

section GQR4
variable {p : Program} {l : Launch} {e : Env} {R : Room} {s : State} {m : MethodId} {args : Array Value} {below : List Frame} {meth : Method} {c : Code} {H : Heap} {locs : List Loc} {cells slots : Nat} {Q : State → Prop}
variable {cc : ByteArray} {own : String} {nL pc mc ms : Nat} {ls : Array Slot} {rest st0 : List Value} {G : gG} {A : Nat → Prop} {lv : gLv} {ad : gAd} {C : gCT} {a : Array Value}
theorem r_qiro {P : gCT → Prop} {f : Int32 × gCT} (X : gX p s m args c cc own nL G A) {con : gCn} (hw : gW G A s.heap H locs lv ad con) (hf : f.2 = C) (hr : va_Run p l e R s m args below meth c H locs cells slots mc ms (F0 m pc ls st0) rest (gQi G (gA lv ad H.size) (gRi G lv ad P f) a) (gA lv ad H.size))
    (kk : ∀ (H1 : Heap) (locs1 : List Loc), gW G A s.heap H1 locs1 lv ad (gF G C ad) → W p l e R s m args below meth c H1 locs1 (cells + mc) (slots + ms) Q (F0 m (pc + 3) ls (.int f.1 :: rest))) : W p l e R s m args below meth c H locs cells slots Q (F0 m pc ls st0) :=
  r_qi X hw hr (fun H1 locs1 _ hw1 => by rw [hf] at hw1; exact kk H1 locs1 hw1)
end GQR4
def q_goes (C : gCT) (n1 n2 n3 : Int32) : Int32 × gCT :=
  let x5 : Int32 :=
    if n1 = 0 then (
      1
    ) else (
      if n2 = 0 then (
        2
      ) else (
        if n3 = 0 then (
          3
        ) else (
          0
        )
      )
    );
  let C6 : gCT := cs C 20 0 3 x5;
  if x5 = 0 then (
    (1, C6)
  ) else (
    (0, C6)
  )
set_option maxHeartbeats 4000000 in
set_option maxRecDepth 100000 in
theorem c_q_goes (l : Launch) (G : gG) (lv : gLv) (ad : gAd) (C : gCT) (n1 n2 n3 : Int32) (hL : gLM lv) (hB : MBI C)  : gMi l yX6_goes cX6_goes 4 (some .boolean) (gRm 0 0 0 0) G [.ref (ad 20 0), .int n1, .int n2, .int n3] lv ad (gF G C ad) (gRi G lv ad MBI (q_goes C n1 n2 n3)) := by
  refine r_met (own := RX6) (by decide) rfl (Nat.le_of_ble_eq_true rfl) ?_
  intro p e s m below meth c ls X hw hr hlk _ hl
  have hx := X.1.1; have hb := X.1.2.1; have hml := X.1.2.2.1; have hown := X.1.2.2.2.1; have hts := X.1.2.2.2.2
  have hl : lv_has ls 4 [(0, .ref (ad 20 0)), (1, .int n1), (2, .int n2), (3, .int n3)] := hl
  refine lv_aload_n hx hb dX6_goes_0 rfl (lv_at hl 0 rfl) ?_
  refine lv_iload_n hx hb dX6_goes_1 rfl (lv_at hl 1 rfl) ?_
  refine r_J (nL := 4) (J := 26) (rest := [.ref (ad 20 0)]) (L := [(0, .ref (ad 20 0)), (1, .int n1), (2, .int n2), (3, .int n3)]) (if n1 = 0 then ( 1 ) else ( if n2 = 0 then ( 2 ) else ( if n3 = 0 then ( 3 ) else ( 0 ) ) )) (fun x5 ex5 ls hl => ?_) (fun J4 => ?_)
  · refine s_put X hw 20 _ 35 3 (hL.1) rfl rfl k_X6 (by decide) (Nat.le_of_ble_eq_true rfl) fl_RX6_106 rfl rfl dX6_goes_26 (fun H locs hw => ?_)
    have hB := MBI.set0 hB (j := 3) (v := x5) (by decide)
    refine lv_aload_n hx hb dX6_goes_29 rfl (lv_at hl 0 rfl) ?_
    refine r_get X hw 20 _ 35 (hL.1) rfl rfl k_X6 (by decide) fl_RX6_106 dX6_goes_30 ?_
    refine lv_topi (fun x7 ex7 => ?_)
    have ex7 := (ex7.trans (cs_s _ _ _ _ _)).symm; subst ex7
    refine lv_if_ne (tgt := 40) hx hb dX6_goes_33 (by decide) (fun h8 => ?_) (fun h8 => ?_)
    · refine lv_iconst (v := 0) hx hb dX6_goes_40 (by decide) ?_
      subst ex5
      exact r_iret X hw hr nar_b0 hlk (Nat.le_of_ble_eq_true rfl) (Nat.le_of_ble_eq_true rfl) (gRE_of ((if_neg h8).trans rfl) hB) dX6_goes_41
    · refine lv_iconst (v := 1) hx hb dX6_goes_36 (by decide) ?_
      refine lv_goto (tgt := 41) hx hb dX6_goes_37 (by decide) ?_
      subst ex5
      exact r_iret X hw hr nar_b1 hlk (Nat.le_of_ble_eq_true rfl) (Nat.le_of_ble_eq_true rfl) (gRE_of ((if_pos h8).trans rfl) hB) dX6_goes_41
  · refine lv_if_ne (tgt := 9) hx hb dX6_goes_2 (by decide) (fun h1 => ?_) (fun h1 => ?_)
    · refine lv_iload_n hx hb dX6_goes_9 rfl (lv_at hl 2 rfl) ?_
      refine lv_if_ne (tgt := 17) hx hb dX6_goes_10 (by decide) (fun h2 => ?_) (fun h2 => ?_)
      · refine lv_iload_n hx hb dX6_goes_17 rfl (lv_at hl 3 rfl) ?_
        refine lv_if_ne (tgt := 25) hx hb dX6_goes_18 (by decide) (fun h3 => ?_) (fun h3 => ?_)
        · refine lv_iconst (v := 0) hx hb dX6_goes_25 (by decide) ?_
          exact J4 _ ((if_neg h1).trans ((if_neg h2).trans ((if_neg h3).trans rfl))).symm _ hl
        · refine lv_iconst (v := 3) hx hb dX6_goes_21 (by decide) ?_
          refine lv_goto (tgt := 26) hx hb dX6_goes_22 (by decide) ?_
          exact J4 _ ((if_neg h1).trans ((if_neg h2).trans ((if_pos h3).trans rfl))).symm _ hl
      · refine lv_iconst (v := 2) hx hb dX6_goes_13 (by decide) ?_
        refine lv_goto (tgt := 26) hx hb dX6_goes_14 (by decide) ?_
        exact J4 _ ((if_neg h1).trans ((if_pos h2).trans rfl)).symm _ hl
    · refine lv_iconst (v := 1) hx hb dX6_goes_5 (by decide) ?_
      refine lv_goto (tgt := 26) hx hb dX6_goes_6 (by decide) ?_
      exact J4 _ ((if_pos h1).trans rfl).symm _ hl
theorem q_goes_eq (C : gCT) (a b c : Int32) : q_goes C a b c = ((if q_thr a b c = 0 then 1 else 0), cs C 20 0 3 (q_thr a b c)) := by
  have e : (if a = 0 then (1 : Int32) else if b = 0 then 2 else if c = 0 then 3 else 0) = q_thr a b c := rfl
  unfold q_goes
  dsimp only
  rw [e]
  by_cases h : q_thr a b c = 0
  · rw [if_pos h, if_pos h]
  · rw [if_neg h, if_neg h]
theorem c_q_goes1 (l : Launch) (G : gG) (lv : gLv) (ad : gAd) (C : gCT) (n1 n2 n3 : Int32) (hL : gLM lv) (hB : MBI C) : gMi l yX6_goes cX6_goes 4 (some .boolean) (gRm 0 0 0 0) G [.ref (ad 20 0), .int n1, .int n2, .int n3] lv ad (gF G C ad) (gRi G lv ad MBI ((if q_thr n1 n2 n3 = 0 then 1 else 0), cs C 20 0 3 (q_thr n1 n2 n3))) := by
  rw [← q_goes_eq]
  exact c_q_goes l G lv ad C n1 n2 n3 hL hB
def q_thrown (C : gCT)  : Int32 × gCT :=
  let x1 : Int32 := C 20 0 3;
  (x1, C)
set_option maxHeartbeats 4000000 in
set_option maxRecDepth 100000 in
theorem c_q_thrown (l : Launch) (G : gG) (lv : gLv) (ad : gAd) (C : gCT)  (hL : gLM lv) (hB : MBI C)  : gMi l yX6_thrown cX6_thrown 1 (some .int) (gRm 0 0 0 0) G [.ref (ad 20 0)] lv ad (gF G C ad) (gRi G lv ad MBI (q_thrown C )) := by
  refine r_met (own := RX6) (by decide) rfl (Nat.le_of_ble_eq_true rfl) ?_
  intro p e s m below meth c ls X hw hr hlk _ hl
  have hx := X.1.1; have hb := X.1.2.1; have hml := X.1.2.2.1; have hown := X.1.2.2.2.1; have hts := X.1.2.2.2.2
  have hl : lv_has ls 1 [(0, .ref (ad 20 0))] := hl
  refine lv_aload_n hx hb dX6_thrown_0 rfl (lv_at hl 0 rfl) ?_
  refine r_get X hw 20 _ 35 (hL.1) rfl rfl k_X6 (by decide) fl_RX6_106 dX6_thrown_1 ?_
  refine lv_topi (fun x1 ex1 => ?_)
  subst ex1
  exact r_iret X hw hr rfl hlk (Nat.le_of_ble_eq_true rfl) (Nat.le_of_ble_eq_true rfl) (gRE_of (rfl) hB) dX6_thrown_4
def q_ends (C : gCT) (r : Nat) (w : Int32) : gCT :=
  let C1 : gCT := cs C 21 24 r w;
  if w = 5 then (
    let x3 : Int32 := C 20 0 0;
    let x4 : Int32 := C 21 26 r;
    let x5 : Int32 := x3 + x4;
    let C6 : gCT := cs C1 20 0 0 x5;
    let x7 : Int32 := C 21 16 r;
    let x8 : Int32 := C 21 8 x7.toNatClampNeg;
    let x10 : Int32 := x8 + x4;
    let C11 : gCT := cs C6 21 8 x7.toNatClampNeg x10;
    C11
  ) else (
    if w = 4 then (
      let x13 : Int32 := C 20 0 0;
      let x14 : Int32 := C 21 26 r;
      let x15 : Int32 := x13 + x14;
      let C16 : gCT := cs C1 20 0 0 x15;
      let x17 : Int32 := C 21 16 r;
      let x18 : Int32 := C 21 8 x17.toNatClampNeg;
      let x20 : Int32 := x18 + x14;
      let C21 : gCT := cs C16 21 8 x17.toNatClampNeg x20;
      C21
    ) else (
      C1
    )
  )
set_option maxHeartbeats 4000000 in
set_option maxRecDepth 100000 in
theorem c_q_ends (l : Launch) (G : gG) (lv : gLv) (ad : gAd) (C : gCT) (r : Nat) (w : Int32) (hL : gLM lv) (hB : MBI C) (hr24 : r < 24) : gMv l yX6_ends cX6_ends 3 (gRm 0 0 0 0) G [.ref (ad 20 0), .int (nI r), .int w] lv ad (gF G C ad) (gRv G lv ad MBI (q_ends C r w)) := by
  refine r_met (own := RX6) (by decide) rfl (Nat.le_of_ble_eq_true rfl) ?_
  intro p e s m below meth c ls X hw hr hlk _ hl
  have hx := X.1.1; have hb := X.1.2.1; have hml := X.1.2.2.1; have hown := X.1.2.2.2.1; have hts := X.1.2.2.2.2
  have hl : lv_has ls 3 [(0, .ref (ad 20 0)), (1, .int (nI r)), (2, .int w)] := hl
  refine lv_aload_n hx hb dX6_ends_0 rfl (lv_at hl 0 rfl) ?_
  refine r_get X hw 20 _ 24 (hL.1) rfl rfl k_X6 (by decide) fl_RX6_79 dX6_ends_1 ?_
  refine lv_iload_n hx hb dX6_ends_4 rfl (lv_at hl 1 rfl) ?_
  refine lv_iload_n hx hb dX6_ends_5 rfl (lv_at hl 2 rfl) ?_
  refine q_iast X hw 24 (hL.2 24 (by decide) (by decide) (by decide)) (j := r) rfl (show r < 24 by omega) dX6_ends_6 (fun H locs hw => ?_)
  have hB := MBI.set hB (k := 24) (j := r) (v := w) (by decide) (fun h => absurd rfl h)
  refine lv_iload_n hx hb dX6_ends_7 rfl (lv_at hl 2 rfl) ?_
  refine lv_iconst (v := 5) hx hb dX6_ends_8 (by decide) ?_
  refine lv_icmp_eq (tgt := 17) hx hb dX6_ends_9 (by decide) (fun h2 => ?_) (fun h2 => ?_)
  · refine lv_aload_n hx hb dX6_ends_17 rfl (lv_at hl 0 rfl) ?_
    refine lv_dup hx hb dX6_ends_18 rfl ?_
    refine r_get X hw 20 _ 14 (hL.1) rfl rfl k_X6 (by decide) fl_RX6_126 dX6_ends_19 ?_
    refine lv_topi (fun x3 ex3 => ?_)
    have ex3 := ex3.trans (congrFun (congrFun (cs_k _ _ _ _ (by decide)) _) _)
    refine lv_aload_n hx hb dX6_ends_22 rfl (lv_at hl 0 rfl) ?_
    refine r_get X hw 20 _ 26 (hL.1) rfl rfl k_X6 (by decide) fl_RX6_85 dX6_ends_23 ?_
    refine lv_iload_n hx hb dX6_ends_26 rfl (lv_at hl 1 rfl) ?_
    refine q_iald X hw 26 (hL.2 26 (by decide) (by decide) (by decide)) (j := r) rfl (show r < 24 by omega) dX6_ends_27 ?_
    refine lv_topi (fun x4 ex4 => ?_)
    have ex4 := ex4.trans (congrFun (cs_n _ _ _ _ (by decide)) _)
    refine lv_iadd hx hb dX6_ends_28 ?_
    refine lv_topi (fun x5 ex5 => ?_)
    refine s_put X hw 20 _ 14 0 (hL.1) rfl rfl k_X6 (by decide) (Nat.le_of_ble_eq_true rfl) fl_RX6_126 rfl rfl dX6_ends_29 (fun H locs hw => ?_)
    have hB := MBI.set0 hB (j := 0) (v := x5) (by decide)
    refine lv_aload_n hx hb dX6_ends_32 rfl (lv_at hl 0 rfl) ?_
    refine r_get X hw 20 _ 8 (hL.1) rfl rfl k_X6 (by decide) fl_RX6_34 dX6_ends_33 ?_
    refine lv_aload_n hx hb dX6_ends_36 rfl (lv_at hl 0 rfl) ?_
    refine r_get X hw 20 _ 16 (hL.1) rfl rfl k_X6 (by decide) fl_RX6_55 dX6_ends_37 ?_
    refine lv_iload_n hx hb dX6_ends_40 rfl (lv_at hl 1 rfl) ?_
    refine q_iald X hw 16 (hL.2 16 (by decide) (by decide) (by decide)) (j := r) rfl (show r < 24 by omega) dX6_ends_41 ?_
    refine lv_topi (fun x7 ex7 => ?_)
    obtain ⟨px7, bx7⟩ := MBI.get hB 16 r (show r < 24 by omega) (by decide) ex7
    have bx7 : x7.toNatClampNeg < 4 := bx7
    have ex7 := ex7.trans ((congrFun (congrFun (cs_k _ _ _ _ (by decide)) _) _).trans (congrFun (cs_n _ _ _ _ (by decide)) _))
    refine lv_dup2_11 hx hb dX6_ends_42 rfl rfl ?_
    refine q_iald X hw 8 (hL.2 8 (by decide) (by decide) (by decide)) (j := x7.toNatClampNeg) px7 (show x7.toNatClampNeg < 4 by omega) dX6_ends_43 ?_
    refine lv_topi (fun x8 ex8 => ?_)
    have ex8 := ex8.trans ((congrFun (congrFun (cs_k _ _ _ _ (by decide)) _) _).trans (congrFun (cs_n _ _ _ _ (by decide)) _))
    refine lv_aload_n hx hb dX6_ends_44 rfl (lv_at hl 0 rfl) ?_
    refine r_get X hw 20 _ 26 (hL.1) rfl rfl k_X6 (by decide) fl_RX6_85 dX6_ends_45 ?_
    refine lv_iload_n hx hb dX6_ends_48 rfl (lv_at hl 1 rfl) ?_
    refine q_iald X hw 26 (hL.2 26 (by decide) (by decide) (by decide)) (j := r) rfl (show r < 24 by omega) dX6_ends_49 ?_
    refine lv_topi (fun x9 ex9 => ?_)
    have ex9 := (ex9.trans ((congrFun (congrFun (cs_k _ _ _ _ (by decide)) _) _).trans (congrFun (cs_n _ _ _ _ (by decide)) _))).trans ex4.symm; have ex9 := ex9.symm; subst ex9
    refine lv_iadd hx hb dX6_ends_50 ?_
    refine lv_topi (fun x10 ex10 => ?_)
    refine q_iast X hw 8 (hL.2 8 (by decide) (by decide) (by decide)) (j := x7.toNatClampNeg) px7 (show x7.toNatClampNeg < 4 by omega) dX6_ends_51 (fun H locs hw => ?_)
    have hB := MBI.set hB (k := 8) (j := x7.toNatClampNeg) (v := x10) (by decide) (fun h => absurd rfl h)
    subst ex10 ex8 ex7 ex5 ex4 ex3
    exact r_vret X hw hr hlk (Nat.le_of_ble_eq_true rfl) (Nat.le_of_ble_eq_true rfl) (gREv_of ((if_pos h2).trans rfl) hB) dX6_ends_52
  · refine lv_iload_n hx hb dX6_ends_12 rfl (lv_at hl 2 rfl) ?_
    refine lv_iconst (v := 4) hx hb dX6_ends_13 (by decide) ?_
    refine lv_icmp_ne (tgt := 52) hx hb dX6_ends_14 (by decide) (fun h12 => ?_) (fun h12 => ?_)
    · exact r_vret X hw hr hlk (Nat.le_of_ble_eq_true rfl) (Nat.le_of_ble_eq_true rfl) (gREv_of ((if_neg h2).trans ((if_neg h12).trans rfl)) hB) dX6_ends_52
    · refine lv_aload_n hx hb dX6_ends_17 rfl (lv_at hl 0 rfl) ?_
      refine lv_dup hx hb dX6_ends_18 rfl ?_
      refine r_get X hw 20 _ 14 (hL.1) rfl rfl k_X6 (by decide) fl_RX6_126 dX6_ends_19 ?_
      refine lv_topi (fun x13 ex13 => ?_)
      have ex13 := ex13.trans (congrFun (congrFun (cs_k _ _ _ _ (by decide)) _) _)
      refine lv_aload_n hx hb dX6_ends_22 rfl (lv_at hl 0 rfl) ?_
      refine r_get X hw 20 _ 26 (hL.1) rfl rfl k_X6 (by decide) fl_RX6_85 dX6_ends_23 ?_
      refine lv_iload_n hx hb dX6_ends_26 rfl (lv_at hl 1 rfl) ?_
      refine q_iald X hw 26 (hL.2 26 (by decide) (by decide) (by decide)) (j := r) rfl (show r < 24 by omega) dX6_ends_27 ?_
      refine lv_topi (fun x14 ex14 => ?_)
      have ex14 := ex14.trans (congrFun (cs_n _ _ _ _ (by decide)) _)
      refine lv_iadd hx hb dX6_ends_28 ?_
      refine lv_topi (fun x15 ex15 => ?_)
      refine s_put X hw 20 _ 14 0 (hL.1) rfl rfl k_X6 (by decide) (Nat.le_of_ble_eq_true rfl) fl_RX6_126 rfl rfl dX6_ends_29 (fun H locs hw => ?_)
      have hB := MBI.set0 hB (j := 0) (v := x15) (by decide)
      refine lv_aload_n hx hb dX6_ends_32 rfl (lv_at hl 0 rfl) ?_
      refine r_get X hw 20 _ 8 (hL.1) rfl rfl k_X6 (by decide) fl_RX6_34 dX6_ends_33 ?_
      refine lv_aload_n hx hb dX6_ends_36 rfl (lv_at hl 0 rfl) ?_
      refine r_get X hw 20 _ 16 (hL.1) rfl rfl k_X6 (by decide) fl_RX6_55 dX6_ends_37 ?_
      refine lv_iload_n hx hb dX6_ends_40 rfl (lv_at hl 1 rfl) ?_
      refine q_iald X hw 16 (hL.2 16 (by decide) (by decide) (by decide)) (j := r) rfl (show r < 24 by omega) dX6_ends_41 ?_
      refine lv_topi (fun x17 ex17 => ?_)
      obtain ⟨px17, bx17⟩ := MBI.get hB 16 r (show r < 24 by omega) (by decide) ex17
      have bx17 : x17.toNatClampNeg < 4 := bx17
      have ex17 := ex17.trans ((congrFun (congrFun (cs_k _ _ _ _ (by decide)) _) _).trans (congrFun (cs_n _ _ _ _ (by decide)) _))
      refine lv_dup2_11 hx hb dX6_ends_42 rfl rfl ?_
      refine q_iald X hw 8 (hL.2 8 (by decide) (by decide) (by decide)) (j := x17.toNatClampNeg) px17 (show x17.toNatClampNeg < 4 by omega) dX6_ends_43 ?_
      refine lv_topi (fun x18 ex18 => ?_)
      have ex18 := ex18.trans ((congrFun (congrFun (cs_k _ _ _ _ (by decide)) _) _).trans (congrFun (cs_n _ _ _ _ (by decide)) _))
      refine lv_aload_n hx hb dX6_ends_44 rfl (lv_at hl 0 rfl) ?_
      refine r_get X hw 20 _ 26 (hL.1) rfl rfl k_X6 (by decide) fl_RX6_85 dX6_ends_45 ?_
      refine lv_iload_n hx hb dX6_ends_48 rfl (lv_at hl 1 rfl) ?_
      refine q_iald X hw 26 (hL.2 26 (by decide) (by decide) (by decide)) (j := r) rfl (show r < 24 by omega) dX6_ends_49 ?_
      refine lv_topi (fun x19 ex19 => ?_)
      have ex19 := (ex19.trans ((congrFun (congrFun (cs_k _ _ _ _ (by decide)) _) _).trans (congrFun (cs_n _ _ _ _ (by decide)) _))).trans ex14.symm; have ex19 := ex19.symm; subst ex19
      refine lv_iadd hx hb dX6_ends_50 ?_
      refine lv_topi (fun x20 ex20 => ?_)
      refine q_iast X hw 8 (hL.2 8 (by decide) (by decide) (by decide)) (j := x17.toNatClampNeg) px17 (show x17.toNatClampNeg < 4 by omega) dX6_ends_51 (fun H locs hw => ?_)
      have hB := MBI.set hB (k := 8) (j := x17.toNatClampNeg) (v := x20) (by decide) (fun h => absurd rfl h)
      subst ex20 ex18 ex17 ex15 ex14 ex13
      exact r_vret X hw hr hlk (Nat.le_of_ble_eq_true rfl) (Nat.le_of_ble_eq_true rfl) (gREv_of ((if_neg h2).trans ((if_pos h12).trans rfl)) hB) dX6_ends_52
def q_puts (C : gCT) (r : Nat) (v : Int32) : gCT :=
  let x1 : Int32 := C 21 20 r;
  if x1 = 8 then (
    let C7 : gCT := q_ends C r 5;
    C7
  ) else (
    let C4 : gCT := cs C 21 19 ((8 * r) + x1.toNatClampNeg) v;
    let C6 : gCT := cs C4 21 20 r (x1 + 1);
    C6
  )
set_option maxHeartbeats 4000000 in
set_option maxRecDepth 100000 in
theorem c_q_puts (l : Launch) (G : gG) (lv : gLv) (ad : gAd) (C : gCT) (r : Nat) (v : Int32) (hL : gLM lv) (hB : MBI C) (hr24 : r < 24) : gMv l yX6_puts cX6_puts 3 (gRm 1 22 0 0) G [.ref (ad 20 0), .int (nI r), .int v] lv ad (gF G C ad) (gRv G lv ad MBI (q_puts C r v)) := by
  refine r_met (own := RX6) (by decide) rfl (Nat.le_of_ble_eq_true rfl) ?_
  intro p e s m below meth c ls X hw hr hlk _ hl
  have hx := X.1.1; have hb := X.1.2.1; have hml := X.1.2.2.1; have hown := X.1.2.2.2.1; have hts := X.1.2.2.2.2
  have hl : lv_has ls 3 [(0, .ref (ad 20 0)), (1, .int (nI r)), (2, .int v)] := hl
  refine lv_aload_n hx hb dX6_puts_0 rfl (lv_at hl 0 rfl) ?_
  refine r_get X hw 20 _ 20 (hL.1) rfl rfl k_X6 (by decide) fl_RX6_67 dX6_puts_1 ?_
  refine lv_iload_n hx hb dX6_puts_4 rfl (lv_at hl 1 rfl) ?_
  refine q_iald X hw 20 (hL.2 20 (by decide) (by decide) (by decide)) (j := r) rfl (show r < 24 by omega) dX6_puts_5 ?_
  refine lv_topi (fun x1 ex1 => ?_)
  obtain ⟨px1, bx1⟩ := MBI.get hB 20 r (show r < 24 by omega) (by decide) ex1
  have bx1 : x1.toNatClampNeg < 9 := bx1
  refine lv_bipush (v := 8) hx hb dX6_puts_6 (by decide) ?_
  refine lv_icmp_ne (tgt := 18) hx hb dX6_puts_8 (by decide) (fun h2 => ?_) (fun h2 => ?_)
  · have nh2 := (not_congr (nat_eq px1 (show (8 : Int32) = nI 8 from rfl) (by omega) (by omega))).mp h2
    refine lv_aload_n hx hb dX6_puts_18 rfl (lv_at hl 0 rfl) ?_
    refine r_get X hw 20 _ 19 (hL.1) rfl rfl k_X6 (by decide) fl_RX6_64 dX6_puts_19 ?_
    refine lv_bipush (v := 8) hx hb dX6_puts_22 (by decide) ?_
    refine lv_iload_n hx hb dX6_puts_24 rfl (lv_at hl 1 rfl) ?_
    refine lv_imul hx hb dX6_puts_25 ?_
    refine lv_aload_n hx hb dX6_puts_26 rfl (lv_at hl 0 rfl) ?_
    refine r_get X hw 20 _ 20 (hL.1) rfl rfl k_X6 (by decide) fl_RX6_67 dX6_puts_27 ?_
    refine lv_iload_n hx hb dX6_puts_30 rfl (lv_at hl 1 rfl) ?_
    refine q_iald X hw 20 (hL.2 20 (by decide) (by decide) (by decide)) (j := r) rfl (show r < 24 by omega) dX6_puts_31 ?_
    refine lv_topi (fun x3 ex3 => ?_)
    have ex3 := (ex3).trans ex1.symm; have ex3 := ex3.symm; subst ex3
    refine lv_iadd hx hb dX6_puts_32 ?_
    refine lv_iload_n hx hb dX6_puts_33 rfl (lv_at hl 2 rfl) ?_
    refine q_iast X hw 19 (hL.2 19 (by decide) (by decide) (by decide)) (j := ((8 * r) + x1.toNatClampNeg)) (nat_add (nat_mul (show (8 : Int32) = nI 8 from rfl) rfl) px1) (show ((8 * r) + x1.toNatClampNeg) < 192 by omega) dX6_puts_34 (fun H locs hw => ?_)
    have hB := MBI.set hB (k := 19) (j := ((8 * r) + x1.toNatClampNeg)) (v := v) (by decide) (fun h => absurd rfl h)
    refine lv_aload_n hx hb dX6_puts_35 rfl (lv_at hl 0 rfl) ?_
    refine r_get X hw 20 _ 20 (hL.1) rfl rfl k_X6 (by decide) fl_RX6_67 dX6_puts_36 ?_
    refine lv_iload_n hx hb dX6_puts_39 rfl (lv_at hl 1 rfl) ?_
    refine lv_dup2_11 hx hb dX6_puts_40 rfl rfl ?_
    refine q_iald X hw 20 (hL.2 20 (by decide) (by decide) (by decide)) (j := r) rfl (show r < 24 by omega) dX6_puts_41 ?_
    refine lv_topi (fun x5 ex5 => ?_)
    have ex5 := (ex5.trans (congrFun (cs_n _ _ _ _ (by decide)) _)).trans ex1.symm; have ex5 := ex5.symm; subst ex5
    refine lv_iconst (v := 1) hx hb dX6_puts_42 (by decide) ?_
    refine lv_iadd hx hb dX6_puts_43 ?_
    refine q_iast X hw 20 (hL.2 20 (by decide) (by decide) (by decide)) (j := r) rfl (show r < 24 by omega) dX6_puts_44 (fun H locs hw => ?_)
    have hB := MBI.set hB (k := 20) (j := r) (v := x1 + 1) (by decide) (fun _ => ⟨(x1.toNatClampNeg + 1), by show _ < 9; omega, (nat_add px1 (show (1 : Int32) = nI 1 from rfl))⟩)
    subst ex1
    exact r_vret X hw hr hlk (Nat.le_of_ble_eq_true rfl) (Nat.le_of_ble_eq_true rfl) (gREv_of ((if_neg h2).trans rfl) hB) dX6_puts_45
  · have nh2 := (nat_eq px1 (show (8 : Int32) = nI 8 from rfl) (by omega) (by omega)).mp h2
    refine lv_aload_n hx hb dX6_puts_11 rfl (lv_at hl 0 rfl) ?_
    refine lv_iload_n hx hb dX6_puts_12 rfl (lv_at hl 1 rfl) ?_
    refine lv_iconst (v := 5) hx hb dX6_puts_13 (by decide) ?_
    refine r_qv X hw (r_runV X (c_q_ends l G lv ad _ r 5 hL hB hr24 _) cy_X6_ends ml_RX6_129 ⟨(Nat.le_of_ble_eq_true rfl), (Nat.le_of_ble_eq_true rfl)⟩ gP.blind (g_recv X hw 20 0 hL.1 rfl rfl) (gP_call X hw _) rfl hl.1 rfl (Nat.le_of_ble_eq_true rfl) dX6_puts_14 ⟨(Nat.le_of_ble_eq_true rfl), (Nat.le_of_ble_eq_true rfl)⟩) (fun H locs hB hw => ?_)
    subst ex1
    exact r_vret X hw hr hlk (Nat.le_of_ble_eq_true rfl) (Nat.le_of_ble_eq_true rfl) (gREv_of ((if_pos h2).trans rfl) hB) dX6_puts_17
def q_takes (C : gCT) (r : Nat) : Int32 × gCT :=
  let x1 : Int32 := C 21 20 r;
  if x1 = 0 then (
    let C7 : gCT := q_ends C r 5;
    (0, C7)
  ) else (
    let C4 : gCT := cs C 21 20 r (x1 - 1);
    let x6 : Int32 := C 21 19 ((8 * r) + (x1.toNatClampNeg - 1));
    (x6, C4)
  )
set_option maxHeartbeats 4000000 in
set_option maxRecDepth 100000 in
theorem c_q_takes (l : Launch) (G : gG) (lv : gLv) (ad : gAd) (C : gCT) (r : Nat) (hL : gLM lv) (hB : MBI C) (hr24 : r < 24) : gMi l yX6_takes cX6_takes 2 (some .int) (gRm 1 22 0 0) G [.ref (ad 20 0), .int (nI r)] lv ad (gF G C ad) (gRi G lv ad MBI (q_takes C r)) := by
  refine r_met (own := RX6) (by decide) rfl (Nat.le_of_ble_eq_true rfl) ?_
  intro p e s m below meth c ls X hw hr hlk _ hl
  have hx := X.1.1; have hb := X.1.2.1; have hml := X.1.2.2.1; have hown := X.1.2.2.2.1; have hts := X.1.2.2.2.2
  have hl : lv_has ls 2 [(0, .ref (ad 20 0)), (1, .int (nI r))] := hl
  refine lv_aload_n hx hb dX6_takes_0 rfl (lv_at hl 0 rfl) ?_
  refine r_get X hw 20 _ 20 (hL.1) rfl rfl k_X6 (by decide) fl_RX6_67 dX6_takes_1 ?_
  refine lv_iload_n hx hb dX6_takes_4 rfl (lv_at hl 1 rfl) ?_
  refine q_iald X hw 20 (hL.2 20 (by decide) (by decide) (by decide)) (j := r) rfl (show r < 24 by omega) dX6_takes_5 ?_
  refine lv_topi (fun x1 ex1 => ?_)
  obtain ⟨px1, bx1⟩ := MBI.get hB 20 r (show r < 24 by omega) (by decide) ex1
  have bx1 : x1.toNatClampNeg < 9 := bx1
  refine lv_if_ne (tgt := 17) hx hb dX6_takes_6 (by decide) (fun h2 => ?_) (fun h2 => ?_)
  · have nh2 := (not_congr (nat_eq px1 (show (0 : Int32) = nI 0 from rfl) (by omega) (by omega))).mp h2
    refine lv_aload_n hx hb dX6_takes_17 rfl (lv_at hl 0 rfl) ?_
    refine r_get X hw 20 _ 20 (hL.1) rfl rfl k_X6 (by decide) fl_RX6_67 dX6_takes_18 ?_
    refine lv_iload_n hx hb dX6_takes_21 rfl (lv_at hl 1 rfl) ?_
    refine lv_dup2_11 hx hb dX6_takes_22 rfl rfl ?_
    refine q_iald X hw 20 (hL.2 20 (by decide) (by decide) (by decide)) (j := r) rfl (show r < 24 by omega) dX6_takes_23 ?_
    refine lv_topi (fun x3 ex3 => ?_)
    have ex3 := (ex3).trans ex1.symm; have ex3 := ex3.symm; subst ex3
    refine lv_iconst (v := 1) hx hb dX6_takes_24 (by decide) ?_
    refine lv_isub hx hb dX6_takes_25 ?_
    refine q_iast X hw 20 (hL.2 20 (by decide) (by decide) (by decide)) (j := r) rfl (show r < 24 by omega) dX6_takes_26 (fun H locs hw => ?_)
    have hB := MBI.set hB (k := 20) (j := r) (v := x1 - 1) (by decide) (fun _ => ⟨(x1.toNatClampNeg - 1), by show _ < 9; omega, (nat_sub px1 (show (1 : Int32) = nI 1 from rfl) (by omega))⟩)
    refine lv_aload_n hx hb dX6_takes_27 rfl (lv_at hl 0 rfl) ?_
    refine r_get X hw 20 _ 19 (hL.1) rfl rfl k_X6 (by decide) fl_RX6_64 dX6_takes_28 ?_
    refine lv_bipush (v := 8) hx hb dX6_takes_31 (by decide) ?_
    refine lv_iload_n hx hb dX6_takes_33 rfl (lv_at hl 1 rfl) ?_
    refine lv_imul hx hb dX6_takes_34 ?_
    refine lv_aload_n hx hb dX6_takes_35 rfl (lv_at hl 0 rfl) ?_
    refine r_get X hw 20 _ 20 (hL.1) rfl rfl k_X6 (by decide) fl_RX6_67 dX6_takes_36 ?_
    refine lv_iload_n hx hb dX6_takes_39 rfl (lv_at hl 1 rfl) ?_
    refine q_iald X hw 20 (hL.2 20 (by decide) (by decide) (by decide)) (j := r) rfl (show r < 24 by omega) dX6_takes_40 ?_
    refine lv_topi (fun x5 ex5 => ?_)
    have ex5 := ex5.trans (cs_s _ _ _ _ _); subst ex5
    refine lv_iadd hx hb dX6_takes_41 ?_
    refine q_iald X hw 19 (hL.2 19 (by decide) (by decide) (by decide)) (j := ((8 * r) + (x1.toNatClampNeg - 1))) (nat_add (nat_mul (show (8 : Int32) = nI 8 from rfl) rfl) (nat_sub px1 (show (1 : Int32) = nI 1 from rfl) (by omega))) (show ((8 * r) + (x1.toNatClampNeg - 1)) < 192 by omega) dX6_takes_42 ?_
    refine lv_topi (fun x6 ex6 => ?_)
    have ex6 := ex6.trans (congrFun (cs_n _ _ _ _ (by decide)) _)
    subst ex6 ex1
    exact r_iret X hw hr rfl hlk (Nat.le_of_ble_eq_true rfl) (Nat.le_of_ble_eq_true rfl) (gRE_of ((if_neg h2).trans rfl) hB) dX6_takes_43
  · have nh2 := (nat_eq px1 (show (0 : Int32) = nI 0 from rfl) (by omega) (by omega)).mp h2
    refine lv_aload_n hx hb dX6_takes_9 rfl (lv_at hl 0 rfl) ?_
    refine lv_iload_n hx hb dX6_takes_10 rfl (lv_at hl 1 rfl) ?_
    refine lv_iconst (v := 5) hx hb dX6_takes_11 (by decide) ?_
    refine r_qv X hw (r_runV X (c_q_ends l G lv ad _ r 5 hL hB hr24 _) cy_X6_ends ml_RX6_129 ⟨(Nat.le_of_ble_eq_true rfl), (Nat.le_of_ble_eq_true rfl)⟩ gP.blind (g_recv X hw 20 0 hL.1 rfl rfl) (gP_call X hw _) rfl hl.1 rfl (Nat.le_of_ble_eq_true rfl) dX6_takes_12 ⟨(Nat.le_of_ble_eq_true rfl), (Nat.le_of_ble_eq_true rfl)⟩) (fun H locs hB hw => ?_)
    refine lv_iconst (v := 0) hx hb dX6_takes_15 (by decide) ?_
    subst ex1
    exact r_iret X hw hr rfl hlk (Nat.le_of_ble_eq_true rfl) (Nat.le_of_ble_eq_true rfl) (gRE_of ((if_pos h2).trans rfl) hB) dX6_takes_16
def q_isRun (C : gCT) (n1 : Int32) : Int32 × gCT :=
  let x1 : Int32 := C 20 0 1;
  let x2 : Int32 := q_isBelow n1 x1;
  (x2, C)
set_option maxHeartbeats 4000000 in
set_option maxRecDepth 100000 in
theorem c_q_isRun (l : Launch) (G : gG) (lv : gLv) (ad : gAd) (C : gCT) (n1 : Int32) (hL : gLM lv) (hB : MBI C)  : gMi l yX6_isRun cX6_isRun 2 (some .boolean) (gRm 1 21 0 0) G [.ref (ad 20 0), .int n1] lv ad (gF G C ad) (gRi G lv ad MBI (q_isRun C n1)) := by
  refine r_met (own := RX6) (by decide) rfl (Nat.le_of_ble_eq_true rfl) ?_
  intro p e s m below meth c ls X hw hr hlk _ hl
  have hx := X.1.1; have hb := X.1.2.1; have hml := X.1.2.2.1; have hown := X.1.2.2.2.1; have hts := X.1.2.2.2.2
  have hl : lv_has ls 2 [(0, .ref (ad 20 0)), (1, .int n1)] := hl
  refine lv_iload_n hx hb dX6_isRun_0 rfl (lv_at hl 1 rfl) ?_
  refine lv_aload_n hx hb dX6_isRun_1 rfl (lv_at hl 0 rfl) ?_
  refine r_get X hw 20 _ 29 (hL.1) rfl rfl k_X6 (by decide) fl_RX6_174 dX6_isRun_2 ?_
  refine lv_topi (fun x1 ex1 => ?_)
  obtain ⟨px1, bx1⟩ := MBI.runs hB ex1
  refine r_rp (r_runS X (c_q_isBelow l n1 x1) cy_X6_isBelow ml_RX6_114 ⟨(Nat.le_of_ble_eq_true rfl), (Nat.le_of_ble_eq_true rfl)⟩ gPc_blind (fun _ _ _ => ⟨rfl, trivial⟩) rfl hl.1 rfl (Nat.le_of_ble_eq_true rfl) dX6_isRun_5 ⟨(Nat.le_of_ble_eq_true rfl), (Nat.le_of_ble_eq_true rfl)⟩) ?_
  refine lv_topi (fun x2 ex2 => ?_)
  subst ex2 ex1
  exact r_iret X hw hr (nar_z (by subst_vars; exact q_isBelow_01 _ _)) hlk (Nat.le_of_ble_eq_true rfl) (Nat.le_of_ble_eq_true rfl) (gRE_of (rfl) hB) dX6_isRun_8

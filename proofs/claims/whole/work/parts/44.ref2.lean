theorem q_isWithin1_of {x n : Int32} {N : Nat} (hn : n = nI N) (hN : N < 2 ^ 31) (h : ¬ q_isWithin x 1 n = 0) : x = nI x.toNatClampNeg ∧ x.toNatClampNeg ≤ N := by
  refine q_isWithin_of hn hN (fun q => h ?_)
  unfold q_isWithin at q ⊢
  by_cases h1 : x < 0
  · rw [if_pos (Int32.lt_trans h1 (by decide))]
  · rw [if_neg h1] at q
    by_cases h2 : n < x
    · rw [if_pos h2]; split <;> rfl
    · rw [if_neg h2] at q; exact absurd q (by decide)
theorem q_isRun_C (C : gCT) (n1 : Int32) : (q_isRun C n1).2 = C := rfl
theorem q_isRun_1 (C : gCT) (n1 : Int32) : (q_isRun C n1).1 = q_isBelow n1 (C 20 0 1) := rfl
theorem q_isRun_of {C : gCT} (hB : MBI C) {n : Int32} (h : ¬ (q_isRun C n).1 = 0) : n = nI n.toNatClampNeg ∧ n.toNatClampNeg < 24 ∧ n.toNatClampNeg < (C 20 0 1).toNatClampNeg := by
  obtain ⟨h1, h2⟩ := hB.runs (x := C 20 0 1) rfl
  obtain ⟨h3, h4⟩ := q_isBelow_of h1 (by omega) h
  exact ⟨h3, by omega, h4⟩
def q_answerOf_L (n0 : Nat) (C : gCT) (r w : Nat) (v : Int32) (lf : Int32) (fd : Int32) (k : Nat) : Int32 × gCT := match n0 with
  | 0 => (0, C)
  | n0 + 1 =>
    let x101 : Int32 := C 20 0 2;
    if x101 ≤ (nI k) then (
      (fd, C)
    ) else (
      let x103 : Int32 := C 21 30 k;
      let x111 : Int32 :=
        if x103 = (nI r) then (
          let x105 : Int32 := C 21 31 k;
          if x105 = (nI w) then (
            let x107 : Int32 := C 21 32 k;
            let x108 : Int32 := C 21 27 ((16 * r) + w);
            if x107 = x108 then (
              1
            ) else (
              0
            )
          ) else (
            0
          )
        ) else (
          0
        );
      let x114 : Int32 :=
        if x111 = 0 then (
          0
        ) else (
          1
        );
      let x115 : Int32 := lf - x114;
      let x119 : Int32 :=
        if x111 = 0 then (
          fd
        ) else (
          if x115 = 0 then (
            nI k
          ) else (
            fd
          )
        );
      q_answerOf_L n0 C r w v x115 x119 (k + 1)
    )
def q_answerOf (C : gCT) (r w : Nat) (v : Int32) : Int32 × gCT :=
  q_answerOf_L 513 C r w v v (-1) 0
set_option maxHeartbeats 4000000 in
set_option maxRecDepth 100000 in
theorem c_q_answerOf (l : Launch) (G : gG) (lv : gLv) (ad : gAd) (C : gCT) (r w : Nat) (v : Int32) (hL : gLM lv) (hB : MBI C) (hr24 : r < 24) (hw16 : w < 16) : gMi l yX6_answerOf cX6_answerOf 8 (some .int) (gRm 0 0 0 0) G [.ref (ad 20 0), .int (nI r), .int (nI w), .int v] lv ad (gF G C ad) (gRi G lv ad MBI (q_answerOf C r w v)) := by
  refine r_met (own := RX6) (by decide) rfl (Nat.le_of_ble_eq_true rfl) ?_
  intro p e s m below meth c ls X hw hr hlk _ hl
  have hx := X.1.1; have hb := X.1.2.1; have hml := X.1.2.2.1; have hown := X.1.2.2.2.1; have hts := X.1.2.2.2.2
  have hl : lv_has ls 8 [(0, .ref (ad 20 0)), (1, .int (nI r)), (2, .int (nI w)), (3, .int v)] := hl
  have L_q_answerOf_L : ∀ (n0 : Nat) (lf : Int32) (fd : Int32) (k : Nat), MBI C → (k ≤ (C 20 0 2).toNatClampNeg ∧ (C 20 0 2).toNatClampNeg < k + n0) → ∀ (H : Heap) (locs : List Loc), gW G (gA lv ad s.heap.size) s.heap H locs lv ad (gF G C ad) → ∀ ls : Array Slot, lv_has ls 8 [(0, .ref (ad 20 0)), (1, .int (nI r)), (2, .int (nI w)), (3, .int v), (4, .int lf), (5, .int fd), (6, .int (nI k))] → W p l e (gRm 0 0 0 0) s m ([.ref (ad 20 0), .int (nI r), .int (nI w), .int v] : List Value).toArray below meth c H locs 0 0 (MQ below (gQi G (gA lv ad s.heap.size) (gRi G lv ad MBI (q_answerOf_L n0 C r w v lf fd k))) ([.ref (ad 20 0), .int (nI r), .int (nI w), .int v] : List Value).toArray s (gRm 0 0 0 0).cells (gRm 0 0 0 0).slots (gA lv ad s.heap.size)) (F0 m 9 ls []) := by
    intro n0
    induction n0 with
    | zero => intro lf fd k _ hinv; exact absurd hinv (by rintro ⟨h1, h2⟩; omega)
    | succ n0 ih =>
      intro lf fd k hB hinv H locs hw ls hl
      obtain ⟨hi1, hi2⟩ := hinv; have hi0 := (hB.answers (x := C 20 0 2) rfl).2
      refine lv_iload hx hb dX6_answerOf_9 (lv_at hl 6 rfl) ?_
      refine lv_aload_n hx hb dX6_answerOf_11 rfl (lv_at hl 0 rfl) ?_
      refine r_get X hw 20 _ 34 (hL.1) rfl rfl k_X6 (by decide) fl_RX6_133 dX6_answerOf_12 ?_
      refine lv_topi (fun x101 ex101 => ?_)
      obtain ⟨px101, bx101⟩ := MBI.answers hB ex101
      refine lv_icmp_ge (tgt := 108) hx hb dX6_answerOf_15 (by decide) (fun h102 => ?_) (fun h102 => ?_)
      · have nh102 := (nat_le px101 rfl (by omega) (by omega)).mp h102
        refine lv_iload hx hb dX6_answerOf_108 (lv_at hl 5 rfl) ?_
        subst ex101
        exact r_iret X hw hr rfl hlk (Nat.le_of_ble_eq_true rfl) (Nat.le_of_ble_eq_true rfl) (gRE_of ((if_pos h102).trans rfl) hB) dX6_answerOf_110
      · have nh102 := (not_congr (nat_le px101 rfl (by omega) (by omega))).mp h102
        refine lv_aload_n hx hb dX6_answerOf_18 rfl (lv_at hl 0 rfl) ?_
        refine r_get X hw 20 _ 30 (hL.1) rfl rfl k_X6 (by decide) fl_RX6_94 dX6_answerOf_19 ?_
        refine lv_iload hx hb dX6_answerOf_22 (lv_at hl 6 rfl) ?_
        refine q_iald X hw 30 (hL.2 30 (by decide) (by decide) (by decide)) (j := k) rfl (show k < 1024 by omega) dX6_answerOf_24 ?_
        refine lv_topi (fun x103 ex103 => ?_)
        refine lv_iload_n hx hb dX6_answerOf_25 rfl (lv_at hl 1 rfl) ?_
        refine r_J (nL := 8) (J := 66) (rest := []) (L := [(0, .ref (ad 20 0)), (1, .int (nI r)), (2, .int (nI w)), (3, .int v), (4, .int lf), (5, .int fd), (6, .int (nI k))]) (if x103 = (nI r) then ( let x105 : Int32 := C 21 31 k; if x105 = (nI w) then ( let x107 : Int32 := C 21 32 k; let x108 : Int32 := C 21 27 ((16 * r) + w); if x107 = x108 then ( 1 ) else ( 0 ) ) else ( 0 ) ) else ( 0 )) (fun x111 ex111 ls hl => ?_) (fun J110 => ?_)
        · refine lv_istore (lv' := [(7, .int x111), (0, .ref (ad 20 0)), (1, .int (nI r)), (2, .int (nI w)), (3, .int v), (4, .int lf), (5, .int fd), (6, .int (nI k))]) hx hb dX6_answerOf_66 hl (by decide) rfl (fun ls hl => ?_)
          refine lv_iload hx hb dX6_answerOf_68 (lv_at hl 5 rfl) ?_
          refine lv_iload hx hb dX6_answerOf_70 (lv_at hl 0 rfl) ?_
          refine r_J (nL := 8) (J := 80) (rest := [.int lf]) (L := [(7, .int x111), (0, .ref (ad 20 0)), (1, .int (nI r)), (2, .int (nI w)), (3, .int v), (4, .int lf), (5, .int fd), (6, .int (nI k))]) (if x111 = 0 then ( 0 ) else ( 1 )) (fun x114 ex114 ls hl => ?_) (fun J113 => ?_)
          · refine lv_isub hx hb dX6_answerOf_80 ?_
            refine lv_topi (fun x115 ex115 => ?_)
            refine lv_istore (lv' := [(4, .int x115), (7, .int x111), (0, .ref (ad 20 0)), (1, .int (nI r)), (2, .int (nI w)), (3, .int v), (5, .int fd), (6, .int (nI k))]) hx hb dX6_answerOf_81 hl (by decide) rfl (fun ls hl => ?_)
            refine lv_iload hx hb dX6_answerOf_83 (lv_at hl 1 rfl) ?_
            refine r_J (nL := 8) (J := 100) (rest := []) (L := [(4, .int x115), (7, .int x111), (0, .ref (ad 20 0)), (1, .int (nI r)), (2, .int (nI w)), (3, .int v), (5, .int fd), (6, .int (nI k))]) (if x111 = 0 then ( fd ) else ( if x115 = 0 then ( nI k ) else ( fd ) )) (fun x119 ex119 ls hl => ?_) (fun J118 => ?_)
            · refine lv_istore (lv' := [(5, .int x119), (4, .int x115), (7, .int x111), (0, .ref (ad 20 0)), (1, .int (nI r)), (2, .int (nI w)), (3, .int v), (6, .int (nI k))]) hx hb dX6_answerOf_100 hl (by decide) rfl (fun ls hl => ?_)
              refine lv_iinc (v := nI (k + 1)) (lv' := [(6, .int (nI (k + 1))), (5, .int x119), (4, .int x115), (7, .int x111), (0, .ref (ad 20 0)), (1, .int (nI r)), (2, .int (nI w)), (3, .int v)]) hx hb dX6_answerOf_102 hl (k := 7) rfl (by rw [← nI_1]; rfl) (by decide) rfl (fun ls hl => ?_)
              refine lv_goto (tgt := 9) hx hb dX6_answerOf_105 (by decide) ?_
              subst ex119 ex115 ex114 ex111 ex103 ex101
              exact r_toQI (ih _ _ (k + 1) hB (⟨by omega, by omega⟩) _ _ hw _ (lv_sub hl [4, 5, 6, 7, 2, 1, 0] rfl)) ((if_neg h102).trans rfl)
            · refine lv_if_eq (tgt := 98) hx hb dX6_answerOf_85 (by decide) (fun h116 => ?_) (fun h116 => ?_)
              · refine lv_iload hx hb dX6_answerOf_98 (lv_at hl 6 rfl) ?_
                exact J118 _ ((if_pos h116).trans rfl).symm _ hl
              · refine lv_iload hx hb dX6_answerOf_88 (lv_at hl 0 rfl) ?_
                refine lv_if_ne (tgt := 98) hx hb dX6_answerOf_90 (by decide) (fun h117 => ?_) (fun h117 => ?_)
                · refine lv_iload hx hb dX6_answerOf_98 (lv_at hl 6 rfl) ?_
                  exact J118 _ ((if_neg h116).trans ((if_neg h117).trans rfl)).symm _ hl
                · refine lv_iload hx hb dX6_answerOf_93 (lv_at hl 7 rfl) ?_
                  refine lv_goto (tgt := 100) hx hb dX6_answerOf_95 (by decide) ?_
                  exact J118 _ ((if_neg h116).trans ((if_pos h117).trans rfl)).symm _ hl
          · refine lv_if_eq (tgt := 79) hx hb dX6_answerOf_72 (by decide) (fun h112 => ?_) (fun h112 => ?_)
            · refine lv_iconst (v := 0) hx hb dX6_answerOf_79 (by decide) ?_
              exact J113 _ ((if_pos h112).trans rfl).symm _ hl
            · refine lv_iconst (v := 1) hx hb dX6_answerOf_75 (by decide) ?_
              refine lv_goto (tgt := 80) hx hb dX6_answerOf_76 (by decide) ?_
              exact J113 _ ((if_neg h112).trans rfl).symm _ hl
        · refine lv_icmp_ne (tgt := 65) hx hb dX6_answerOf_26 (by decide) (fun h104 => ?_) (fun h104 => ?_)
          · refine lv_iconst (v := 0) hx hb dX6_answerOf_65 (by decide) ?_
            exact J110 _ ((if_neg h104).trans rfl).symm _ hl
          · refine lv_aload_n hx hb dX6_answerOf_29 rfl (lv_at hl 0 rfl) ?_
            refine r_get X hw 20 _ 31 (hL.1) rfl rfl k_X6 (by decide) fl_RX6_97 dX6_answerOf_30 ?_
            refine lv_iload hx hb dX6_answerOf_33 (lv_at hl 6 rfl) ?_
            refine q_iald X hw 31 (hL.2 31 (by decide) (by decide) (by decide)) (j := k) rfl (show k < 1024 by omega) dX6_answerOf_35 ?_
            refine lv_topi (fun x105 ex105 => ?_)
            obtain ⟨px105, bx105⟩ := MBI.get hB 31 k (show k < 1024 by omega) (by decide) ex105
            have bx105 : x105.toNatClampNeg < 16 := bx105
            refine lv_iload_n hx hb dX6_answerOf_36 rfl (lv_at hl 2 rfl) ?_
            refine lv_icmp_ne (tgt := 65) hx hb dX6_answerOf_37 (by decide) (fun h106 => ?_) (fun h106 => ?_)
            · have nh106 := (not_congr (nat_eq px105 rfl (by omega) (by omega))).mp h106
              refine lv_iconst (v := 0) hx hb dX6_answerOf_65 (by decide) ?_
              subst ex105; exact J110 _ ((if_pos h104).trans ((if_neg h106).trans rfl)).symm _ hl
            · have nh106 := (nat_eq px105 rfl (by omega) (by omega)).mp h106
              refine lv_aload_n hx hb dX6_answerOf_40 rfl (lv_at hl 0 rfl) ?_
              refine r_get X hw 20 _ 32 (hL.1) rfl rfl k_X6 (by decide) fl_RX6_100 dX6_answerOf_41 ?_
              refine lv_iload hx hb dX6_answerOf_44 (lv_at hl 6 rfl) ?_
              refine q_iald X hw 32 (hL.2 32 (by decide) (by decide) (by decide)) (j := k) rfl (show k < 1024 by omega) dX6_answerOf_46 ?_
              refine lv_topi (fun x107 ex107 => ?_)
              refine lv_aload_n hx hb dX6_answerOf_47 rfl (lv_at hl 0 rfl) ?_
              refine r_get X hw 20 _ 27 (hL.1) rfl rfl k_X6 (by decide) fl_RX6_88 dX6_answerOf_48 ?_
              refine lv_bipush (v := 16) hx hb dX6_answerOf_51 (by decide) ?_
              refine lv_iload_n hx hb dX6_answerOf_53 rfl (lv_at hl 1 rfl) ?_
              refine lv_imul hx hb dX6_answerOf_54 ?_
              refine lv_iload_n hx hb dX6_answerOf_55 rfl (lv_at hl 2 rfl) ?_
              refine lv_iadd hx hb dX6_answerOf_56 ?_
              refine q_iald X hw 27 (hL.2 27 (by decide) (by decide) (by decide)) (j := ((16 * r) + w)) (nat_add (nat_mul (show (16 : Int32) = nI 16 from rfl) rfl) rfl) (show ((16 * r) + w) < 384 by omega) dX6_answerOf_57 ?_
              refine lv_topi (fun x108 ex108 => ?_)
              refine lv_icmp_ne (tgt := 65) hx hb dX6_answerOf_58 (by decide) (fun h109 => ?_) (fun h109 => ?_)
              · refine lv_iconst (v := 0) hx hb dX6_answerOf_65 (by decide) ?_
                subst ex108 ex107 ex105; exact J110 _ ((if_pos h104).trans ((if_pos h106).trans ((if_neg h109).trans rfl))).symm _ hl
              · refine lv_iconst (v := 1) hx hb dX6_answerOf_61 (by decide) ?_
                refine lv_goto (tgt := 66) hx hb dX6_answerOf_62 (by decide) ?_
                subst ex108 ex107 ex105; exact J110 _ ((if_pos h104).trans ((if_pos h106).trans ((if_pos h109).trans rfl))).symm _ hl
  refine lv_iload_n hx hb dX6_answerOf_0 rfl (lv_at hl 3 rfl) ?_
  refine lv_istore (lv' := [(4, .int v), (0, .ref (ad 20 0)), (1, .int (nI r)), (2, .int (nI w)), (3, .int v)]) hx hb dX6_answerOf_1 hl (by decide) rfl (fun ls hl => ?_)
  refine lv_iconst (v := (-1)) hx hb dX6_answerOf_3 (by decide) ?_
  refine lv_istore (lv' := [(5, .int (-1)), (4, .int v), (0, .ref (ad 20 0)), (1, .int (nI r)), (2, .int (nI w)), (3, .int v)]) hx hb dX6_answerOf_4 hl (by decide) rfl (fun ls hl => ?_)
  refine lv_iconst (v := 0) hx hb dX6_answerOf_6 (by decide) ?_
  refine lv_istore (lv' := [(6, .int 0), (5, .int (-1)), (4, .int v), (0, .ref (ad 20 0)), (1, .int (nI r)), (2, .int (nI w)), (3, .int v)]) hx hb dX6_answerOf_7 hl (by decide) rfl (fun ls hl => ?_)
  exact r_toQI (L_q_answerOf_L 513 _ _ 0 hB (⟨Nat.zero_le _, by have := (hB.answers rfl).2; omega⟩) _ _ hw _ (lv_sub hl [3, 4, 5, 6, 2, 1, 0] rfl)) (rfl)
theorem q_answerOf_L_C (n0 : Nat) (C : gCT) (r w : Nat) (v lf fd : Int32) (k : Nat) : (q_answerOf_L n0 C r w v lf fd k).2 = C := by
  induction n0 generalizing lf fd k with
  | zero => rfl
  | succ n0 ih =>
    unfold q_answerOf_L
    dsimp only
    split
    · rfl
    · exact ih _ _ _
theorem q_answerOf_C (C : gCT) (r w : Nat) (v : Int32) : (q_answerOf C r w v).2 = C := q_answerOf_L_C _ _ _ _ _ _ _ _
theorem q_answerOf_L_in (n0 : Nat) (C : gCT) (hB : MBI C) (r w : Nat) (v lf fd : Int32) (k : Nat) (hk0 : k + n0 ≤ 513) (h : fd = -1 ∨ ∃ d, d < 513 ∧ fd = nI d) : (q_answerOf_L n0 C r w v lf fd k).1 < 0 ∨ ∃ d, d < 513 ∧ (q_answerOf_L n0 C r w v lf fd k).1 = nI d := by
  induction n0 generalizing lf fd k with
  | zero => exact Or.inr ⟨0, by decide, rfl⟩
  | succ n0 ih =>
    unfold q_answerOf_L
    dsimp only
    split
    · rcases h with rfl | h
      · exact Or.inl (show (-1 : Int32) < 0 by decide)
      · exact Or.inr h
    · refine ih _ _ _ (by omega) ?_
      repeat' split
      all_goals first | exact h | exact Or.inr ⟨k, by omega, rfl⟩
theorem q_answerOf_of {C : gCT} (hB : MBI C) {r w : Nat} {v x : Int32} (ex : x = (q_answerOf C r w v).1) (h : ¬ x < 0) : x = nI x.toNatClampNeg ∧ x.toNatClampNeg < 513 := by
  rcases q_answerOf_L_in 513 C hB r w v v (-1) 0 (by omega) (Or.inl rfl) with q | ⟨d, h1, h2⟩
  · exact absurd (by rw [ex]; exact q) h
  · have e : x = nI d := ex.trans h2
    rw [e, nI_clamp (by omega)]
    exact ⟨rfl, h1⟩
def q_asks (C : gCT) (r w : Nat) : gCT :=
  let x1 : Int32 := C 21 28 ((16 * r) + w);
  let x2 : Int32 := x1 + 1;
  let C3 : gCT := cs C 21 28 ((16 * r) + w) x2;
  let x5 : Int32 := (q_answerOf C3 r w x2).1;
  if x5 < 0 then (
    let C7 : gCT := cs C3 21 24 r 0;
    let C8 : gCT := cs C7 21 25 r (nI w);
    C8
  ) else (
    let x9 : Int32 := C 21 33 x5.toNatClampNeg;
    let C10 : gCT := q_puts C3 r x9;
    C10
  )
set_option maxHeartbeats 4000000 in
set_option maxRecDepth 100000 in
theorem c_q_asks (l : Launch) (G : gG) (lv : gLv) (ad : gAd) (C : gCT) (r w : Nat) (hL : gLM lv) (hB : MBI C) (hr24 : r < 24) (hw16 : w < 16) : gMv l yX6_asks cX6_asks 4 (gRm 2 44 0 0) G [.ref (ad 20 0), .int (nI r), .int (nI w)] lv ad (gF G C ad) (gRv G lv ad MBI (q_asks C r w)) := by
  refine r_met (own := RX6) (by decide) rfl (Nat.le_of_ble_eq_true rfl) ?_
  intro p e s m below meth c ls X hw hr hlk _ hl
  have hx := X.1.1; have hb := X.1.2.1; have hml := X.1.2.2.1; have hown := X.1.2.2.2.1; have hts := X.1.2.2.2.2
  have hl : lv_has ls 4 [(0, .ref (ad 20 0)), (1, .int (nI r)), (2, .int (nI w))] := hl
  refine lv_aload_n hx hb dX6_asks_0 rfl (lv_at hl 0 rfl) ?_
  refine r_get X hw 20 _ 28 (hL.1) rfl rfl k_X6 (by decide) fl_RX6_91 dX6_asks_1 ?_
  refine lv_bipush (v := 16) hx hb dX6_asks_4 (by decide) ?_
  refine lv_iload_n hx hb dX6_asks_6 rfl (lv_at hl 1 rfl) ?_
  refine lv_imul hx hb dX6_asks_7 ?_
  refine lv_iload_n hx hb dX6_asks_8 rfl (lv_at hl 2 rfl) ?_
  refine lv_iadd hx hb dX6_asks_9 ?_
  refine lv_dup2_11 hx hb dX6_asks_10 rfl rfl ?_
  refine q_iald X hw 28 (hL.2 28 (by decide) (by decide) (by decide)) (j := ((16 * r) + w)) (nat_add (nat_mul (show (16 : Int32) = nI 16 from rfl) rfl) rfl) (show ((16 * r) + w) < 384 by omega) dX6_asks_11 ?_
  refine lv_topi (fun x1 ex1 => ?_)
  refine lv_iconst (v := 1) hx hb dX6_asks_12 (by decide) ?_
  refine lv_iadd hx hb dX6_asks_13 ?_
  refine lv_topi (fun x2 ex2 => ?_)
  refine q_iast X hw 28 (hL.2 28 (by decide) (by decide) (by decide)) (j := ((16 * r) + w)) (nat_add (nat_mul (show (16 : Int32) = nI 16 from rfl) rfl) rfl) (show ((16 * r) + w) < 384 by omega) dX6_asks_14 (fun H locs hw => ?_)
  have hB := MBI.set hB (k := 28) (j := ((16 * r) + w)) (v := x2) (by decide) (fun h => absurd rfl h)
  refine lv_aload_n hx hb dX6_asks_15 rfl (lv_at hl 0 rfl) ?_
  refine lv_iload_n hx hb dX6_asks_16 rfl (lv_at hl 1 rfl) ?_
  refine lv_iload_n hx hb dX6_asks_17 rfl (lv_at hl 2 rfl) ?_
  refine lv_aload_n hx hb dX6_asks_18 rfl (lv_at hl 0 rfl) ?_
  refine r_get X hw 20 _ 28 (hL.1) rfl rfl k_X6 (by decide) fl_RX6_91 dX6_asks_19 ?_
  refine lv_bipush (v := 16) hx hb dX6_asks_22 (by decide) ?_
  refine lv_iload_n hx hb dX6_asks_24 rfl (lv_at hl 1 rfl) ?_
  refine lv_imul hx hb dX6_asks_25 ?_
  refine lv_iload_n hx hb dX6_asks_26 rfl (lv_at hl 2 rfl) ?_
  refine lv_iadd hx hb dX6_asks_27 ?_
  refine q_iald X hw 28 (hL.2 28 (by decide) (by decide) (by decide)) (j := ((16 * r) + w)) (nat_add (nat_mul (show (16 : Int32) = nI 16 from rfl) rfl) rfl) (show ((16 * r) + w) < 384 by omega) dX6_asks_28 ?_
  refine lv_topi (fun x4 ex4 => ?_)
  have ex4 := (ex4.trans (cs_s _ _ _ _ _)).symm; subst ex4
  refine r_qiro X hw (q_answerOf_C _ r w x2) (r_runV X (c_q_answerOf l G lv ad _ r w x2 hL hB hr24 hw16 _) cy_X6_answerOf ml_RX6_136 ⟨(Nat.le_of_ble_eq_true rfl), (Nat.le_of_ble_eq_true rfl)⟩ gP.blind (g_recv X hw 20 0 hL.1 rfl rfl) (gP_call X hw _) rfl hl.1 rfl (Nat.le_of_ble_eq_true rfl) dX6_asks_29 ⟨(Nat.le_of_ble_eq_true rfl), (Nat.le_of_ble_eq_true rfl)⟩) (fun H locs hw => ?_)
  refine lv_topi (fun x5 ex5 => ?_)
  refine lv_istore_n (lv' := [(3, .int x5), (0, .ref (ad 20 0)), (1, .int (nI r)), (2, .int (nI w))]) hx hb dX6_asks_32 rfl hl (by decide) rfl (fun ls hl => ?_)
  refine lv_iload_n hx hb dX6_asks_33 rfl (lv_at hl 0 rfl) ?_
  refine lv_if_lt (tgt := 51) hx hb dX6_asks_34 (by decide) (fun h6 => ?_) (fun h6 => ?_)
  · refine lv_aload_n hx hb dX6_asks_51 rfl (lv_at hl 1 rfl) ?_
    refine r_get X hw 20 _ 24 (hL.1) rfl rfl k_X6 (by decide) fl_RX6_79 dX6_asks_52 ?_
    refine lv_iload_n hx hb dX6_asks_55 rfl (lv_at hl 2 rfl) ?_
    refine lv_iconst (v := 0) hx hb dX6_asks_56 (by decide) ?_
    refine q_iast X hw 24 (hL.2 24 (by decide) (by decide) (by decide)) (j := r) rfl (show r < 24 by omega) dX6_asks_57 (fun H locs hw => ?_)
    have hB := MBI.set hB (k := 24) (j := r) (v := 0) (by decide) (fun h => absurd rfl h)
    refine lv_aload_n hx hb dX6_asks_58 rfl (lv_at hl 1 rfl) ?_
    refine r_get X hw 20 _ 25 (hL.1) rfl rfl k_X6 (by decide) fl_RX6_82 dX6_asks_59 ?_
    refine lv_iload_n hx hb dX6_asks_62 rfl (lv_at hl 2 rfl) ?_
    refine lv_iload_n hx hb dX6_asks_63 rfl (lv_at hl 3 rfl) ?_
    refine q_iast X hw 25 (hL.2 25 (by decide) (by decide) (by decide)) (j := r) rfl (show r < 24 by omega) dX6_asks_64 (fun H locs hw => ?_)
    have hB := MBI.set hB (k := 25) (j := r) (v := nI w) (by decide) (fun h => absurd rfl h)
    subst ex5 ex2 ex1
    exact r_vret X hw hr hlk (Nat.le_of_ble_eq_true rfl) (Nat.le_of_ble_eq_true rfl) (gREv_of ((if_pos h6).trans rfl) hB) dX6_asks_65
  · obtain ⟨pan, ban⟩ := q_answerOf_of hB ex5 h6
    refine lv_aload_n hx hb dX6_asks_37 rfl (lv_at hl 1 rfl) ?_
    refine lv_iload_n hx hb dX6_asks_38 rfl (lv_at hl 2 rfl) ?_
    refine lv_aload_n hx hb dX6_asks_39 rfl (lv_at hl 1 rfl) ?_
    refine r_get X hw 20 _ 33 (hL.1) rfl rfl k_X6 (by decide) fl_RX6_103 dX6_asks_40 ?_
    refine lv_iload_n hx hb dX6_asks_43 rfl (lv_at hl 0 rfl) ?_
    refine q_iald X hw 33 (hL.2 33 (by decide) (by decide) (by decide)) (j := x5.toNatClampNeg) pan (show x5.toNatClampNeg < 1024 by omega) dX6_asks_44 ?_
    refine lv_topi (fun x9 ex9 => ?_)
    have ex9 := ex9.trans (congrFun (cs_n _ _ _ _ (by decide)) _)
    refine r_qv X hw (r_runV X (c_q_puts l G lv ad _ r x9 hL hB hr24 _) cy_X6_puts ml_RX6_140 ⟨(Nat.le_of_ble_eq_true rfl), (Nat.le_of_ble_eq_true rfl)⟩ gP.blind (g_recv X hw 20 0 hL.1 rfl rfl) (gP_call X hw _) rfl hl.1 rfl (Nat.le_of_ble_eq_true rfl) dX6_asks_45 ⟨(Nat.le_of_ble_eq_true rfl), (Nat.le_of_ble_eq_true rfl)⟩) (fun H locs hB hw => ?_)
    refine lv_goto (tgt := 65) hx hb dX6_asks_48 (by decide) ?_
    subst ex9 ex5 ex2 ex1
    exact r_vret X hw hr hlk (Nat.le_of_ble_eq_true rfl) (Nat.le_of_ble_eq_true rfl) (gREv_of ((if_neg h6).trans rfl) hB) dX6_asks_65
def q_reckons (C : gCT) (r : Nat) (w : Int32) : gCT :=
  let r1 : Int32 × gCT := q_takes C r;
  let x2 : Int32 := r1.1;
  let C3 : gCT := r1.2;
  let x4 : Int32 := C3 21 24 r;
  if x4 = 7 then (
    let r20 : Int32 × gCT := q_takes C3 r;
    let x21 : Int32 := r20.1;
    let C22 : gCT := r20.2;
    let x23 : Int32 := C22 21 24 r;
    if x23 = 7 then (
      let x35 : Int32 :=
        if w = 4 then (
          let x32 : Int32 := x21 + x2;
          let x33 : Int32 := q_held x32;
          x33
        ) else (
          if w = 5 then (
            let x30 : Int32 := x21 - x2;
            let x31 : Int32 := q_held x30;
            x31
          ) else (
            if w = 6 then (
              if x2 ≤ x21 then (
                0
              ) else (
                1
              )
            ) else (
              if x21 = x2 then (
                1
              ) else (
                0
              )
            )
          )
        );
      let C36 : gCT := q_puts C22 r x35;
      C36
    ) else (
      C22
    )
  ) else (
    if x4 = 7 then (
      let x18 : Int32 :=
        if w = 4 then (
          let x15 : Int32 := 0 + x2;
          let x16 : Int32 := q_held x15;
          x16
        ) else (
          if w = 5 then (
            let x13 : Int32 := 0 - x2;
            let x14 : Int32 := q_held x13;
            x14
          ) else (
            if w = 6 then (
              if x2 ≤ 0 then (
                0
              ) else (
                1
              )
            ) else (
              if 0 = x2 then (
                1
              ) else (
                0
              )
            )
          )
        );
      let C19 : gCT := q_puts C3 r x18;
      C19
    ) else (
      C3
    )
  )
set_option maxHeartbeats 4000000 in
set_option maxRecDepth 100000 in
theorem c_q_reckons (l : Launch) (G : gG) (lv : gLv) (ad : gAd) (C : gCT) (r : Nat) (w : Int32) (hL : gLM lv) (hB : MBI C) (hr24 : r < 24) : gMv l yX6_reckons cX6_reckons 5 (gRm 2 44 0 0) G [.ref (ad 20 0), .int (nI r), .int w] lv ad (gF G C ad) (gRv G lv ad MBI (q_reckons C r w)) := by
  refine r_met (own := RX6) (by decide) rfl (Nat.le_of_ble_eq_true rfl) ?_
  intro p e s m below meth c ls X hw hr hlk _ hl
  have hx := X.1.1; have hb := X.1.2.1; have hml := X.1.2.2.1; have hown := X.1.2.2.2.1; have hts := X.1.2.2.2.2
  have hl : lv_has ls 5 [(0, .ref (ad 20 0)), (1, .int (nI r)), (2, .int w)] := hl
  refine lv_aload_n hx hb dX6_reckons_0 rfl (lv_at hl 0 rfl) ?_
  refine lv_iload_n hx hb dX6_reckons_1 rfl (lv_at hl 1 rfl) ?_
  refine r_qi X hw (r_runV X (c_q_takes l G lv ad _ r hL hB hr24 _) cy_X6_takes ml_RX6_143 ⟨(Nat.le_of_ble_eq_true rfl), (Nat.le_of_ble_eq_true rfl)⟩ gP.blind (g_recv X hw 20 0 hL.1 rfl rfl) (gP_call X hw _) rfl hl.1 rfl (Nat.le_of_ble_eq_true rfl) dX6_reckons_2 ⟨(Nat.le_of_ble_eq_true rfl), (Nat.le_of_ble_eq_true rfl)⟩) (fun H locs hB hw => ?_)
  refine lv_topi (fun x2 ex2 => ?_)
  refine lv_istore_n (lv' := [(3, .int x2), (0, .ref (ad 20 0)), (1, .int (nI r)), (2, .int w)]) hx hb dX6_reckons_5 rfl hl (by decide) rfl (fun ls hl => ?_)
  refine lv_aload_n hx hb dX6_reckons_6 rfl (lv_at hl 1 rfl) ?_
  refine r_get X hw 20 _ 24 (hL.1) rfl rfl k_X6 (by decide) fl_RX6_79 dX6_reckons_7 ?_
  refine lv_iload_n hx hb dX6_reckons_10 rfl (lv_at hl 2 rfl) ?_
  refine q_iald X hw 24 (hL.2 24 (by decide) (by decide) (by decide)) (j := r) rfl (show r < 24 by omega) dX6_reckons_11 ?_
  refine lv_topi (fun x4 ex4 => ?_)
  refine lv_bipush (v := 7) hx hb dX6_reckons_12 (by decide) ?_
  refine lv_icmp_ne (tgt := 25) hx hb dX6_reckons_14 (by decide) (fun h5 => ?_) (fun h5 => ?_)
  · refine lv_iconst (v := 0) hx hb dX6_reckons_25 (by decide) ?_
    refine lv_istore (lv' := [(4, .int 0), (3, .int x2), (0, .ref (ad 20 0)), (1, .int (nI r)), (2, .int w)]) hx hb dX6_reckons_26 hl (by decide) rfl (fun ls hl => ?_)
    refine lv_aload_n hx hb dX6_reckons_28 rfl (lv_at hl 2 rfl) ?_
    refine r_get X hw 20 _ 24 (hL.1) rfl rfl k_X6 (by decide) fl_RX6_79 dX6_reckons_29 ?_
    refine lv_iload_n hx hb dX6_reckons_32 rfl (lv_at hl 3 rfl) ?_
    refine q_iald X hw 24 (hL.2 24 (by decide) (by decide) (by decide)) (j := r) rfl (show r < 24 by omega) dX6_reckons_33 ?_
    refine lv_topi (fun x6 ex6 => ?_)
    have ex6 := (ex6).trans ex4.symm; have ex6 := ex6.symm; subst ex6
    refine lv_bipush (v := 7) hx hb dX6_reckons_34 (by decide) ?_
    refine lv_icmp_ne (tgt := 105) hx hb dX6_reckons_36 (by decide) (fun h7 => ?_) (fun h7 => ?_)
    · subst ex4 ex2
      exact r_vret X hw hr hlk (Nat.le_of_ble_eq_true rfl) (Nat.le_of_ble_eq_true rfl) (gREv_of ((if_neg h5).trans ((if_neg h7).trans rfl)) hB) dX6_reckons_105
    · refine lv_aload_n hx hb dX6_reckons_39 rfl (lv_at hl 2 rfl) ?_
      refine lv_iload_n hx hb dX6_reckons_40 rfl (lv_at hl 3 rfl) ?_
      refine lv_iload_n hx hb dX6_reckons_41 rfl (lv_at hl 4 rfl) ?_
      refine lv_iconst (v := 4) hx hb dX6_reckons_42 (by decide) ?_
      refine r_J (nL := 5) (J := 102) (rest := [.int (nI r), .ref (ad 20 0)]) (L := [(4, .int 0), (3, .int x2), (0, .ref (ad 20 0)), (1, .int (nI r)), (2, .int w)]) (if w = 4 then ( let x15 : Int32 := 0 + x2; let x16 : Int32 := q_held x15; x16 ) else ( if w = 5 then ( let x13 : Int32 := 0 - x2; let x14 : Int32 := q_held x13; x14 ) else ( if w = 6 then ( if x2 ≤ 0 then ( 0 ) else ( 1 ) ) else ( if 0 = x2 then ( 1 ) else ( 0 ) ) ) )) (fun x18 ex18 ls hl => ?_) (fun J17 => ?_)
      · refine r_qv X hw (r_runV X (c_q_puts l G lv ad _ r x18 hL hB hr24 _) cy_X6_puts ml_RX6_140 ⟨(Nat.le_of_ble_eq_true rfl), (Nat.le_of_ble_eq_true rfl)⟩ gP.blind (g_recv X hw 20 0 hL.1 rfl rfl) (gP_call X hw _) rfl hl.1 rfl (Nat.le_of_ble_eq_true rfl) dX6_reckons_102 ⟨(Nat.le_of_ble_eq_true rfl), (Nat.le_of_ble_eq_true rfl)⟩) (fun H locs hB hw => ?_)
        subst ex18 ex4 ex2
        exact r_vret X hw hr hlk (Nat.le_of_ble_eq_true rfl) (Nat.le_of_ble_eq_true rfl) (gREv_of ((if_neg h5).trans ((if_pos h7).trans rfl)) hB) dX6_reckons_105
      · refine lv_icmp_ne (tgt := 56) hx hb dX6_reckons_43 (by decide) (fun h8 => ?_) (fun h8 => ?_)
        · refine lv_iload_n hx hb dX6_reckons_56 rfl (lv_at hl 4 rfl) ?_
          refine lv_iconst (v := 5) hx hb dX6_reckons_57 (by decide) ?_
          refine lv_icmp_ne (tgt := 71) hx hb dX6_reckons_58 (by decide) (fun h9 => ?_) (fun h9 => ?_)
          · refine lv_iload_n hx hb dX6_reckons_71 rfl (lv_at hl 4 rfl) ?_
            refine lv_bipush (v := 6) hx hb dX6_reckons_72 (by decide) ?_
            refine lv_icmp_ne (tgt := 91) hx hb dX6_reckons_74 (by decide) (fun h10 => ?_) (fun h10 => ?_)
            · refine lv_iload hx hb dX6_reckons_91 (lv_at hl 0 rfl) ?_
              refine lv_iload_n hx hb dX6_reckons_93 rfl (lv_at hl 1 rfl) ?_
              refine lv_icmp_ne (tgt := 101) hx hb dX6_reckons_94 (by decide) (fun h11 => ?_) (fun h11 => ?_)
              · refine lv_iconst (v := 0) hx hb dX6_reckons_101 (by decide) ?_
                exact J17 _ ((if_neg h8).trans ((if_neg h9).trans ((if_neg h10).trans ((if_neg h11).trans rfl)))).symm _ hl
              · refine lv_iconst (v := 1) hx hb dX6_reckons_97 (by decide) ?_
                refine lv_goto (tgt := 102) hx hb dX6_reckons_98 (by decide) ?_
                exact J17 _ ((if_neg h8).trans ((if_neg h9).trans ((if_neg h10).trans ((if_pos h11).trans rfl)))).symm _ hl
            · refine lv_iload hx hb dX6_reckons_77 (lv_at hl 0 rfl) ?_
              refine lv_iload_n hx hb dX6_reckons_79 rfl (lv_at hl 1 rfl) ?_
              refine lv_icmp_ge (tgt := 87) hx hb dX6_reckons_80 (by decide) (fun h12 => ?_) (fun h12 => ?_)
              · refine lv_iconst (v := 0) hx hb dX6_reckons_87 (by decide) ?_
                refine lv_goto (tgt := 102) hx hb dX6_reckons_88 (by decide) ?_
                exact J17 _ ((if_neg h8).trans ((if_neg h9).trans ((if_pos h10).trans ((if_pos h12).trans rfl)))).symm _ hl
              · refine lv_iconst (v := 1) hx hb dX6_reckons_83 (by decide) ?_
                refine lv_goto (tgt := 102) hx hb dX6_reckons_84 (by decide) ?_
                exact J17 _ ((if_neg h8).trans ((if_neg h9).trans ((if_pos h10).trans ((if_neg h12).trans rfl)))).symm _ hl
          · refine lv_iload hx hb dX6_reckons_61 (lv_at hl 0 rfl) ?_
            refine lv_iload_n hx hb dX6_reckons_63 rfl (lv_at hl 1 rfl) ?_
            refine lv_isub hx hb dX6_reckons_64 ?_
            refine lv_topi (fun x13 ex13 => ?_)
            refine r_rp (r_runS X (c_q_held l x13) cy_X6_held ml_RX6_147 ⟨(Nat.le_of_ble_eq_true rfl), (Nat.le_of_ble_eq_true rfl)⟩ gPc_blind (fun _ _ _ => ⟨rfl, trivial⟩) rfl hl.1 rfl (Nat.le_of_ble_eq_true rfl) dX6_reckons_65 ⟨(Nat.le_of_ble_eq_true rfl), (Nat.le_of_ble_eq_true rfl)⟩) ?_
            refine lv_topi (fun x14 ex14 => ?_)
            refine lv_goto (tgt := 102) hx hb dX6_reckons_68 (by decide) ?_
            subst ex14 ex13; exact J17 _ ((if_neg h8).trans ((if_pos h9).trans rfl)).symm _ hl
        · refine lv_iload hx hb dX6_reckons_46 (lv_at hl 0 rfl) ?_
          refine lv_iload_n hx hb dX6_reckons_48 rfl (lv_at hl 1 rfl) ?_
          refine lv_iadd hx hb dX6_reckons_49 ?_
          refine lv_topi (fun x15 ex15 => ?_)
          refine r_rp (r_runS X (c_q_held l x15) cy_X6_held ml_RX6_147 ⟨(Nat.le_of_ble_eq_true rfl), (Nat.le_of_ble_eq_true rfl)⟩ gPc_blind (fun _ _ _ => ⟨rfl, trivial⟩) rfl hl.1 rfl (Nat.le_of_ble_eq_true rfl) dX6_reckons_50 ⟨(Nat.le_of_ble_eq_true rfl), (Nat.le_of_ble_eq_true rfl)⟩) ?_
          refine lv_topi (fun x16 ex16 => ?_)
          refine lv_goto (tgt := 102) hx hb dX6_reckons_53 (by decide) ?_
          subst ex16 ex15; exact J17 _ ((if_pos h8).trans rfl).symm _ hl
  · refine lv_aload_n hx hb dX6_reckons_17 rfl (lv_at hl 1 rfl) ?_
    refine lv_iload_n hx hb dX6_reckons_18 rfl (lv_at hl 2 rfl) ?_
    refine r_qi X hw (r_runV X (c_q_takes l G lv ad _ r hL hB hr24 _) cy_X6_takes ml_RX6_143 ⟨(Nat.le_of_ble_eq_true rfl), (Nat.le_of_ble_eq_true rfl)⟩ gP.blind (g_recv X hw 20 0 hL.1 rfl rfl) (gP_call X hw _) rfl hl.1 rfl (Nat.le_of_ble_eq_true rfl) dX6_reckons_19 ⟨(Nat.le_of_ble_eq_true rfl), (Nat.le_of_ble_eq_true rfl)⟩) (fun H locs hB hw => ?_)
    refine lv_topi (fun x21 ex21 => ?_)
    refine lv_goto (tgt := 26) hx hb dX6_reckons_22 (by decide) ?_
    refine lv_istore (lv' := [(4, .int x21), (3, .int x2), (0, .ref (ad 20 0)), (1, .int (nI r)), (2, .int w)]) hx hb dX6_reckons_26 hl (by decide) rfl (fun ls hl => ?_)
    refine lv_aload_n hx hb dX6_reckons_28 rfl (lv_at hl 2 rfl) ?_
    refine r_get X hw 20 _ 24 (hL.1) rfl rfl k_X6 (by decide) fl_RX6_79 dX6_reckons_29 ?_
    refine lv_iload_n hx hb dX6_reckons_32 rfl (lv_at hl 3 rfl) ?_
    refine q_iald X hw 24 (hL.2 24 (by decide) (by decide) (by decide)) (j := r) rfl (show r < 24 by omega) dX6_reckons_33 ?_
    refine lv_topi (fun x23 ex23 => ?_)
    refine lv_bipush (v := 7) hx hb dX6_reckons_34 (by decide) ?_
    refine lv_icmp_ne (tgt := 105) hx hb dX6_reckons_36 (by decide) (fun h24 => ?_) (fun h24 => ?_)
    · subst ex23 ex21 ex4 ex2
      exact r_vret X hw hr hlk (Nat.le_of_ble_eq_true rfl) (Nat.le_of_ble_eq_true rfl) (gREv_of ((if_pos h5).trans ((if_neg h24).trans rfl)) hB) dX6_reckons_105
    · refine lv_aload_n hx hb dX6_reckons_39 rfl (lv_at hl 2 rfl) ?_
      refine lv_iload_n hx hb dX6_reckons_40 rfl (lv_at hl 3 rfl) ?_
      refine lv_iload_n hx hb dX6_reckons_41 rfl (lv_at hl 4 rfl) ?_
      refine lv_iconst (v := 4) hx hb dX6_reckons_42 (by decide) ?_
      refine r_J (nL := 5) (J := 102) (rest := [.int (nI r), .ref (ad 20 0)]) (L := [(4, .int x21), (3, .int x2), (0, .ref (ad 20 0)), (1, .int (nI r)), (2, .int w)]) (if w = 4 then ( let x32 : Int32 := x21 + x2; let x33 : Int32 := q_held x32; x33 ) else ( if w = 5 then ( let x30 : Int32 := x21 - x2; let x31 : Int32 := q_held x30; x31 ) else ( if w = 6 then ( if x2 ≤ x21 then ( 0 ) else ( 1 ) ) else ( if x21 = x2 then ( 1 ) else ( 0 ) ) ) )) (fun x35 ex35 ls hl => ?_) (fun J34 => ?_)
      · refine r_qv X hw (r_runV X (c_q_puts l G lv ad _ r x35 hL hB hr24 _) cy_X6_puts ml_RX6_140 ⟨(Nat.le_of_ble_eq_true rfl), (Nat.le_of_ble_eq_true rfl)⟩ gP.blind (g_recv X hw 20 0 hL.1 rfl rfl) (gP_call X hw _) rfl hl.1 rfl (Nat.le_of_ble_eq_true rfl) dX6_reckons_102 ⟨(Nat.le_of_ble_eq_true rfl), (Nat.le_of_ble_eq_true rfl)⟩) (fun H locs hB hw => ?_)
        subst ex35 ex23 ex21 ex4 ex2
        exact r_vret X hw hr hlk (Nat.le_of_ble_eq_true rfl) (Nat.le_of_ble_eq_true rfl) (gREv_of ((if_pos h5).trans ((if_pos h24).trans rfl)) hB) dX6_reckons_105
      · refine lv_icmp_ne (tgt := 56) hx hb dX6_reckons_43 (by decide) (fun h25 => ?_) (fun h25 => ?_)
        · refine lv_iload_n hx hb dX6_reckons_56 rfl (lv_at hl 4 rfl) ?_
          refine lv_iconst (v := 5) hx hb dX6_reckons_57 (by decide) ?_
          refine lv_icmp_ne (tgt := 71) hx hb dX6_reckons_58 (by decide) (fun h26 => ?_) (fun h26 => ?_)
          · refine lv_iload_n hx hb dX6_reckons_71 rfl (lv_at hl 4 rfl) ?_
            refine lv_bipush (v := 6) hx hb dX6_reckons_72 (by decide) ?_
            refine lv_icmp_ne (tgt := 91) hx hb dX6_reckons_74 (by decide) (fun h27 => ?_) (fun h27 => ?_)
            · refine lv_iload hx hb dX6_reckons_91 (lv_at hl 0 rfl) ?_
              refine lv_iload_n hx hb dX6_reckons_93 rfl (lv_at hl 1 rfl) ?_
              refine lv_icmp_ne (tgt := 101) hx hb dX6_reckons_94 (by decide) (fun h28 => ?_) (fun h28 => ?_)
              · refine lv_iconst (v := 0) hx hb dX6_reckons_101 (by decide) ?_
                exact J34 _ ((if_neg h25).trans ((if_neg h26).trans ((if_neg h27).trans ((if_neg h28).trans rfl)))).symm _ hl
              · refine lv_iconst (v := 1) hx hb dX6_reckons_97 (by decide) ?_
                refine lv_goto (tgt := 102) hx hb dX6_reckons_98 (by decide) ?_
                exact J34 _ ((if_neg h25).trans ((if_neg h26).trans ((if_neg h27).trans ((if_pos h28).trans rfl)))).symm _ hl
            · refine lv_iload hx hb dX6_reckons_77 (lv_at hl 0 rfl) ?_
              refine lv_iload_n hx hb dX6_reckons_79 rfl (lv_at hl 1 rfl) ?_
              refine lv_icmp_ge (tgt := 87) hx hb dX6_reckons_80 (by decide) (fun h29 => ?_) (fun h29 => ?_)
              · refine lv_iconst (v := 0) hx hb dX6_reckons_87 (by decide) ?_
                refine lv_goto (tgt := 102) hx hb dX6_reckons_88 (by decide) ?_
                exact J34 _ ((if_neg h25).trans ((if_neg h26).trans ((if_pos h27).trans ((if_pos h29).trans rfl)))).symm _ hl
              · refine lv_iconst (v := 1) hx hb dX6_reckons_83 (by decide) ?_
                refine lv_goto (tgt := 102) hx hb dX6_reckons_84 (by decide) ?_
                exact J34 _ ((if_neg h25).trans ((if_neg h26).trans ((if_pos h27).trans ((if_neg h29).trans rfl)))).symm _ hl
          · refine lv_iload hx hb dX6_reckons_61 (lv_at hl 0 rfl) ?_
            refine lv_iload_n hx hb dX6_reckons_63 rfl (lv_at hl 1 rfl) ?_
            refine lv_isub hx hb dX6_reckons_64 ?_
            refine lv_topi (fun x30 ex30 => ?_)
            refine r_rp (r_runS X (c_q_held l x30) cy_X6_held ml_RX6_147 ⟨(Nat.le_of_ble_eq_true rfl), (Nat.le_of_ble_eq_true rfl)⟩ gPc_blind (fun _ _ _ => ⟨rfl, trivial⟩) rfl hl.1 rfl (Nat.le_of_ble_eq_true rfl) dX6_reckons_65 ⟨(Nat.le_of_ble_eq_true rfl), (Nat.le_of_ble_eq_true rfl)⟩) ?_
            refine lv_topi (fun x31 ex31 => ?_)
            refine lv_goto (tgt := 102) hx hb dX6_reckons_68 (by decide) ?_
            subst ex31 ex30; exact J34 _ ((if_neg h25).trans ((if_pos h26).trans rfl)).symm _ hl
        · refine lv_iload hx hb dX6_reckons_46 (lv_at hl 0 rfl) ?_
          refine lv_iload_n hx hb dX6_reckons_48 rfl (lv_at hl 1 rfl) ?_
          refine lv_iadd hx hb dX6_reckons_49 ?_
          refine lv_topi (fun x32 ex32 => ?_)
          refine r_rp (r_runS X (c_q_held l x32) cy_X6_held ml_RX6_147 ⟨(Nat.le_of_ble_eq_true rfl), (Nat.le_of_ble_eq_true rfl)⟩ gPc_blind (fun _ _ _ => ⟨rfl, trivial⟩) rfl hl.1 rfl (Nat.le_of_ble_eq_true rfl) dX6_reckons_50 ⟨(Nat.le_of_ble_eq_true rfl), (Nat.le_of_ble_eq_true rfl)⟩) ?_
          refine lv_topi (fun x33 ex33 => ?_)
          refine lv_goto (tgt := 102) hx hb dX6_reckons_53 (by decide) ?_
          subst ex33 ex32; exact J34 _ ((if_pos h25).trans rfl).symm _ hl
def q_panelOf (C : gCT) (r : Nat) : Int32 × gCT :=
  let x1 : Int32 := C 21 16 r;
  let x2 : Int32 := C 21 15 r;
  let x3 : Int32 := x2 - x2 / 4 * 4;
  let x4 : Int32 := (4 * x1) + x3;
  (x4, C)
set_option maxHeartbeats 4000000 in
set_option maxRecDepth 100000 in
theorem c_q_panelOf (l : Launch) (G : gG) (lv : gLv) (ad : gAd) (C : gCT) (r : Nat) (hL : gLM lv) (hB : MBI C) (hr24 : r < 24) : gMi l yX6_panelOf cX6_panelOf 2 (some .int) (gRm 0 0 0 0) G [.ref (ad 20 0), .int (nI r)] lv ad (gF G C ad) (gRi G lv ad MBI (q_panelOf C r)) := by
  refine r_met (own := RX6) (by decide) rfl (Nat.le_of_ble_eq_true rfl) ?_
  intro p e s m below meth c ls X hw hr hlk _ hl
  have hx := X.1.1; have hb := X.1.2.1; have hml := X.1.2.2.1; have hown := X.1.2.2.2.1; have hts := X.1.2.2.2.2
  have hl : lv_has ls 2 [(0, .ref (ad 20 0)), (1, .int (nI r))] := hl
  refine lv_iconst (v := 4) hx hb dX6_panelOf_0 (by decide) ?_
  refine lv_aload_n hx hb dX6_panelOf_1 rfl (lv_at hl 0 rfl) ?_
  refine r_get X hw 20 _ 16 (hL.1) rfl rfl k_X6 (by decide) fl_RX6_55 dX6_panelOf_2 ?_
  refine lv_iload_n hx hb dX6_panelOf_5 rfl (lv_at hl 1 rfl) ?_
  refine q_iald X hw 16 (hL.2 16 (by decide) (by decide) (by decide)) (j := r) rfl (show r < 24 by omega) dX6_panelOf_6 ?_
  refine lv_topi (fun x1 ex1 => ?_)
  obtain ⟨px1, bx1⟩ := MBI.get hB 16 r (show r < 24 by omega) (by decide) ex1
  have bx1 : x1.toNatClampNeg < 4 := bx1
  refine lv_imul hx hb dX6_panelOf_7 ?_
  refine lv_aload_n hx hb dX6_panelOf_8 rfl (lv_at hl 0 rfl) ?_
  refine r_get X hw 20 _ 15 (hL.1) rfl rfl k_X6 (by decide) fl_RX6_52 dX6_panelOf_9 ?_
  refine lv_iload_n hx hb dX6_panelOf_12 rfl (lv_at hl 1 rfl) ?_
  refine q_iald X hw 15 (hL.2 15 (by decide) (by decide) (by decide)) (j := r) rfl (show r < 24 by omega) dX6_panelOf_13 ?_
  refine lv_topi (fun x2 ex2 => ?_)
  obtain ⟨px2, bx2⟩ := MBI.get hB 15 r (show r < 24 by omega) (by decide) ex2
  have bx2 : x2.toNatClampNeg < 16 := bx2
  refine lv_iconst (v := 4) hx hb dX6_panelOf_14 (by decide) ?_
  refine lv_irem hx hb dX6_panelOf_15 (by decide) ?_
  refine lv_topi (fun x3 ex3 => ?_)
  refine lv_iadd hx hb dX6_panelOf_16 ?_
  refine lv_topi (fun x4 ex4 => ?_)
  subst ex4 ex3 ex2 ex1
  exact r_iret X hw hr rfl hlk (Nat.le_of_ble_eq_true rfl) (Nat.le_of_ble_eq_true rfl) (gRE_of (rfl) hB) dX6_panelOf_17
theorem q_panelOf_C (C : gCT) (r : Nat) : (q_panelOf C r).2 = C := rfl
theorem nI_rem4 : ∀ d : Nat, d < 16 → nI d - nI d / 4 * 4 = nI (d % 4) := by decide
theorem q_panelOf_nat {C : gCT} (hB : MBI C) {r : Nat} (hr : r < 24) : (q_panelOf C r).1 = nI (4 * (C 21 16 r).toNatClampNeg + (C 21 15 r).toNatClampNeg % 4) ∧ (C 21 16 r).toNatClampNeg < 4 ∧ (C 21 15 r).toNatClampNeg < 16 := by
  obtain ⟨p1, b1⟩ := hB.get 16 r hr (by decide) (x := C 21 16 r) rfl
  obtain ⟨p2, b2⟩ := hB.get 15 r hr (by decide) (x := C 21 15 r) rfl
  refine ⟨?_, b1, b2⟩
  have h1 : (q_panelOf C r).1 = 4 * C 21 16 r + (C 21 15 r - C 21 15 r / 4 * 4) := rfl
  have h2 : C 21 15 r - C 21 15 r / 4 * 4 = nI ((C 21 15 r).toNatClampNeg % 4) := by
    rw [p2, nI_clamp (by have : (C 21 15 r).toNatClampNeg < 16 := b2; omega)]
    exact nI_rem4 _ b2
  rw [h1, h2]
  exact nat_add (nat_mul (show (4 : Int32) = nI 4 from rfl) p1) rfl
theorem q_panelOf_of {C : gCT} (hB : MBI C) {r : Nat} (hr : r < 24) {x : Int32} (ex : x = (q_panelOf C r).1) : x = nI x.toNatClampNeg ∧ x.toNatClampNeg < 16 := by
  obtain ⟨h1, h2, h3⟩ := q_panelOf_nat hB hr
  rw [ex, h1, nI_clamp (by omega)]
  exact ⟨rfl, by omega⟩
def q_finishes (C : gCT) (r : Nat) (z : Int32) : gCT :=
  let x1 : Int32 := (q_panelOf C r).1;
  let x2 : Int32 := C 21 10 x1.toNatClampNeg;
  let x3 : Int32 := C 21 9 x1.toNatClampNeg;
  if x2 < x3 then (
    if z = 0 then (
      C
    ) else (
      let x7 : Int32 := x2 + 1;
      let C8 : gCT := cs C 21 10 x1.toNatClampNeg x7;
      let x9 : Int32 := C 21 22 r;
      let x10 : Int32 := C 21 16 r;
      let x11 : Int32 := C 21 8 x10.toNatClampNeg;
      let x17 : Int32 :=
        if x11 ≤ x9 then (
          x11
        ) else (
          x9
        );
      let x20 : Int32 := x11 - x17;
      let C21 : gCT := cs C8 21 8 x10.toNatClampNeg x20;
      let x22 : Int32 := C 21 15 r;
      let x23 : Int32 := C 21 13 x22.toNatClampNeg;
      let x24 : Int32 := x23 + x17;
      let C25 : gCT := cs C21 21 13 x22.toNatClampNeg x24;
      let C26 : gCT := q_ends C25 r 2;
      C26
    )
  ) else (
    let C27 : gCT := q_ends C r 3;
    C27
  )
set_option maxHeartbeats 4000000 in
set_option maxRecDepth 100000 in
theorem c_q_finishes (l : Launch) (G : gG) (lv : gLv) (ad : gAd) (C : gCT) (r : Nat) (z : Int32) (hL : gLM lv) (hB : MBI C) (hr24 : r < 24) : gMv l yX6_finishes cX6_finishes 5 (gRm 1 22 0 0) G [.ref (ad 20 0), .int (nI r), .int z] lv ad (gF G C ad) (gRv G lv ad MBI (q_finishes C r z)) := by
  refine r_met (own := RX6) (by decide) rfl (Nat.le_of_ble_eq_true rfl) ?_
  intro p e s m below meth c ls X hw hr hlk _ hl
  have hx := X.1.1; have hb := X.1.2.1; have hml := X.1.2.2.1; have hown := X.1.2.2.2.1; have hts := X.1.2.2.2.2
  have hl : lv_has ls 5 [(0, .ref (ad 20 0)), (1, .int (nI r)), (2, .int z)] := hl
  refine lv_aload_n hx hb dX6_finishes_0 rfl (lv_at hl 0 rfl) ?_
  refine lv_iload_n hx hb dX6_finishes_1 rfl (lv_at hl 1 rfl) ?_
  refine r_qiro X hw (q_panelOf_C _ r) (r_runV X (c_q_panelOf l G lv ad _ r hL hB hr24 _) cy_X6_panelOf ml_RX6_150 ⟨(Nat.le_of_ble_eq_true rfl), (Nat.le_of_ble_eq_true rfl)⟩ gP.blind (g_recv X hw 20 0 hL.1 rfl rfl) (gP_call X hw _) rfl hl.1 rfl (Nat.le_of_ble_eq_true rfl) dX6_finishes_2 ⟨(Nat.le_of_ble_eq_true rfl), (Nat.le_of_ble_eq_true rfl)⟩) (fun H locs hw => ?_)
  refine lv_topi (fun x1 ex1 => ?_)
  obtain ⟨px1, bx1⟩ := q_panelOf_of hB hr24 ex1
  refine lv_istore_n (lv' := [(3, .int x1), (0, .ref (ad 20 0)), (1, .int (nI r)), (2, .int z)]) hx hb dX6_finishes_5 rfl hl (by decide) rfl (fun ls hl => ?_)
  refine lv_aload_n hx hb dX6_finishes_6 rfl (lv_at hl 1 rfl) ?_
  refine r_get X hw 20 _ 10 (hL.1) rfl rfl k_X6 (by decide) fl_RX6_40 dX6_finishes_7 ?_
  refine lv_iload_n hx hb dX6_finishes_10 rfl (lv_at hl 0 rfl) ?_
  refine q_iald X hw 10 (hL.2 10 (by decide) (by decide) (by decide)) (j := x1.toNatClampNeg) px1 (show x1.toNatClampNeg < 16 by omega) dX6_finishes_11 ?_
  refine lv_topi (fun x2 ex2 => ?_)
  refine lv_aload_n hx hb dX6_finishes_12 rfl (lv_at hl 1 rfl) ?_
  refine r_get X hw 20 _ 9 (hL.1) rfl rfl k_X6 (by decide) fl_RX6_37 dX6_finishes_13 ?_
  refine lv_iload_n hx hb dX6_finishes_16 rfl (lv_at hl 0 rfl) ?_
  refine q_iald X hw 9 (hL.2 9 (by decide) (by decide) (by decide)) (j := x1.toNatClampNeg) px1 (show x1.toNatClampNeg < 16 by omega) dX6_finishes_17 ?_
  refine lv_topi (fun x3 ex3 => ?_)
  refine lv_icmp_lt (tgt := 30) hx hb dX6_finishes_18 (by decide) (fun h4 => ?_) (fun h4 => ?_)
  · refine lv_iload_n hx hb dX6_finishes_30 rfl (lv_at hl 3 rfl) ?_
    refine lv_if_eq (tgt := 124) hx hb dX6_finishes_31 (by decide) (fun h5 => ?_) (fun h5 => ?_)
    · subst ex3 ex2 ex1
      exact r_vret X hw hr hlk (Nat.le_of_ble_eq_true rfl) (Nat.le_of_ble_eq_true rfl) (gREv_of ((if_pos h4).trans ((if_pos h5).trans rfl)) hB) dX6_finishes_124
    · refine lv_aload_n hx hb dX6_finishes_34 rfl (lv_at hl 1 rfl) ?_
      refine r_get X hw 20 _ 10 (hL.1) rfl rfl k_X6 (by decide) fl_RX6_40 dX6_finishes_35 ?_
      refine lv_iload_n hx hb dX6_finishes_38 rfl (lv_at hl 0 rfl) ?_
      refine lv_dup2_11 hx hb dX6_finishes_39 rfl rfl ?_
      refine q_iald X hw 10 (hL.2 10 (by decide) (by decide) (by decide)) (j := x1.toNatClampNeg) px1 (show x1.toNatClampNeg < 16 by omega) dX6_finishes_40 ?_
      refine lv_topi (fun x6 ex6 => ?_)
      have ex6 := (ex6).trans ex2.symm; have ex6 := ex6.symm; subst ex6
      refine lv_iconst (v := 1) hx hb dX6_finishes_41 (by decide) ?_
      refine lv_iadd hx hb dX6_finishes_42 ?_
      refine lv_topi (fun x7 ex7 => ?_)
      refine q_iast X hw 10 (hL.2 10 (by decide) (by decide) (by decide)) (j := x1.toNatClampNeg) px1 (show x1.toNatClampNeg < 16 by omega) dX6_finishes_43 (fun H locs hw => ?_)
      have hB := MBI.set hB (k := 10) (j := x1.toNatClampNeg) (v := x7) (by decide) (fun h => absurd rfl h)
      refine lv_aload_n hx hb dX6_finishes_44 rfl (lv_at hl 1 rfl) ?_
      refine r_get X hw 20 _ 22 (hL.1) rfl rfl k_X6 (by decide) fl_RX6_73 dX6_finishes_45 ?_
      refine lv_iload_n hx hb dX6_finishes_48 rfl (lv_at hl 2 rfl) ?_
      refine q_iald X hw 22 (hL.2 22 (by decide) (by decide) (by decide)) (j := r) rfl (show r < 24 by omega) dX6_finishes_49 ?_
      refine lv_topi (fun x9 ex9 => ?_)
      have ex9 := ex9.trans (congrFun (cs_n _ _ _ _ (by decide)) _)
      refine lv_aload_n hx hb dX6_finishes_50 rfl (lv_at hl 1 rfl) ?_
      refine r_get X hw 20 _ 8 (hL.1) rfl rfl k_X6 (by decide) fl_RX6_34 dX6_finishes_51 ?_
      refine lv_aload_n hx hb dX6_finishes_54 rfl (lv_at hl 1 rfl) ?_
      refine r_get X hw 20 _ 16 (hL.1) rfl rfl k_X6 (by decide) fl_RX6_55 dX6_finishes_55 ?_
      refine lv_iload_n hx hb dX6_finishes_58 rfl (lv_at hl 2 rfl) ?_
      refine q_iald X hw 16 (hL.2 16 (by decide) (by decide) (by decide)) (j := r) rfl (show r < 24 by omega) dX6_finishes_59 ?_
      refine lv_topi (fun x10 ex10 => ?_)
      obtain ⟨px10, bx10⟩ := MBI.get hB 16 r (show r < 24 by omega) (by decide) ex10
      have bx10 : x10.toNatClampNeg < 4 := bx10
      have ex10 := ex10.trans (congrFun (cs_n _ _ _ _ (by decide)) _)
      refine q_iald X hw 8 (hL.2 8 (by decide) (by decide) (by decide)) (j := x10.toNatClampNeg) px10 (show x10.toNatClampNeg < 4 by omega) dX6_finishes_60 ?_
      refine lv_topi (fun x11 ex11 => ?_)
      have ex11 := ex11.trans (congrFun (cs_n _ _ _ _ (by decide)) _)
      refine r_J (nL := 5) (J := 84) (rest := []) (L := [(3, .int x1), (0, .ref (ad 20 0)), (1, .int (nI r)), (2, .int z)]) (if x11 ≤ x9 then ( x11 ) else ( x9 )) (fun x17 ex17 ls hl => ?_) (fun J16 => ?_)
      · refine lv_istore (lv' := [(4, .int x17), (3, .int x1), (0, .ref (ad 20 0)), (1, .int (nI r)), (2, .int z)]) hx hb dX6_finishes_84 hl (by decide) rfl (fun ls hl => ?_)
        refine lv_aload_n hx hb dX6_finishes_86 rfl (lv_at hl 2 rfl) ?_
        refine r_get X hw 20 _ 8 (hL.1) rfl rfl k_X6 (by decide) fl_RX6_34 dX6_finishes_87 ?_
        refine lv_aload_n hx hb dX6_finishes_90 rfl (lv_at hl 2 rfl) ?_
        refine r_get X hw 20 _ 16 (hL.1) rfl rfl k_X6 (by decide) fl_RX6_55 dX6_finishes_91 ?_
        refine lv_iload_n hx hb dX6_finishes_94 rfl (lv_at hl 3 rfl) ?_
        refine q_iald X hw 16 (hL.2 16 (by decide) (by decide) (by decide)) (j := r) rfl (show r < 24 by omega) dX6_finishes_95 ?_
        refine lv_topi (fun x18 ex18 => ?_)
        have ex18 := (ex18.trans (congrFun (cs_n _ _ _ _ (by decide)) _)).trans ex10.symm; have ex18 := ex18.symm; subst ex18
        refine lv_dup2_11 hx hb dX6_finishes_96 rfl rfl ?_
        refine q_iald X hw 8 (hL.2 8 (by decide) (by decide) (by decide)) (j := x10.toNatClampNeg) px10 (show x10.toNatClampNeg < 4 by omega) dX6_finishes_97 ?_
        refine lv_topi (fun x19 ex19 => ?_)
        have ex19 := (ex19.trans (congrFun (cs_n _ _ _ _ (by decide)) _)).trans ex11.symm; have ex19 := ex19.symm; subst ex19
        refine lv_iload hx hb dX6_finishes_98 (lv_at hl 0 rfl) ?_
        refine lv_isub hx hb dX6_finishes_100 ?_
        refine lv_topi (fun x20 ex20 => ?_)
        refine q_iast X hw 8 (hL.2 8 (by decide) (by decide) (by decide)) (j := x10.toNatClampNeg) px10 (show x10.toNatClampNeg < 4 by omega) dX6_finishes_101 (fun H locs hw => ?_)
        have hB := MBI.set hB (k := 8) (j := x10.toNatClampNeg) (v := x20) (by decide) (fun h => absurd rfl h)
        refine lv_aload_n hx hb dX6_finishes_102 rfl (lv_at hl 2 rfl) ?_
        refine r_get X hw 20 _ 13 (hL.1) rfl rfl k_X6 (by decide) fl_RX6_49 dX6_finishes_103 ?_
        refine lv_aload_n hx hb dX6_finishes_106 rfl (lv_at hl 2 rfl) ?_
        refine r_get X hw 20 _ 15 (hL.1) rfl rfl k_X6 (by decide) fl_RX6_52 dX6_finishes_107 ?_
        refine lv_iload_n hx hb dX6_finishes_110 rfl (lv_at hl 3 rfl) ?_
        refine q_iald X hw 15 (hL.2 15 (by decide) (by decide) (by decide)) (j := r) rfl (show r < 24 by omega) dX6_finishes_111 ?_
        refine lv_topi (fun x22 ex22 => ?_)
        obtain ⟨px22, bx22⟩ := MBI.get hB 15 r (show r < 24 by omega) (by decide) ex22
        have bx22 : x22.toNatClampNeg < 16 := bx22
        have ex22 := ex22.trans ((congrFun (cs_n _ _ _ _ (by decide)) _).trans (congrFun (cs_n _ _ _ _ (by decide)) _))
        refine lv_dup2_11 hx hb dX6_finishes_112 rfl rfl ?_
        refine q_iald X hw 13 (hL.2 13 (by decide) (by decide) (by decide)) (j := x22.toNatClampNeg) px22 (show x22.toNatClampNeg < 16 by omega) dX6_finishes_113 ?_
        refine lv_topi (fun x23 ex23 => ?_)
        have ex23 := ex23.trans ((congrFun (cs_n _ _ _ _ (by decide)) _).trans (congrFun (cs_n _ _ _ _ (by decide)) _))
        refine lv_iload hx hb dX6_finishes_114 (lv_at hl 0 rfl) ?_
        refine lv_iadd hx hb dX6_finishes_116 ?_
        refine lv_topi (fun x24 ex24 => ?_)
        refine q_iast X hw 13 (hL.2 13 (by decide) (by decide) (by decide)) (j := x22.toNatClampNeg) px22 (show x22.toNatClampNeg < 16 by omega) dX6_finishes_117 (fun H locs hw => ?_)
        have hB := MBI.set hB (k := 13) (j := x22.toNatClampNeg) (v := x24) (by decide) (fun h => absurd rfl h)
        refine lv_aload_n hx hb dX6_finishes_118 rfl (lv_at hl 2 rfl) ?_
        refine lv_iload_n hx hb dX6_finishes_119 rfl (lv_at hl 3 rfl) ?_
        refine lv_iconst (v := 2) hx hb dX6_finishes_120 (by decide) ?_
        refine r_qv X hw (r_runV X (c_q_ends l G lv ad _ r 2 hL hB hr24 _) cy_X6_ends ml_RX6_129 ⟨(Nat.le_of_ble_eq_true rfl), (Nat.le_of_ble_eq_true rfl)⟩ gP.blind (g_recv X hw 20 0 hL.1 rfl rfl) (gP_call X hw _) rfl hl.1 rfl (Nat.le_of_ble_eq_true rfl) dX6_finishes_121 ⟨(Nat.le_of_ble_eq_true rfl), (Nat.le_of_ble_eq_true rfl)⟩) (fun H locs hB hw => ?_)
        subst ex24 ex23 ex22 ex20 ex17 ex11 ex10 ex9 ex7 ex3 ex2 ex1
        exact r_vret X hw hr hlk (Nat.le_of_ble_eq_true rfl) (Nat.le_of_ble_eq_true rfl) (gREv_of ((if_pos h4).trans ((if_neg h5).trans rfl)) hB) dX6_finishes_124
      · refine lv_icmp_ge (tgt := 73) hx hb dX6_finishes_61 (by decide) (fun h12 => ?_) (fun h12 => ?_)
        · refine lv_aload_n hx hb dX6_finishes_73 rfl (lv_at hl 1 rfl) ?_
          refine r_get X hw 20 _ 8 (hL.1) rfl rfl k_X6 (by decide) fl_RX6_34 dX6_finishes_74 ?_
          refine lv_aload_n hx hb dX6_finishes_77 rfl (lv_at hl 1 rfl) ?_
          refine r_get X hw 20 _ 16 (hL.1) rfl rfl k_X6 (by decide) fl_RX6_55 dX6_finishes_78 ?_
          refine lv_iload_n hx hb dX6_finishes_81 rfl (lv_at hl 2 rfl) ?_
          refine q_iald X hw 16 (hL.2 16 (by decide) (by decide) (by decide)) (j := r) rfl (show r < 24 by omega) dX6_finishes_82 ?_
          refine lv_topi (fun x13 ex13 => ?_)
          have ex13 := (ex13.trans (congrFun (cs_n _ _ _ _ (by decide)) _)).trans ex10.symm; have ex13 := ex13.symm; subst ex13
          refine q_iald X hw 8 (hL.2 8 (by decide) (by decide) (by decide)) (j := x10.toNatClampNeg) px10 (show x10.toNatClampNeg < 4 by omega) dX6_finishes_83 ?_
          refine lv_topi (fun x14 ex14 => ?_)
          have ex14 := (ex14.trans (congrFun (cs_n _ _ _ _ (by decide)) _)).trans ex11.symm; have ex14 := ex14.symm; subst ex14
          exact J16 _ ((if_pos h12).trans rfl).symm _ hl
        · refine lv_aload_n hx hb dX6_finishes_64 rfl (lv_at hl 1 rfl) ?_
          refine r_get X hw 20 _ 22 (hL.1) rfl rfl k_X6 (by decide) fl_RX6_73 dX6_finishes_65 ?_
          refine lv_iload_n hx hb dX6_finishes_68 rfl (lv_at hl 2 rfl) ?_
          refine q_iald X hw 22 (hL.2 22 (by decide) (by decide) (by decide)) (j := r) rfl (show r < 24 by omega) dX6_finishes_69 ?_
          refine lv_topi (fun x15 ex15 => ?_)
          have ex15 := (ex15.trans (congrFun (cs_n _ _ _ _ (by decide)) _)).trans ex9.symm; have ex15 := ex15.symm; subst ex15
          refine lv_goto (tgt := 84) hx hb dX6_finishes_70 (by decide) ?_
          exact J16 _ ((if_neg h12).trans rfl).symm _ hl
  · refine lv_aload_n hx hb dX6_finishes_21 rfl (lv_at hl 1 rfl) ?_
    refine lv_iload_n hx hb dX6_finishes_22 rfl (lv_at hl 2 rfl) ?_
    refine lv_iconst (v := 3) hx hb dX6_finishes_23 (by decide) ?_
    refine r_qv X hw (r_runV X (c_q_ends l G lv ad _ r 3 hL hB hr24 _) cy_X6_ends ml_RX6_129 ⟨(Nat.le_of_ble_eq_true rfl), (Nat.le_of_ble_eq_true rfl)⟩ gP.blind (g_recv X hw 20 0 hL.1 rfl rfl) (gP_call X hw _) rfl hl.1 rfl (Nat.le_of_ble_eq_true rfl) dX6_finishes_24 ⟨(Nat.le_of_ble_eq_true rfl), (Nat.le_of_ble_eq_true rfl)⟩) (fun H locs hB hw => ?_)
    refine lv_goto (tgt := 124) hx hb dX6_finishes_27 (by decide) ?_
    subst ex3 ex2 ex1
    exact r_vret X hw hr hlk (Nat.le_of_ble_eq_true rfl) (Nat.le_of_ble_eq_true rfl) (gREv_of ((if_neg h4).trans rfl) hB) dX6_finishes_124
def q_moves (C : gCT) (r : Nat) (w a : Int32) : gCT :=
  if w = 3 then (
    let r20 : Int32 × gCT := q_takes C r;
    let x21 : Int32 := r20.1;
    let C22 : gCT := r20.2;
    let x23 : Int32 := C22 21 24 r;
    let x27 : Int32 :=
      if x23 = 7 then (
        x21
      ) else (
        let x25 : Int32 := C22 21 21 ((8 * r) + a.toNatClampNeg);
        x25
      );
    let C28 : gCT := cs C22 21 21 ((8 * r) + a.toNatClampNeg) x27;
    C28
  ) else (
    if w = 9 then (
      let r9 : Int32 × gCT := q_takes C r;
      let x10 : Int32 := r9.1;
      let C11 : gCT := r9.2;
      let x12 : Int32 := C11 21 24 r;
      let x18 : Int32 :=
        if x12 = 7 then (
          if x10 = 0 then (
            a
          ) else (
            let x16 : Int32 := C11 21 18 r;
            x16
          )
        ) else (
          let x14 : Int32 := C11 21 18 r;
          x14
        );
      let C19 : gCT := cs C11 21 18 r x18;
      C19
    ) else (
      if w = 8 then (
        let C8 : gCT := cs C 21 18 r a;
        C8
      ) else (
        if w = 10 then (
          let x5 : Int32 := C 21 22 r;
          let x6 : Int32 := x5 + a;
          let C7 : gCT := cs C 21 22 r x6;
          C7
        ) else (
          C
        )
      )
    )
  )
set_option maxHeartbeats 4000000 in
set_option maxRecDepth 100000 in
theorem c_q_moves (l : Launch) (G : gG) (lv : gLv) (ad : gAd) (C : gCT) (r : Nat) (w a : Int32) (hL : gLM lv) (hB : MBI C) (hr24 : r < 24) (hf : gFit w a) : gMv l yX6_moves cX6_moves 5 (gRm 2 43 0 0) G [.ref (ad 20 0), .int (nI r), .int w, .int a] lv ad (gF G C ad) (gRv G lv ad MBI (q_moves C r w a)) := by
  refine r_met (own := RX6) (by decide) rfl (Nat.le_of_ble_eq_true rfl) ?_
  intro p e s m below meth c ls X hw hr hlk _ hl
  have hx := X.1.1; have hb := X.1.2.1; have hml := X.1.2.2.1; have hown := X.1.2.2.2.1; have hts := X.1.2.2.2.2
  have hl : lv_has ls 5 [(0, .ref (ad 20 0)), (1, .int (nI r)), (2, .int w), (3, .int a)] := hl
  refine lv_iload_n hx hb dX6_moves_0 rfl (lv_at hl 2 rfl) ?_
  refine lv_iconst (v := 3) hx hb dX6_moves_1 (by decide) ?_
  refine lv_icmp_ne (tgt := 53) hx hb dX6_moves_2 (by decide) (fun h1 => ?_) (fun h1 => ?_)
  · refine lv_iload_n hx hb dX6_moves_53 rfl (lv_at hl 2 rfl) ?_
    refine lv_bipush (v := 9) hx hb dX6_moves_54 (by decide) ?_
    refine lv_icmp_ne (tgt := 101) hx hb dX6_moves_56 (by decide) (fun h2 => ?_) (fun h2 => ?_)
    · refine lv_iload_n hx hb dX6_moves_101 rfl (lv_at hl 2 rfl) ?_
      refine lv_bipush (v := 8) hx hb dX6_moves_102 (by decide) ?_
      refine lv_icmp_ne (tgt := 117) hx hb dX6_moves_104 (by decide) (fun h3 => ?_) (fun h3 => ?_)
      · refine lv_iload_n hx hb dX6_moves_117 rfl (lv_at hl 2 rfl) ?_
        refine lv_bipush (v := 10) hx hb dX6_moves_118 (by decide) ?_
        refine lv_icmp_ne (tgt := 133) hx hb dX6_moves_120 (by decide) (fun h4 => ?_) (fun h4 => ?_)
        · exact r_vret X hw hr hlk (Nat.le_of_ble_eq_true rfl) (Nat.le_of_ble_eq_true rfl) (gREv_of ((if_neg h1).trans ((if_neg h2).trans ((if_neg h3).trans ((if_neg h4).trans rfl)))) hB) dX6_moves_133
        · refine lv_aload_n hx hb dX6_moves_123 rfl (lv_at hl 0 rfl) ?_
          refine r_get X hw 20 _ 22 (hL.1) rfl rfl k_X6 (by decide) fl_RX6_73 dX6_moves_124 ?_
          refine lv_iload_n hx hb dX6_moves_127 rfl (lv_at hl 1 rfl) ?_
          refine lv_dup2_11 hx hb dX6_moves_128 rfl rfl ?_
          refine q_iald X hw 22 (hL.2 22 (by decide) (by decide) (by decide)) (j := r) rfl (show r < 24 by omega) dX6_moves_129 ?_
          refine lv_topi (fun x5 ex5 => ?_)
          refine lv_iload_n hx hb dX6_moves_130 rfl (lv_at hl 3 rfl) ?_
          refine lv_iadd hx hb dX6_moves_131 ?_
          refine lv_topi (fun x6 ex6 => ?_)
          refine q_iast X hw 22 (hL.2 22 (by decide) (by decide) (by decide)) (j := r) rfl (show r < 24 by omega) dX6_moves_132 (fun H locs hw => ?_)
          have hB := MBI.set hB (k := 22) (j := r) (v := x6) (by decide) (fun h => absurd rfl h)
          subst ex6 ex5
          exact r_vret X hw hr hlk (Nat.le_of_ble_eq_true rfl) (Nat.le_of_ble_eq_true rfl) (gREv_of ((if_neg h1).trans ((if_neg h2).trans ((if_neg h3).trans ((if_pos h4).trans rfl)))) hB) dX6_moves_133
      · obtain ⟨pfa, bfa⟩ := gFit_8 hf h3
        refine lv_aload_n hx hb dX6_moves_107 rfl (lv_at hl 0 rfl) ?_
        refine r_get X hw 20 _ 18 (hL.1) rfl rfl k_X6 (by decide) fl_RX6_61 dX6_moves_108 ?_
        refine lv_iload_n hx hb dX6_moves_111 rfl (lv_at hl 1 rfl) ?_
        refine lv_iload_n hx hb dX6_moves_112 rfl (lv_at hl 3 rfl) ?_
        refine q_iast X hw 18 (hL.2 18 (by decide) (by decide) (by decide)) (j := r) rfl (show r < 24 by omega) dX6_moves_113 (fun H locs hw => ?_)
        have hB := MBI.set hB (k := 18) (j := r) (v := a) (by decide) (fun _ => ⟨a.toNatClampNeg, by show _ < 25; omega, pfa⟩)
        refine lv_goto (tgt := 133) hx hb dX6_moves_114 (by decide) ?_
        exact r_vret X hw hr hlk (Nat.le_of_ble_eq_true rfl) (Nat.le_of_ble_eq_true rfl) (gREv_of ((if_neg h1).trans ((if_neg h2).trans ((if_pos h3).trans rfl))) hB) dX6_moves_133
    · obtain ⟨pfa, bfa⟩ := gFit_9 hf h2
      refine lv_aload_n hx hb dX6_moves_59 rfl (lv_at hl 0 rfl) ?_
      refine lv_iload_n hx hb dX6_moves_60 rfl (lv_at hl 1 rfl) ?_
      refine r_qi X hw (r_runV X (c_q_takes l G lv ad _ r hL hB hr24 _) cy_X6_takes ml_RX6_143 ⟨(Nat.le_of_ble_eq_true rfl), (Nat.le_of_ble_eq_true rfl)⟩ gP.blind (g_recv X hw 20 0 hL.1 rfl rfl) (gP_call X hw _) rfl hl.1 rfl (Nat.le_of_ble_eq_true rfl) dX6_moves_61 ⟨(Nat.le_of_ble_eq_true rfl), (Nat.le_of_ble_eq_true rfl)⟩) (fun H locs hB hw => ?_)
      refine lv_topi (fun x10 ex10 => ?_)
      refine lv_istore (lv' := [(4, .int x10), (0, .ref (ad 20 0)), (1, .int (nI r)), (2, .int w), (3, .int a)]) hx hb dX6_moves_64 hl (by decide) rfl (fun ls hl => ?_)
      refine lv_aload_n hx hb dX6_moves_66 rfl (lv_at hl 1 rfl) ?_
      refine r_get X hw 20 _ 18 (hL.1) rfl rfl k_X6 (by decide) fl_RX6_61 dX6_moves_67 ?_
      refine lv_iload_n hx hb dX6_moves_70 rfl (lv_at hl 2 rfl) ?_
      refine lv_aload_n hx hb dX6_moves_71 rfl (lv_at hl 1 rfl) ?_
      refine r_get X hw 20 _ 24 (hL.1) rfl rfl k_X6 (by decide) fl_RX6_79 dX6_moves_72 ?_
      refine lv_iload_n hx hb dX6_moves_75 rfl (lv_at hl 2 rfl) ?_
      refine q_iald X hw 24 (hL.2 24 (by decide) (by decide) (by decide)) (j := r) rfl (show r < 24 by omega) dX6_moves_76 ?_
      refine lv_topi (fun x12 ex12 => ?_)
      refine lv_bipush (v := 7) hx hb dX6_moves_77 (by decide) ?_
      refine r_J (nL := 5) (J := 97) (rest := [.int (nI r), .ref (ad 21 18)]) (L := [(4, .int x10), (0, .ref (ad 20 0)), (1, .int (nI r)), (2, .int w), (3, .int a)]) (if x12 = 7 then ( if x10 = 0 then ( a ) else ( let x16 : Int32 := ((q_takes C r).2) 21 18 r; x16 ) ) else ( let x14 : Int32 := ((q_takes C r).2) 21 18 r; x14 )) (fun x18 ex18 ls hl => ?_) (fun J17 => ?_)
      · refine q_iast X hw 18 (hL.2 18 (by decide) (by decide) (by decide)) (j := r) rfl (show r < 24 by omega) dX6_moves_97 (fun H locs hw => ?_)
        have hB := MBI.set hB (k := 18) (j := r) (v := x18) (by decide) (fun _ => (show x18 = a ∨ x18 = ((q_takes C r).2) 21 18 r by rw [ex18]; (repeat' split); all_goals first | exact Or.inl rfl | exact Or.inr rfl).elim (fun q => ⟨a.toNatClampNeg, bfa, q.trans pfa⟩) (fun q => let ⟨d, h1, h2⟩ := hB.1 18 r hr24 (by decide); ⟨d, h1, q.trans h2⟩))
        refine lv_goto (tgt := 133) hx hb dX6_moves_98 (by decide) ?_
        subst ex18 ex12 ex10
        exact r_vret X hw hr hlk (Nat.le_of_ble_eq_true rfl) (Nat.le_of_ble_eq_true rfl) (gREv_of ((if_neg h1).trans ((if_pos h2).trans rfl)) hB) dX6_moves_133
      · refine lv_icmp_ne (tgt := 91) hx hb dX6_moves_79 (by decide) (fun h13 => ?_) (fun h13 => ?_)
        · refine lv_aload_n hx hb dX6_moves_91 rfl (lv_at hl 1 rfl) ?_
          refine r_get X hw 20 _ 18 (hL.1) rfl rfl k_X6 (by decide) fl_RX6_61 dX6_moves_92 ?_
          refine lv_iload_n hx hb dX6_moves_95 rfl (lv_at hl 2 rfl) ?_
          refine q_iald X hw 18 (hL.2 18 (by decide) (by decide) (by decide)) (j := r) rfl (show r < 24 by omega) dX6_moves_96 ?_
          refine lv_topi (fun x14 ex14 => ?_)
          obtain ⟨px14, bx14⟩ := MBI.get hB 18 r (show r < 24 by omega) (by decide) ex14
          have bx14 : x14.toNatClampNeg < 25 := bx14
          subst ex14; exact J17 _ ((if_neg h13).trans rfl).symm _ hl
        · refine lv_iload hx hb dX6_moves_82 (lv_at hl 0 rfl) ?_
          refine lv_if_ne (tgt := 91) hx hb dX6_moves_84 (by decide) (fun h15 => ?_) (fun h15 => ?_)
          · refine lv_aload_n hx hb dX6_moves_91 rfl (lv_at hl 1 rfl) ?_
            refine r_get X hw 20 _ 18 (hL.1) rfl rfl k_X6 (by decide) fl_RX6_61 dX6_moves_92 ?_
            refine lv_iload_n hx hb dX6_moves_95 rfl (lv_at hl 2 rfl) ?_
            refine q_iald X hw 18 (hL.2 18 (by decide) (by decide) (by decide)) (j := r) rfl (show r < 24 by omega) dX6_moves_96 ?_
            refine lv_topi (fun x16 ex16 => ?_)
            obtain ⟨px16, bx16⟩ := MBI.get hB 18 r (show r < 24 by omega) (by decide) ex16
            have bx16 : x16.toNatClampNeg < 25 := bx16
            subst ex16; exact J17 _ ((if_pos h13).trans ((if_neg h15).trans rfl)).symm _ hl
          · refine lv_iload_n hx hb dX6_moves_87 rfl (lv_at hl 4 rfl) ?_
            refine lv_goto (tgt := 97) hx hb dX6_moves_88 (by decide) ?_
            exact J17 _ ((if_pos h13).trans ((if_pos h15).trans rfl)).symm _ hl
  · obtain ⟨pfa, bfa⟩ := gFit_3 hf h1
    refine lv_aload_n hx hb dX6_moves_5 rfl (lv_at hl 0 rfl) ?_
    refine lv_iload_n hx hb dX6_moves_6 rfl (lv_at hl 1 rfl) ?_
    refine r_qi X hw (r_runV X (c_q_takes l G lv ad _ r hL hB hr24 _) cy_X6_takes ml_RX6_143 ⟨(Nat.le_of_ble_eq_true rfl), (Nat.le_of_ble_eq_true rfl)⟩ gP.blind (g_recv X hw 20 0 hL.1 rfl rfl) (gP_call X hw _) rfl hl.1 rfl (Nat.le_of_ble_eq_true rfl) dX6_moves_7 ⟨(Nat.le_of_ble_eq_true rfl), (Nat.le_of_ble_eq_true rfl)⟩) (fun H locs hB hw => ?_)
    refine lv_topi (fun x21 ex21 => ?_)
    refine lv_istore (lv' := [(4, .int x21), (0, .ref (ad 20 0)), (1, .int (nI r)), (2, .int w), (3, .int a)]) hx hb dX6_moves_10 hl (by decide) rfl (fun ls hl => ?_)
    refine lv_aload_n hx hb dX6_moves_12 rfl (lv_at hl 1 rfl) ?_
    refine r_get X hw 20 _ 21 (hL.1) rfl rfl k_X6 (by decide) fl_RX6_70 dX6_moves_13 ?_
    refine lv_bipush (v := 8) hx hb dX6_moves_16 (by decide) ?_
    refine lv_iload_n hx hb dX6_moves_18 rfl (lv_at hl 2 rfl) ?_
    refine lv_imul hx hb dX6_moves_19 ?_
    refine lv_iload_n hx hb dX6_moves_20 rfl (lv_at hl 4 rfl) ?_
    refine lv_iadd hx hb dX6_moves_21 ?_
    refine lv_aload_n hx hb dX6_moves_22 rfl (lv_at hl 1 rfl) ?_
    refine r_get X hw 20 _ 24 (hL.1) rfl rfl k_X6 (by decide) fl_RX6_79 dX6_moves_23 ?_
    refine lv_iload_n hx hb dX6_moves_26 rfl (lv_at hl 2 rfl) ?_
    refine q_iald X hw 24 (hL.2 24 (by decide) (by decide) (by decide)) (j := r) rfl (show r < 24 by omega) dX6_moves_27 ?_
    refine lv_topi (fun x23 ex23 => ?_)
    refine lv_bipush (v := 7) hx hb dX6_moves_28 (by decide) ?_
    refine r_J (nL := 5) (J := 49) (rest := [.int ((8 * (nI r)) + a), .ref (ad 21 21)]) (L := [(4, .int x21), (0, .ref (ad 20 0)), (1, .int (nI r)), (2, .int w), (3, .int a)]) (if x23 = 7 then ( x21 ) else ( let x25 : Int32 := ((q_takes C r).2) 21 21 ((8 * r) + a.toNatClampNeg); x25 )) (fun x27 ex27 ls hl => ?_) (fun J26 => ?_)
    · refine q_iast X hw 21 (hL.2 21 (by decide) (by decide) (by decide)) (j := ((8 * r) + a.toNatClampNeg)) (nat_add (nat_mul (show (8 : Int32) = nI 8 from rfl) rfl) pfa) (show ((8 * r) + a.toNatClampNeg) < 192 by omega) dX6_moves_49 (fun H locs hw => ?_)
      have hB := MBI.set hB (k := 21) (j := ((8 * r) + a.toNatClampNeg)) (v := x27) (by decide) (fun h => absurd rfl h)
      refine lv_goto (tgt := 133) hx hb dX6_moves_50 (by decide) ?_
      subst ex27 ex23 ex21
      exact r_vret X hw hr hlk (Nat.le_of_ble_eq_true rfl) (Nat.le_of_ble_eq_true rfl) (gREv_of ((if_pos h1).trans rfl) hB) dX6_moves_133
    · refine lv_icmp_ne (tgt := 38) hx hb dX6_moves_30 (by decide) (fun h24 => ?_) (fun h24 => ?_)
      · refine lv_aload_n hx hb dX6_moves_38 rfl (lv_at hl 1 rfl) ?_
        refine r_get X hw 20 _ 21 (hL.1) rfl rfl k_X6 (by decide) fl_RX6_70 dX6_moves_39 ?_
        refine lv_bipush (v := 8) hx hb dX6_moves_42 (by decide) ?_
        refine lv_iload_n hx hb dX6_moves_44 rfl (lv_at hl 2 rfl) ?_
        refine lv_imul hx hb dX6_moves_45 ?_
        refine lv_iload_n hx hb dX6_moves_46 rfl (lv_at hl 4 rfl) ?_
        refine lv_iadd hx hb dX6_moves_47 ?_
        refine q_iald X hw 21 (hL.2 21 (by decide) (by decide) (by decide)) (j := ((8 * r) + a.toNatClampNeg)) (nat_add (nat_mul (show (8 : Int32) = nI 8 from rfl) rfl) pfa) (show ((8 * r) + a.toNatClampNeg) < 192 by omega) dX6_moves_48 ?_
        refine lv_topi (fun x25 ex25 => ?_)
        subst ex25; exact J26 _ ((if_neg h24).trans rfl).symm _ hl
      · refine lv_iload hx hb dX6_moves_33 (lv_at hl 0 rfl) ?_
        refine lv_goto (tgt := 49) hx hb dX6_moves_35 (by decide) ?_
        exact J26 _ ((if_pos h24).trans rfl).symm _ hl
def q_does (C : gCT) (r : Nat) (w a : Int32) : gCT :=
  if w = 0 then (
    let C39 : gCT := q_asks C r a.toNatClampNeg;
    C39
  ) else (
    if w = 1 then (
      let x6 : Int32 :=
        if w = 1 then (
          a
        ) else (
          let x4 : Int32 := C 21 21 ((8 * r) + a.toNatClampNeg);
          x4
        );
      let C7 : gCT := q_puts C r x6;
      C7
    ) else (
      if w = 2 then (
        let x37 : Int32 :=
          if w = 1 then (
            a
          ) else (
            let x35 : Int32 := C 21 21 ((8 * r) + a.toNatClampNeg);
            x35
          );
        let C38 : gCT := q_puts C r x37;
        C38
      ) else (
        if w < 4 then (
          if w = 11 then (
            let x13 : Int32 :=
              if w = 12 then (
                1
              ) else (
                0
              );
            let C14 : gCT := q_finishes C r x13;
            C14
          ) else (
            if w = 12 then (
              let x19 : Int32 :=
                if w = 12 then (
                  1
                ) else (
                  0
                );
              let C20 : gCT := q_finishes C r x19;
              C20
            ) else (
              let C16 : gCT := q_moves C r w a;
              C16
            )
          )
        ) else (
          if 7 < w then (
            if w = 11 then (
              let x25 : Int32 :=
                if w = 12 then (
                  1
                ) else (
                  0
                );
              let C26 : gCT := q_finishes C r x25;
              C26
            ) else (
              if w = 12 then (
                let x31 : Int32 :=
                  if w = 12 then (
                    1
                  ) else (
                    0
                  );
                let C32 : gCT := q_finishes C r x31;
                C32
              ) else (
                let C28 : gCT := q_moves C r w a;
                C28
              )
            )
          ) else (
            let C33 : gCT := q_reckons C r w;
            C33
          )
        )
      )
    )
  )
set_option maxHeartbeats 4000000 in
set_option maxRecDepth 100000 in
theorem c_q_does (l : Launch) (G : gG) (lv : gLv) (ad : gAd) (C : gCT) (r : Nat) (w a : Int32) (hL : gLM lv) (hB : MBI C) (hr24 : r < 24) (hf : gFit w a) : gMv l yX6_does cX6_does 4 (gRm 3 68 0 0) G [.ref (ad 20 0), .int (nI r), .int w, .int a] lv ad (gF G C ad) (gRv G lv ad MBI (q_does C r w a)) := by
  refine r_met (own := RX6) (by decide) rfl (Nat.le_of_ble_eq_true rfl) ?_
  intro p e s m below meth c ls X hw hr hlk _ hl
  have hx := X.1.1; have hb := X.1.2.1; have hml := X.1.2.2.1; have hown := X.1.2.2.2.1; have hts := X.1.2.2.2.2
  have hl : lv_has ls 4 [(0, .ref (ad 20 0)), (1, .int (nI r)), (2, .int w), (3, .int a)] := hl
  refine lv_iload_n hx hb dX6_does_0 rfl (lv_at hl 2 rfl) ?_
  refine lv_if_ne (tgt := 13) hx hb dX6_does_1 (by decide) (fun h1 => ?_) (fun h1 => ?_)
  · refine lv_iload_n hx hb dX6_does_13 rfl (lv_at hl 2 rfl) ?_
    refine lv_iconst (v := 1) hx hb dX6_does_14 (by decide) ?_
    refine lv_icmp_eq (tgt := 23) hx hb dX6_does_15 (by decide) (fun h2 => ?_) (fun h2 => ?_)
    · refine lv_aload_n hx hb dX6_does_23 rfl (lv_at hl 0 rfl) ?_
      refine lv_iload_n hx hb dX6_does_24 rfl (lv_at hl 1 rfl) ?_
      refine lv_iload_n hx hb dX6_does_25 rfl (lv_at hl 2 rfl) ?_
      refine lv_iconst (v := 1) hx hb dX6_does_26 (by decide) ?_
      refine r_J (nL := 4) (J := 45) (rest := [.int (nI r), .ref (ad 20 0)]) (L := [(0, .ref (ad 20 0)), (1, .int (nI r)), (2, .int w), (3, .int a)]) (if w = 1 then ( a ) else ( let x4 : Int32 := C 21 21 ((8 * r) + a.toNatClampNeg); x4 )) (fun x6 ex6 ls hl => ?_) (fun J5 => ?_)
      · refine r_qv X hw (r_runV X (c_q_puts l G lv ad _ r x6 hL hB hr24 _) cy_X6_puts ml_RX6_140 ⟨(Nat.le_of_ble_eq_true rfl), (Nat.le_of_ble_eq_true rfl)⟩ gP.blind (g_recv X hw 20 0 hL.1 rfl rfl) (gP_call X hw _) rfl hl.1 rfl (Nat.le_of_ble_eq_true rfl) dX6_does_45 ⟨(Nat.le_of_ble_eq_true rfl), (Nat.le_of_ble_eq_true rfl)⟩) (fun H locs hB hw => ?_)
        refine lv_goto (tgt := 109) hx hb dX6_does_48 (by decide) ?_
        subst ex6
        exact r_vret X hw hr hlk (Nat.le_of_ble_eq_true rfl) (Nat.le_of_ble_eq_true rfl) (gREv_of ((if_neg h1).trans ((if_pos h2).trans rfl)) hB) dX6_does_109
      · refine lv_icmp_ne (tgt := 34) hx hb dX6_does_27 (by decide) (fun h3 => ?_) (fun h3 => ?_)
        · obtain ⟨pfa, bfa⟩ : a = nI a.toNatClampNeg ∧ a.toNatClampNeg < 8 := by first | exact gFit_2 hf (by assumption) | (exfalso; contradiction)
          refine lv_aload_n hx hb dX6_does_34 rfl (lv_at hl 0 rfl) ?_
          refine r_get X hw 20 _ 21 (hL.1) rfl rfl k_X6 (by decide) fl_RX6_70 dX6_does_35 ?_
          refine lv_bipush (v := 8) hx hb dX6_does_38 (by decide) ?_
          refine lv_iload_n hx hb dX6_does_40 rfl (lv_at hl 1 rfl) ?_
          refine lv_imul hx hb dX6_does_41 ?_
          refine lv_iload_n hx hb dX6_does_42 rfl (lv_at hl 3 rfl) ?_
          refine lv_iadd hx hb dX6_does_43 ?_
          refine q_iald X hw 21 (hL.2 21 (by decide) (by decide) (by decide)) (j := ((8 * r) + a.toNatClampNeg)) (nat_add (nat_mul (show (8 : Int32) = nI 8 from rfl) rfl) pfa) (show ((8 * r) + a.toNatClampNeg) < 192 by omega) dX6_does_44 ?_
          refine lv_topi (fun x4 ex4 => ?_)
          subst ex4; exact J5 _ ((if_neg h3).trans rfl).symm _ hl
        · refine lv_iload_n hx hb dX6_does_30 rfl (lv_at hl 3 rfl) ?_
          refine lv_goto (tgt := 45) hx hb dX6_does_31 (by decide) ?_
          exact J5 _ ((if_pos h3).trans rfl).symm _ hl
    · refine lv_iload_n hx hb dX6_does_18 rfl (lv_at hl 2 rfl) ?_
      refine lv_iconst (v := 2) hx hb dX6_does_19 (by decide) ?_
      refine lv_icmp_ne (tgt := 51) hx hb dX6_does_20 (by decide) (fun h8 => ?_) (fun h8 => ?_)
      · refine lv_iload_n hx hb dX6_does_51 rfl (lv_at hl 2 rfl) ?_
        refine lv_iconst (v := 4) hx hb dX6_does_52 (by decide) ?_
        refine lv_icmp_lt (tgt := 71) hx hb dX6_does_53 (by decide) (fun h9 => ?_) (fun h9 => ?_)
        · refine lv_iload_n hx hb dX6_does_71 rfl (lv_at hl 2 rfl) ?_
          refine lv_bipush (v := 11) hx hb dX6_does_72 (by decide) ?_
          refine lv_icmp_eq (tgt := 83) hx hb dX6_does_74 (by decide) (fun h10 => ?_) (fun h10 => ?_)
          · refine lv_aload_n hx hb dX6_does_83 rfl (lv_at hl 0 rfl) ?_
            refine lv_iload_n hx hb dX6_does_84 rfl (lv_at hl 1 rfl) ?_
            refine lv_iload_n hx hb dX6_does_85 rfl (lv_at hl 2 rfl) ?_
            refine lv_bipush (v := 12) hx hb dX6_does_86 (by decide) ?_
            refine r_J (nL := 4) (J := 96) (rest := [.int (nI r), .ref (ad 20 0)]) (L := [(0, .ref (ad 20 0)), (1, .int (nI r)), (2, .int w), (3, .int a)]) (if w = 12 then ( 1 ) else ( 0 )) (fun x13 ex13 ls hl => ?_) (fun J12 => ?_)
            · refine r_qv X hw (r_runV X (c_q_finishes l G lv ad _ r x13 hL hB hr24 _) cy_X6_finishes ml_RX6_159 ⟨(Nat.le_of_ble_eq_true rfl), (Nat.le_of_ble_eq_true rfl)⟩ gP.blind (g_recv X hw 20 0 hL.1 rfl rfl) (gP_call X hw _) rfl hl.1 rfl (Nat.le_of_ble_eq_true rfl) dX6_does_96 ⟨(Nat.le_of_ble_eq_true rfl), (Nat.le_of_ble_eq_true rfl)⟩) (fun H locs hB hw => ?_)
              refine lv_goto (tgt := 109) hx hb dX6_does_99 (by decide) ?_
              subst ex13
              exact r_vret X hw hr hlk (Nat.le_of_ble_eq_true rfl) (Nat.le_of_ble_eq_true rfl) (gREv_of ((if_neg h1).trans ((if_neg h2).trans ((if_neg h8).trans ((if_pos h9).trans ((if_pos h10).trans rfl))))) hB) dX6_does_109
            · refine lv_icmp_ne (tgt := 95) hx hb dX6_does_88 (by decide) (fun h11 => ?_) (fun h11 => ?_)
              · refine lv_iconst (v := 0) hx hb dX6_does_95 (by decide) ?_
                exact J12 _ ((if_neg h11).trans rfl).symm _ hl
              · refine lv_iconst (v := 1) hx hb dX6_does_91 (by decide) ?_
                refine lv_goto (tgt := 96) hx hb dX6_does_92 (by decide) ?_
                exact J12 _ ((if_pos h11).trans rfl).symm _ hl
          · refine lv_iload_n hx hb dX6_does_77 rfl (lv_at hl 2 rfl) ?_
            refine lv_bipush (v := 12) hx hb dX6_does_78 (by decide) ?_
            refine lv_icmp_ne (tgt := 102) hx hb dX6_does_80 (by decide) (fun h15 => ?_) (fun h15 => ?_)
            · refine lv_aload_n hx hb dX6_does_102 rfl (lv_at hl 0 rfl) ?_
              refine lv_iload_n hx hb dX6_does_103 rfl (lv_at hl 1 rfl) ?_
              refine lv_iload_n hx hb dX6_does_104 rfl (lv_at hl 2 rfl) ?_
              refine lv_iload_n hx hb dX6_does_105 rfl (lv_at hl 3 rfl) ?_
              refine r_qv X hw (r_runV X (c_q_moves l G lv ad _ r w a hL hB hr24 hf _) cy_X6_moves ml_RX6_163 ⟨(Nat.le_of_ble_eq_true rfl), (Nat.le_of_ble_eq_true rfl)⟩ gP.blind (g_recv X hw 20 0 hL.1 rfl rfl) (gP_call X hw _) rfl hl.1 rfl (Nat.le_of_ble_eq_true rfl) dX6_does_106 ⟨(Nat.le_of_ble_eq_true rfl), (Nat.le_of_ble_eq_true rfl)⟩) (fun H locs hB hw => ?_)
              exact r_vret X hw hr hlk (Nat.le_of_ble_eq_true rfl) (Nat.le_of_ble_eq_true rfl) (gREv_of ((if_neg h1).trans ((if_neg h2).trans ((if_neg h8).trans ((if_pos h9).trans ((if_neg h10).trans ((if_neg h15).trans rfl)))))) hB) dX6_does_109
            · refine lv_aload_n hx hb dX6_does_83 rfl (lv_at hl 0 rfl) ?_
              refine lv_iload_n hx hb dX6_does_84 rfl (lv_at hl 1 rfl) ?_
              refine lv_iload_n hx hb dX6_does_85 rfl (lv_at hl 2 rfl) ?_
              refine lv_bipush (v := 12) hx hb dX6_does_86 (by decide) ?_
              refine r_J (nL := 4) (J := 96) (rest := [.int (nI r), .ref (ad 20 0)]) (L := [(0, .ref (ad 20 0)), (1, .int (nI r)), (2, .int w), (3, .int a)]) (if w = 12 then ( 1 ) else ( 0 )) (fun x19 ex19 ls hl => ?_) (fun J18 => ?_)
              · refine r_qv X hw (r_runV X (c_q_finishes l G lv ad _ r x19 hL hB hr24 _) cy_X6_finishes ml_RX6_159 ⟨(Nat.le_of_ble_eq_true rfl), (Nat.le_of_ble_eq_true rfl)⟩ gP.blind (g_recv X hw 20 0 hL.1 rfl rfl) (gP_call X hw _) rfl hl.1 rfl (Nat.le_of_ble_eq_true rfl) dX6_does_96 ⟨(Nat.le_of_ble_eq_true rfl), (Nat.le_of_ble_eq_true rfl)⟩) (fun H locs hB hw => ?_)
                refine lv_goto (tgt := 109) hx hb dX6_does_99 (by decide) ?_
                subst ex19
                exact r_vret X hw hr hlk (Nat.le_of_ble_eq_true rfl) (Nat.le_of_ble_eq_true rfl) (gREv_of ((if_neg h1).trans ((if_neg h2).trans ((if_neg h8).trans ((if_pos h9).trans ((if_neg h10).trans ((if_pos h15).trans rfl)))))) hB) dX6_does_109
              · refine lv_icmp_ne (tgt := 95) hx hb dX6_does_88 (by decide) (fun h17 => ?_) (fun h17 => ?_)
                · refine lv_iconst (v := 0) hx hb dX6_does_95 (by decide) ?_
                  exact J18 _ ((if_neg h17).trans rfl).symm _ hl
                · refine lv_iconst (v := 1) hx hb dX6_does_91 (by decide) ?_
                  refine lv_goto (tgt := 96) hx hb dX6_does_92 (by decide) ?_
                  exact J18 _ ((if_pos h17).trans rfl).symm _ hl
        · refine lv_iload_n hx hb dX6_does_56 rfl (lv_at hl 2 rfl) ?_
          refine lv_bipush (v := 7) hx hb dX6_does_57 (by decide) ?_
          refine lv_icmp_gt (tgt := 71) hx hb dX6_does_59 (by decide) (fun h21 => ?_) (fun h21 => ?_)
          · refine lv_iload_n hx hb dX6_does_71 rfl (lv_at hl 2 rfl) ?_
            refine lv_bipush (v := 11) hx hb dX6_does_72 (by decide) ?_
            refine lv_icmp_eq (tgt := 83) hx hb dX6_does_74 (by decide) (fun h22 => ?_) (fun h22 => ?_)
            · refine lv_aload_n hx hb dX6_does_83 rfl (lv_at hl 0 rfl) ?_
              refine lv_iload_n hx hb dX6_does_84 rfl (lv_at hl 1 rfl) ?_
              refine lv_iload_n hx hb dX6_does_85 rfl (lv_at hl 2 rfl) ?_
              refine lv_bipush (v := 12) hx hb dX6_does_86 (by decide) ?_
              refine r_J (nL := 4) (J := 96) (rest := [.int (nI r), .ref (ad 20 0)]) (L := [(0, .ref (ad 20 0)), (1, .int (nI r)), (2, .int w), (3, .int a)]) (if w = 12 then ( 1 ) else ( 0 )) (fun x25 ex25 ls hl => ?_) (fun J24 => ?_)
              · refine r_qv X hw (r_runV X (c_q_finishes l G lv ad _ r x25 hL hB hr24 _) cy_X6_finishes ml_RX6_159 ⟨(Nat.le_of_ble_eq_true rfl), (Nat.le_of_ble_eq_true rfl)⟩ gP.blind (g_recv X hw 20 0 hL.1 rfl rfl) (gP_call X hw _) rfl hl.1 rfl (Nat.le_of_ble_eq_true rfl) dX6_does_96 ⟨(Nat.le_of_ble_eq_true rfl), (Nat.le_of_ble_eq_true rfl)⟩) (fun H locs hB hw => ?_)
                refine lv_goto (tgt := 109) hx hb dX6_does_99 (by decide) ?_
                subst ex25
                exact r_vret X hw hr hlk (Nat.le_of_ble_eq_true rfl) (Nat.le_of_ble_eq_true rfl) (gREv_of ((if_neg h1).trans ((if_neg h2).trans ((if_neg h8).trans ((if_neg h9).trans ((if_pos h21).trans ((if_pos h22).trans rfl)))))) hB) dX6_does_109
              · refine lv_icmp_ne (tgt := 95) hx hb dX6_does_88 (by decide) (fun h23 => ?_) (fun h23 => ?_)
                · refine lv_iconst (v := 0) hx hb dX6_does_95 (by decide) ?_
                  exact J24 _ ((if_neg h23).trans rfl).symm _ hl
                · refine lv_iconst (v := 1) hx hb dX6_does_91 (by decide) ?_
                  refine lv_goto (tgt := 96) hx hb dX6_does_92 (by decide) ?_
                  exact J24 _ ((if_pos h23).trans rfl).symm _ hl
            · refine lv_iload_n hx hb dX6_does_77 rfl (lv_at hl 2 rfl) ?_
              refine lv_bipush (v := 12) hx hb dX6_does_78 (by decide) ?_
              refine lv_icmp_ne (tgt := 102) hx hb dX6_does_80 (by decide) (fun h27 => ?_) (fun h27 => ?_)
              · refine lv_aload_n hx hb dX6_does_102 rfl (lv_at hl 0 rfl) ?_
                refine lv_iload_n hx hb dX6_does_103 rfl (lv_at hl 1 rfl) ?_
                refine lv_iload_n hx hb dX6_does_104 rfl (lv_at hl 2 rfl) ?_
                refine lv_iload_n hx hb dX6_does_105 rfl (lv_at hl 3 rfl) ?_
                refine r_qv X hw (r_runV X (c_q_moves l G lv ad _ r w a hL hB hr24 hf _) cy_X6_moves ml_RX6_163 ⟨(Nat.le_of_ble_eq_true rfl), (Nat.le_of_ble_eq_true rfl)⟩ gP.blind (g_recv X hw 20 0 hL.1 rfl rfl) (gP_call X hw _) rfl hl.1 rfl (Nat.le_of_ble_eq_true rfl) dX6_does_106 ⟨(Nat.le_of_ble_eq_true rfl), (Nat.le_of_ble_eq_true rfl)⟩) (fun H locs hB hw => ?_)
                exact r_vret X hw hr hlk (Nat.le_of_ble_eq_true rfl) (Nat.le_of_ble_eq_true rfl) (gREv_of ((if_neg h1).trans ((if_neg h2).trans ((if_neg h8).trans ((if_neg h9).trans ((if_pos h21).trans ((if_neg h22).trans ((if_neg h27).trans rfl))))))) hB) dX6_does_109
              · refine lv_aload_n hx hb dX6_does_83 rfl (lv_at hl 0 rfl) ?_
                refine lv_iload_n hx hb dX6_does_84 rfl (lv_at hl 1 rfl) ?_
                refine lv_iload_n hx hb dX6_does_85 rfl (lv_at hl 2 rfl) ?_
                refine lv_bipush (v := 12) hx hb dX6_does_86 (by decide) ?_
                refine r_J (nL := 4) (J := 96) (rest := [.int (nI r), .ref (ad 20 0)]) (L := [(0, .ref (ad 20 0)), (1, .int (nI r)), (2, .int w), (3, .int a)]) (if w = 12 then ( 1 ) else ( 0 )) (fun x31 ex31 ls hl => ?_) (fun J30 => ?_)
                · refine r_qv X hw (r_runV X (c_q_finishes l G lv ad _ r x31 hL hB hr24 _) cy_X6_finishes ml_RX6_159 ⟨(Nat.le_of_ble_eq_true rfl), (Nat.le_of_ble_eq_true rfl)⟩ gP.blind (g_recv X hw 20 0 hL.1 rfl rfl) (gP_call X hw _) rfl hl.1 rfl (Nat.le_of_ble_eq_true rfl) dX6_does_96 ⟨(Nat.le_of_ble_eq_true rfl), (Nat.le_of_ble_eq_true rfl)⟩) (fun H locs hB hw => ?_)
                  refine lv_goto (tgt := 109) hx hb dX6_does_99 (by decide) ?_
                  subst ex31
                  exact r_vret X hw hr hlk (Nat.le_of_ble_eq_true rfl) (Nat.le_of_ble_eq_true rfl) (gREv_of ((if_neg h1).trans ((if_neg h2).trans ((if_neg h8).trans ((if_neg h9).trans ((if_pos h21).trans ((if_neg h22).trans ((if_pos h27).trans rfl))))))) hB) dX6_does_109
                · refine lv_icmp_ne (tgt := 95) hx hb dX6_does_88 (by decide) (fun h29 => ?_) (fun h29 => ?_)
                  · refine lv_iconst (v := 0) hx hb dX6_does_95 (by decide) ?_
                    exact J30 _ ((if_neg h29).trans rfl).symm _ hl
                  · refine lv_iconst (v := 1) hx hb dX6_does_91 (by decide) ?_
                    refine lv_goto (tgt := 96) hx hb dX6_does_92 (by decide) ?_
                    exact J30 _ ((if_pos h29).trans rfl).symm _ hl
          · refine lv_aload_n hx hb dX6_does_62 rfl (lv_at hl 0 rfl) ?_
            refine lv_iload_n hx hb dX6_does_63 rfl (lv_at hl 1 rfl) ?_
            refine lv_iload_n hx hb dX6_does_64 rfl (lv_at hl 2 rfl) ?_
            refine r_qv X hw (r_runV X (c_q_reckons l G lv ad _ r w hL hB hr24 _) cy_X6_reckons ml_RX6_156 ⟨(Nat.le_of_ble_eq_true rfl), (Nat.le_of_ble_eq_true rfl)⟩ gP.blind (g_recv X hw 20 0 hL.1 rfl rfl) (gP_call X hw _) rfl hl.1 rfl (Nat.le_of_ble_eq_true rfl) dX6_does_65 ⟨(Nat.le_of_ble_eq_true rfl), (Nat.le_of_ble_eq_true rfl)⟩) (fun H locs hB hw => ?_)
            refine lv_goto (tgt := 109) hx hb dX6_does_68 (by decide) ?_
            exact r_vret X hw hr hlk (Nat.le_of_ble_eq_true rfl) (Nat.le_of_ble_eq_true rfl) (gREv_of ((if_neg h1).trans ((if_neg h2).trans ((if_neg h8).trans ((if_neg h9).trans ((if_neg h21).trans rfl))))) hB) dX6_does_109
      · refine lv_aload_n hx hb dX6_does_23 rfl (lv_at hl 0 rfl) ?_
        refine lv_iload_n hx hb dX6_does_24 rfl (lv_at hl 1 rfl) ?_
        refine lv_iload_n hx hb dX6_does_25 rfl (lv_at hl 2 rfl) ?_
        refine lv_iconst (v := 1) hx hb dX6_does_26 (by decide) ?_
        refine r_J (nL := 4) (J := 45) (rest := [.int (nI r), .ref (ad 20 0)]) (L := [(0, .ref (ad 20 0)), (1, .int (nI r)), (2, .int w), (3, .int a)]) (if w = 1 then ( a ) else ( let x35 : Int32 := C 21 21 ((8 * r) + a.toNatClampNeg); x35 )) (fun x37 ex37 ls hl => ?_) (fun J36 => ?_)
        · refine r_qv X hw (r_runV X (c_q_puts l G lv ad _ r x37 hL hB hr24 _) cy_X6_puts ml_RX6_140 ⟨(Nat.le_of_ble_eq_true rfl), (Nat.le_of_ble_eq_true rfl)⟩ gP.blind (g_recv X hw 20 0 hL.1 rfl rfl) (gP_call X hw _) rfl hl.1 rfl (Nat.le_of_ble_eq_true rfl) dX6_does_45 ⟨(Nat.le_of_ble_eq_true rfl), (Nat.le_of_ble_eq_true rfl)⟩) (fun H locs hB hw => ?_)
          refine lv_goto (tgt := 109) hx hb dX6_does_48 (by decide) ?_
          subst ex37
          exact r_vret X hw hr hlk (Nat.le_of_ble_eq_true rfl) (Nat.le_of_ble_eq_true rfl) (gREv_of ((if_neg h1).trans ((if_neg h2).trans ((if_pos h8).trans rfl))) hB) dX6_does_109
        · refine lv_icmp_ne (tgt := 34) hx hb dX6_does_27 (by decide) (fun h34 => ?_) (fun h34 => ?_)
          · obtain ⟨pfa, bfa⟩ : a = nI a.toNatClampNeg ∧ a.toNatClampNeg < 8 := by first | exact gFit_2 hf (by assumption) | (exfalso; contradiction)
            refine lv_aload_n hx hb dX6_does_34 rfl (lv_at hl 0 rfl) ?_
            refine r_get X hw 20 _ 21 (hL.1) rfl rfl k_X6 (by decide) fl_RX6_70 dX6_does_35 ?_
            refine lv_bipush (v := 8) hx hb dX6_does_38 (by decide) ?_
            refine lv_iload_n hx hb dX6_does_40 rfl (lv_at hl 1 rfl) ?_
            refine lv_imul hx hb dX6_does_41 ?_
            refine lv_iload_n hx hb dX6_does_42 rfl (lv_at hl 3 rfl) ?_
            refine lv_iadd hx hb dX6_does_43 ?_
            refine q_iald X hw 21 (hL.2 21 (by decide) (by decide) (by decide)) (j := ((8 * r) + a.toNatClampNeg)) (nat_add (nat_mul (show (8 : Int32) = nI 8 from rfl) rfl) pfa) (show ((8 * r) + a.toNatClampNeg) < 192 by omega) dX6_does_44 ?_
            refine lv_topi (fun x35 ex35 => ?_)
            subst ex35; exact J36 _ ((if_neg h34).trans rfl).symm _ hl
          · refine lv_iload_n hx hb dX6_does_30 rfl (lv_at hl 3 rfl) ?_
            refine lv_goto (tgt := 45) hx hb dX6_does_31 (by decide) ?_
            exact J36 _ ((if_pos h34).trans rfl).symm _ hl
  · obtain ⟨pfa, bfa⟩ := gFit_0 hf h1
    refine lv_aload_n hx hb dX6_does_4 rfl (lv_at hl 0 rfl) ?_
    refine lv_iload_n hx hb dX6_does_5 rfl (lv_at hl 1 rfl) ?_
    refine lv_iload_n hx hb dX6_does_6 rfl (lv_at hl 3 rfl) ?_
    refine W.eq (g2 := F0 m 7 ls [.int (nI a.toNatClampNeg), .int (nI r), .ref (ad 20 0)]) (by rw [← (pfa)]) ?_
    refine r_qv X hw (r_runV X (c_q_asks l G lv ad _ r a.toNatClampNeg hL hB hr24 bfa _) cy_X6_asks ml_RX6_153 ⟨(Nat.le_of_ble_eq_true rfl), (Nat.le_of_ble_eq_true rfl)⟩ gP.blind (g_recv X hw 20 0 hL.1 rfl rfl) (gP_call X hw _) rfl hl.1 rfl (Nat.le_of_ble_eq_true rfl) dX6_does_7 ⟨(Nat.le_of_ble_eq_true rfl), (Nat.le_of_ble_eq_true rfl)⟩) (fun H locs hB hw => ?_)
    refine lv_goto (tgt := 109) hx hb dX6_does_10 (by decide) ?_
    exact r_vret X hw hr hlk (Nat.le_of_ble_eq_true rfl) (Nat.le_of_ble_eq_true rfl) (gREv_of ((if_pos h1).trans rfl) hB) dX6_does_109

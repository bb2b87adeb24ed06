section GJH
variable {p : Program} {l : Launch} {e : Env} {R : Room} {s : State} {m : MethodId} {args : Array Value} {below : List Frame} {meth : Method} {c : Code} {H : Heap} {locs : List Loc} {cells slots : Nat} {Q : State → Prop}
theorem r_JH {G : gG} {lv : gLv} {ad : gAd} {C : gCT} {pc J nL : Nat} {ls : Array Slot} {st rest : List Value} {L : List (Nat × Value)} (T : Int32) (k : ∀ x, x = T → ∀ H locs, gW G (gA lv ad s.heap.size) s.heap H locs lv ad (gF G C ad) → ∀ ls', lv_has ls' nL L → W p l e R s m args below meth c H locs cells slots Q (F0 m J ls' (.int x :: rest)))
    (b : (∀ x, x = T → ∀ H locs, gW G (gA lv ad s.heap.size) s.heap H locs lv ad (gF G C ad) → ∀ ls', lv_has ls' nL L → W p l e R s m args below meth c H locs cells slots Q (F0 m J ls' (.int x :: rest))) → W p l e R s m args below meth c H locs cells slots Q (F0 m pc ls st)) : W p l e R s m args below meth c H locs cells slots Q (F0 m pc ls st) := b k
end GJH
def q_countOf_L (n0 : Nat) (C : gCT) (n1 : Int32) (mn : Int32) (k : Nat) : Int32 × gCT := match n0 with
  | 0 => (0, C)
  | n0 + 1 =>
    let x101 : Int32 := C 20 0 2;
    if x101 ≤ (nI k) then (
      (mn, C)
    ) else (
      let x103 : Int32 := C 21 30 k;
      let x106 : Int32 :=
        if x103 = n1 then (
          1
        ) else (
          0
        );
      let x107 : Int32 := mn + x106;
      q_countOf_L n0 C n1 x107 (k + 1)
    )
def q_countOf (C : gCT) (n1 : Int32) : Int32 × gCT :=
  q_countOf_L 513 C n1 0 0
set_option maxHeartbeats 4000000 in
set_option maxRecDepth 100000 in
theorem c_q_countOf (l : Launch) (G : gG) (lv : gLv) (ad : gAd) (C : gCT) (n1 : Int32) (hL : gLM lv) (hB : MBI C)  : gMi l yX6_countOf cX6_countOf 4 (some .int) (gRm 0 0 0 0) G [.ref (ad 20 0), .int n1] lv ad (gF G C ad) (gRi G lv ad MBI (q_countOf C n1)) := by
  refine r_met (own := RX6) (by decide) rfl (Nat.le_of_ble_eq_true rfl) ?_
  intro p e s m below meth c ls X hw hr hlk _ hl
  have hx := X.1.1; have hb := X.1.2.1; have hml := X.1.2.2.1; have hown := X.1.2.2.2.1; have hts := X.1.2.2.2.2
  have hl : lv_has ls 4 [(0, .ref (ad 20 0)), (1, .int n1)] := hl
  have L_q_countOf_L : ∀ (n0 : Nat) (mn : Int32) (k : Nat), MBI C → (k ≤ (C 20 0 2).toNatClampNeg ∧ (C 20 0 2).toNatClampNeg < k + n0) → ∀ (H : Heap) (locs : List Loc), gW G (gA lv ad s.heap.size) s.heap H locs lv ad (gF G C ad) → ∀ ls : Array Slot, lv_has ls 4 [(0, .ref (ad 20 0)), (1, .int n1), (2, .int mn), (3, .int (nI k))] → W p l e (gRm 0 0 0 0) s m ([.ref (ad 20 0), .int n1] : List Value).toArray below meth c H locs 0 0 (MQ below (gQi G (gA lv ad s.heap.size) (gRi G lv ad MBI (q_countOf_L n0 C n1 mn k))) ([.ref (ad 20 0), .int n1] : List Value).toArray s (gRm 0 0 0 0).cells (gRm 0 0 0 0).slots (gA lv ad s.heap.size)) (F0 m 4 ls []) := by
    intro n0
    induction n0 with
    | zero => intro mn k _ hinv; exact absurd hinv (by rintro ⟨h1, h2⟩; omega)
    | succ n0 ih =>
      intro mn k hB hinv H locs hw ls hl
      obtain ⟨hi1, hi2⟩ := hinv; have hi0 := (hB.answers (x := C 20 0 2) rfl).2
      refine lv_iload_n hx hb dX6_countOf_4 rfl (lv_at hl 3 rfl) ?_
      refine lv_aload_n hx hb dX6_countOf_5 rfl (lv_at hl 0 rfl) ?_
      refine r_get X hw 20 _ 34 (hL.1) rfl rfl k_X6 (by decide) fl_RX6_133 dX6_countOf_6 ?_
      refine lv_topi (fun x101 ex101 => ?_)
      obtain ⟨px101, bx101⟩ := MBI.answers hB ex101
      refine lv_icmp_ge (tgt := 36) hx hb dX6_countOf_9 (by decide) (fun h102 => ?_) (fun h102 => ?_)
      · have nh102 := (nat_le px101 rfl (by omega) (by omega)).mp h102
        refine lv_iload_n hx hb dX6_countOf_36 rfl (lv_at hl 2 rfl) ?_
        subst ex101
        exact r_iret X hw hr rfl hlk (Nat.le_of_ble_eq_true rfl) (Nat.le_of_ble_eq_true rfl) (gRE_of ((if_pos h102).trans rfl) hB) dX6_countOf_37
      · have nh102 := (not_congr (nat_le px101 rfl (by omega) (by omega))).mp h102
        refine lv_iload_n hx hb dX6_countOf_12 rfl (lv_at hl 2 rfl) ?_
        refine lv_aload_n hx hb dX6_countOf_13 rfl (lv_at hl 0 rfl) ?_
        refine r_get X hw 20 _ 30 (hL.1) rfl rfl k_X6 (by decide) fl_RX6_94 dX6_countOf_14 ?_
        refine lv_iload_n hx hb dX6_countOf_17 rfl (lv_at hl 3 rfl) ?_
        refine q_iald X hw 30 (hL.2 30 (by decide) (by decide) (by decide)) (j := k) rfl (show k < 1024 by omega) dX6_countOf_18 ?_
        refine lv_topi (fun x103 ex103 => ?_)
        refine lv_iload_n hx hb dX6_countOf_19 rfl (lv_at hl 1 rfl) ?_
        refine r_J (nL := 4) (J := 28) (rest := [.int mn]) (L := [(0, .ref (ad 20 0)), (1, .int n1), (2, .int mn), (3, .int (nI k))]) (if x103 = n1 then ( 1 ) else ( 0 )) (fun x106 ex106 ls hl => ?_) (fun J105 => ?_)
        · refine lv_iadd hx hb dX6_countOf_28 ?_
          refine lv_topi (fun x107 ex107 => ?_)
          refine lv_istore_n (lv' := [(2, .int x107), (0, .ref (ad 20 0)), (1, .int n1), (3, .int (nI k))]) hx hb dX6_countOf_29 rfl hl (by decide) rfl (fun ls hl => ?_)
          refine lv_iinc (v := nI (k + 1)) (lv' := [(3, .int (nI (k + 1))), (2, .int x107), (0, .ref (ad 20 0)), (1, .int n1)]) hx hb dX6_countOf_30 hl (k := 3) rfl (by rw [← nI_1]; rfl) (by decide) rfl (fun ls hl => ?_)
          refine lv_goto (tgt := 4) hx hb dX6_countOf_33 (by decide) ?_
          subst ex107 ex106 ex103 ex101
          exact r_toQI (ih _ (k + 1) hB (⟨by omega, by omega⟩) _ _ hw _ (lv_sub hl [2, 3, 1, 0] rfl)) ((if_neg h102).trans rfl)
        · refine lv_icmp_ne (tgt := 27) hx hb dX6_countOf_20 (by decide) (fun h104 => ?_) (fun h104 => ?_)
          · refine lv_iconst (v := 0) hx hb dX6_countOf_27 (by decide) ?_
            exact J105 _ ((if_neg h104).trans rfl).symm _ hl
          · refine lv_iconst (v := 1) hx hb dX6_countOf_23 (by decide) ?_
            refine lv_goto (tgt := 28) hx hb dX6_countOf_24 (by decide) ?_
            exact J105 _ ((if_pos h104).trans rfl).symm _ hl
  refine lv_iconst (v := 0) hx hb dX6_countOf_0 (by decide) ?_
  refine lv_istore_n (lv' := [(2, .int 0), (0, .ref (ad 20 0)), (1, .int n1)]) hx hb dX6_countOf_1 rfl hl (by decide) rfl (fun ls hl => ?_)
  refine lv_iconst (v := 0) hx hb dX6_countOf_2 (by decide) ?_
  refine lv_istore_n (lv' := [(3, .int 0), (2, .int 0), (0, .ref (ad 20 0)), (1, .int n1)]) hx hb dX6_countOf_3 rfl hl (by decide) rfl (fun ls hl => ?_)
  exact r_toQI (L_q_countOf_L 513 _ 0 hB (⟨Nat.zero_le _, by have := (hB.answers rfl).2; omega⟩) _ _ hw _ (lv_sub hl [2, 3, 1, 0] rfl)) (rfl)
theorem q_countOf_L_C (n0 : Nat) (C : gCT) (n1 mn : Int32) (k : Nat) : (q_countOf_L n0 C n1 mn k).2 = C := by
  induction n0 generalizing mn k with
  | zero => rfl
  | succ n0 ih =>
    unfold q_countOf_L
    dsimp only
    split
    · rfl
    · exact ih _ _
theorem q_countOf_C (C : gCT) (n1 : Int32) : (q_countOf C n1).2 = C := q_countOf_L_C _ _ _ _ _
def q_answers (C : gCT) (n1 : Int32) : Int32 × gCT :=
  let x1 : Int32 := (q_isRun C n1).1;
  let x2 : Int32 := if q_thr x1 1 1 = 0 then 1 else 0;
  let C3 : gCT := cs C 20 0 3 (q_thr x1 1 1);
  if x2 = 0 then (
    (0, C3)
  ) else (
    let x5 : Int32 := (q_countOf C3 n1).1;
    (x5, C3)
  )
set_option maxHeartbeats 4000000 in
set_option maxRecDepth 100000 in
theorem c_q_answers (l : Launch) (G : gG) (lv : gLv) (ad : gAd) (C : gCT) (n1 : Int32) (hL : gLM lv) (hB : MBI C)  : gMi l yX6_answers cX6_answers 2 (some .int) (gRm 2 42 0 0) G [.ref (ad 20 0), .int n1] lv ad (gF G C ad) (gRi G lv ad MBI (q_answers C n1)) := by
  refine r_met (own := RX6) (by decide) rfl (Nat.le_of_ble_eq_true rfl) ?_
  intro p e s m below meth c ls X hw hr hlk _ hl
  have hx := X.1.1; have hb := X.1.2.1; have hml := X.1.2.2.1; have hown := X.1.2.2.2.1; have hts := X.1.2.2.2.2
  have hl : lv_has ls 2 [(0, .ref (ad 20 0)), (1, .int n1)] := hl
  have hB0 := hB
  refine lv_aload_n hx hb dX6_answers_0 rfl (lv_at hl 0 rfl) ?_
  refine lv_aload_n hx hb dX6_answers_1 rfl (lv_at hl 0 rfl) ?_
  refine lv_iload_n hx hb dX6_answers_2 rfl (lv_at hl 1 rfl) ?_
  refine r_qiro X hw (q_isRun_C _ n1) (r_runV X (c_q_isRun l G lv ad _ n1 hL hB  _) cy_X6_isRun ml_RX6_180 ⟨(Nat.le_of_ble_eq_true rfl), (Nat.le_of_ble_eq_true rfl)⟩ gP.blind (g_recv X hw 20 0 hL.1 rfl rfl) (gP_call X hw _) rfl hl.1 rfl (Nat.le_of_ble_eq_true rfl) dX6_answers_3 ⟨(Nat.le_of_ble_eq_true rfl), (Nat.le_of_ble_eq_true rfl)⟩) (fun H locs hw => ?_)
  refine lv_topi (fun x1 ex1 => ?_)
  refine lv_iconst (v := 1) hx hb dX6_answers_6 (by decide) ?_
  refine lv_iconst (v := 1) hx hb dX6_answers_7 (by decide) ?_
  refine r_qi X hw (r_runV X (c_q_goes1 l G lv ad _ x1 1 1 hL hB _) cy_X6_goes ml_RX6_121 ⟨(Nat.le_of_ble_eq_true rfl), (Nat.le_of_ble_eq_true rfl)⟩ gP.blind (g_recv X hw 20 0 hL.1 rfl rfl) (gP_call X hw _) rfl hl.1 rfl (Nat.le_of_ble_eq_true rfl) dX6_answers_8 ⟨(Nat.le_of_ble_eq_true rfl), (Nat.le_of_ble_eq_true rfl)⟩) (fun H locs hB hw => ?_)
  dsimp only at hB hw
  refine lv_topi (fun x2 ex2 => ?_)
  have ex2 : x2 = (if q_thr x1 1 1 = 0 then 1 else 0) := ex2
  refine lv_if_eq (tgt := 22) hx hb dX6_answers_11 (by decide) (fun h4 => ?_) (fun h4 => ?_)
  · refine lv_iconst (v := 0) hx hb dX6_answers_22 (by decide) ?_
    subst ex2 ex1
    exact r_iret X hw hr rfl hlk (Nat.le_of_ble_eq_true rfl) (Nat.le_of_ble_eq_true rfl) (gRE_of ((if_pos h4).trans rfl) hB) dX6_answers_23
  · obtain ⟨g1, g2, g3⟩ := q_goes_of (a := x1) (b := 1) (c := 1) (by rw [← ex2]; exact h4)
    obtain ⟨pn1, bn1, rn1⟩ := q_isRun_of hB0 (n := n1) (by rw [← ex1]; exact g1)
    refine lv_aload_n hx hb dX6_answers_14 rfl (lv_at hl 0 rfl) ?_
    refine lv_iload_n hx hb dX6_answers_15 rfl (lv_at hl 1 rfl) ?_
    refine r_qiro X hw (q_countOf_C _ n1) (r_runV X (c_q_countOf l G lv ad _ n1 hL hB  _) cy_X6_countOf ml_RX6_189 ⟨(Nat.le_of_ble_eq_true rfl), (Nat.le_of_ble_eq_true rfl)⟩ gP.blind (g_recv X hw 20 0 hL.1 rfl rfl) (gP_call X hw _) rfl hl.1 rfl (Nat.le_of_ble_eq_true rfl) dX6_answers_16 ⟨(Nat.le_of_ble_eq_true rfl), (Nat.le_of_ble_eq_true rfl)⟩) (fun H locs hw => ?_)
    refine lv_topi (fun x5 ex5 => ?_)
    refine lv_goto (tgt := 23) hx hb dX6_answers_19 (by decide) ?_
    subst ex5 ex2 ex1
    exact r_iret X hw hr rfl hlk (Nat.le_of_ble_eq_true rfl) (Nat.le_of_ble_eq_true rfl) (gRE_of ((if_neg h4).trans rfl) hB) dX6_answers_23
def q_answerAt_L (n0 : Nat) (D : gCT) (n1 n2 : Int32) (lf : Int32) (fd : Int32) (k : Nat) : Int32 × gCT := match n0 with
  | 0 => (0, D)
  | n0 + 1 =>
    let x101 : Int32 := D 20 0 2;
    if x101 ≤ (nI k) then (
      (fd, D)
    ) else (
      let x103 : Int32 := D 21 30 k;
      let x106 : Int32 :=
        if x103 = n1 then (
          1
        ) else (
          0
        );
      let x116 : Int32 :=
        if x106 = 0 then (
          fd
        ) else (
          if lf = 0 then (
            let x109 : Int32 := D 21 32 k;
            let x110 : Int32 := 1000 * x109;
            let x111 : Int32 := D 21 31 k;
            let x112 : Int32 := x110 + (10 * x111);
            let x113 : Int32 := D 21 33 k;
            let x114 : Int32 := x112 + x113;
            x114
          ) else (
            fd
          )
        );
      let x119 : Int32 :=
        if x106 = 0 then (
          0
        ) else (
          1
        );
      let x120 : Int32 := lf - x119;
      q_answerAt_L n0 D n1 n2 x120 x116 (k + 1)
    )
def q_answerAt (C : gCT) (n1 n2 : Int32) : Int32 × gCT :=
  let x1 : Int32 := (q_isRun C n1).1;
  let x7 : Int32 :=
    if x1 = 0 then (
      0
    ) else (
      if n2 < 0 then (
        0
      ) else (
        let x4 : Int32 := (q_countOf C n1).1;
        if x4 ≤ n2 then (
          0
        ) else (
          1
        )
      )
    );
  let x8 : Int32 := if q_thr x7 1 1 = 0 then 1 else 0;
  let C9 : gCT := cs C 20 0 3 (q_thr x7 1 1);
  if x8 = 0 then (
    (0, C9)
  ) else (
    q_answerAt_L 513 C9 n1 n2 n2 0 0
  )
set_option maxHeartbeats 4000000 in
set_option maxRecDepth 100000 in
theorem c_q_answerAt (l : Launch) (G : gG) (lv : gLv) (ad : gAd) (C : gCT) (n1 n2 : Int32) (hL : gLM lv) (hB : MBI C)  : gMi l yX6_answerAt cX6_answerAt 7 (some .int) (gRm 2 42 0 0) G [.ref (ad 20 0), .int n1, .int n2] lv ad (gF G C ad) (gRi G lv ad MBI (q_answerAt C n1 n2)) := by
  refine r_met (own := RX6) (by decide) rfl (Nat.le_of_ble_eq_true rfl) ?_
  intro p e s m below meth c ls X hw hr hlk _ hl
  have hx := X.1.1; have hb := X.1.2.1; have hml := X.1.2.2.1; have hown := X.1.2.2.2.1; have hts := X.1.2.2.2.2
  have hl : lv_has ls 7 [(0, .ref (ad 20 0)), (1, .int n1), (2, .int n2)] := hl
  have hB0 := hB
  have L_q_answerAt_L : ∀ (n0 : Nat) (D : gCT) (lf : Int32) (fd : Int32) (k : Nat), MBI D → (k ≤ (D 20 0 2).toNatClampNeg ∧ (D 20 0 2).toNatClampNeg < k + n0) → ∀ (H : Heap) (locs : List Loc), gW G (gA lv ad s.heap.size) s.heap H locs lv ad (gF G D ad) → ∀ ls : Array Slot, lv_has ls 7 [(0, .ref (ad 20 0)), (1, .int n1), (2, .int n2), (3, .int lf), (4, .int fd), (5, .int (nI k))] → W p l e (gRm 2 42 0 0) s m ([.ref (ad 20 0), .int n1, .int n2] : List Value).toArray below meth c H locs 0 0 (MQ below (gQi G (gA lv ad s.heap.size) (gRi G lv ad MBI (q_answerAt_L n0 D n1 n2 lf fd k))) ([.ref (ad 20 0), .int n1, .int n2] : List Value).toArray s (gRm 2 42 0 0).cells (gRm 2 42 0 0).slots (gA lv ad s.heap.size)) (F0 m 45 ls []) := by
    intro n0
    induction n0 with
    | zero => intro D lf fd k _ hinv; exact absurd hinv (by rintro ⟨h1, h2⟩; omega)
    | succ n0 ih =>
      intro D lf fd k hB hinv H locs hw ls hl
      obtain ⟨hi1, hi2⟩ := hinv; have hi0 := (hB.answers (x := D 20 0 2) rfl).2
      refine lv_iload hx hb dX6_answerAt_45 (lv_at hl 5 rfl) ?_
      refine lv_aload_n hx hb dX6_answerAt_47 rfl (lv_at hl 0 rfl) ?_
      refine r_get X hw 20 _ 34 (hL.1) rfl rfl k_X6 (by decide) fl_RX6_133 dX6_answerAt_48 ?_
      refine lv_topi (fun x101 ex101 => ?_)
      obtain ⟨px101, bx101⟩ := MBI.answers hB ex101
      refine lv_icmp_ge (tgt := 137) hx hb dX6_answerAt_51 (by decide) (fun h102 => ?_) (fun h102 => ?_)
      · have nh102 := (nat_le px101 rfl (by omega) (by omega)).mp h102
        refine lv_iload hx hb dX6_answerAt_137 (lv_at hl 4 rfl) ?_
        subst ex101
        exact r_iret X hw hr rfl hlk (Nat.le_of_ble_eq_true rfl) (Nat.le_of_ble_eq_true rfl) (gRE_of ((if_pos h102).trans rfl) hB) dX6_answerAt_139
      · have nh102 := (not_congr (nat_le px101 rfl (by omega) (by omega))).mp h102
        refine lv_aload_n hx hb dX6_answerAt_54 rfl (lv_at hl 0 rfl) ?_
        refine r_get X hw 20 _ 30 (hL.1) rfl rfl k_X6 (by decide) fl_RX6_94 dX6_answerAt_55 ?_
        refine lv_iload hx hb dX6_answerAt_58 (lv_at hl 5 rfl) ?_
        refine q_iald X hw 30 (hL.2 30 (by decide) (by decide) (by decide)) (j := k) rfl (show k < 1024 by omega) dX6_answerAt_60 ?_
        refine lv_topi (fun x103 ex103 => ?_)
        refine lv_iload_n hx hb dX6_answerAt_61 rfl (lv_at hl 1 rfl) ?_
        refine r_J (nL := 7) (J := 70) (rest := []) (L := [(0, .ref (ad 20 0)), (1, .int n1), (2, .int n2), (3, .int lf), (4, .int fd), (5, .int (nI k))]) (if x103 = n1 then ( 1 ) else ( 0 )) (fun x106 ex106 ls hl => ?_) (fun J105 => ?_)
        · refine lv_istore (lv' := [(6, .int x106), (0, .ref (ad 20 0)), (1, .int n1), (2, .int n2), (3, .int lf), (4, .int fd), (5, .int (nI k))]) hx hb dX6_answerAt_70 hl (by decide) rfl (fun ls hl => ?_)
          refine lv_iload hx hb dX6_answerAt_72 (lv_at hl 0 rfl) ?_
          refine r_J (nL := 7) (J := 116) (rest := []) (L := [(6, .int x106), (0, .ref (ad 20 0)), (1, .int n1), (2, .int n2), (3, .int lf), (4, .int fd), (5, .int (nI k))]) (if x106 = 0 then ( fd ) else ( if lf = 0 then ( let x109 : Int32 := D 21 32 k; let x110 : Int32 := 1000 * x109; let x111 : Int32 := D 21 31 k; let x112 : Int32 := x110 + (10 * x111); let x113 : Int32 := D 21 33 k; let x114 : Int32 := x112 + x113; x114 ) else ( fd ) )) (fun x116 ex116 ls hl => ?_) (fun J115 => ?_)
          · refine lv_istore (lv' := [(4, .int x116), (6, .int x106), (0, .ref (ad 20 0)), (1, .int n1), (2, .int n2), (3, .int lf), (5, .int (nI k))]) hx hb dX6_answerAt_116 hl (by decide) rfl (fun ls hl => ?_)
            refine lv_iload_n hx hb dX6_answerAt_118 rfl (lv_at hl 5 rfl) ?_
            refine lv_iload hx hb dX6_answerAt_119 (lv_at hl 1 rfl) ?_
            refine r_J (nL := 7) (J := 129) (rest := [.int lf]) (L := [(4, .int x116), (6, .int x106), (0, .ref (ad 20 0)), (1, .int n1), (2, .int n2), (3, .int lf), (5, .int (nI k))]) (if x106 = 0 then ( 0 ) else ( 1 )) (fun x119 ex119 ls hl => ?_) (fun J118 => ?_)
            · refine lv_isub hx hb dX6_answerAt_129 ?_
              refine lv_topi (fun x120 ex120 => ?_)
              refine lv_istore_n (lv' := [(3, .int x120), (4, .int x116), (6, .int x106), (0, .ref (ad 20 0)), (1, .int n1), (2, .int n2), (5, .int (nI k))]) hx hb dX6_answerAt_130 rfl hl (by decide) rfl (fun ls hl => ?_)
              refine lv_iinc (v := nI (k + 1)) (lv' := [(5, .int (nI (k + 1))), (3, .int x120), (4, .int x116), (6, .int x106), (0, .ref (ad 20 0)), (1, .int n1), (2, .int n2)]) hx hb dX6_answerAt_131 hl (k := 6) rfl (by rw [← nI_1]; rfl) (by decide) rfl (fun ls hl => ?_)
              refine lv_goto (tgt := 45) hx hb dX6_answerAt_134 (by decide) ?_
              subst ex120 ex119 ex116 ex106 ex103 ex101
              exact r_toQI (ih _ _ _ (k + 1) hB (⟨by omega, by omega⟩) _ _ hw _ (lv_sub hl [4, 5, 6, 1, 2, 0] rfl)) ((if_neg h102).trans rfl)
            · refine lv_if_eq (tgt := 128) hx hb dX6_answerAt_121 (by decide) (fun h117 => ?_) (fun h117 => ?_)
              · refine lv_iconst (v := 0) hx hb dX6_answerAt_128 (by decide) ?_
                exact J118 _ ((if_pos h117).trans rfl).symm _ hl
              · refine lv_iconst (v := 1) hx hb dX6_answerAt_124 (by decide) ?_
                refine lv_goto (tgt := 129) hx hb dX6_answerAt_125 (by decide) ?_
                exact J118 _ ((if_neg h117).trans rfl).symm _ hl
          · refine lv_if_eq (tgt := 114) hx hb dX6_answerAt_74 (by decide) (fun h107 => ?_) (fun h107 => ?_)
            · refine lv_iload hx hb dX6_answerAt_114 (lv_at hl 5 rfl) ?_
              exact J115 _ ((if_pos h107).trans rfl).symm _ hl
            · refine lv_iload_n hx hb dX6_answerAt_77 rfl (lv_at hl 4 rfl) ?_
              refine lv_if_ne (tgt := 114) hx hb dX6_answerAt_78 (by decide) (fun h108 => ?_) (fun h108 => ?_)
              · refine lv_iload hx hb dX6_answerAt_114 (lv_at hl 5 rfl) ?_
                exact J115 _ ((if_neg h107).trans ((if_neg h108).trans rfl)).symm _ hl
              · refine lv_sipush (v := 1000) hx hb dX6_answerAt_81 (by decide) ?_
                refine lv_aload_n hx hb dX6_answerAt_84 rfl (lv_at hl 1 rfl) ?_
                refine r_get X hw 20 _ 32 (hL.1) rfl rfl k_X6 (by decide) fl_RX6_100 dX6_answerAt_85 ?_
                refine lv_iload hx hb dX6_answerAt_88 (lv_at hl 6 rfl) ?_
                refine q_iald X hw 32 (hL.2 32 (by decide) (by decide) (by decide)) (j := k) rfl (show k < 1024 by omega) dX6_answerAt_90 ?_
                refine lv_topi (fun x109 ex109 => ?_)
                refine lv_imul hx hb dX6_answerAt_91 ?_
                refine lv_topi (fun x110 ex110 => ?_)
                refine lv_bipush (v := 10) hx hb dX6_answerAt_92 (by decide) ?_
                refine lv_aload_n hx hb dX6_answerAt_94 rfl (lv_at hl 1 rfl) ?_
                refine r_get X hw 20 _ 31 (hL.1) rfl rfl k_X6 (by decide) fl_RX6_97 dX6_answerAt_95 ?_
                refine lv_iload hx hb dX6_answerAt_98 (lv_at hl 6 rfl) ?_
                refine q_iald X hw 31 (hL.2 31 (by decide) (by decide) (by decide)) (j := k) rfl (show k < 1024 by omega) dX6_answerAt_100 ?_
                refine lv_topi (fun x111 ex111 => ?_)
                obtain ⟨px111, bx111⟩ := MBI.get hB 31 k (show k < 1024 by omega) (by decide) ex111
                have bx111 : x111.toNatClampNeg < 16 := bx111
                refine lv_imul hx hb dX6_answerAt_101 ?_
                refine lv_iadd hx hb dX6_answerAt_102 ?_
                refine lv_topi (fun x112 ex112 => ?_)
                refine lv_aload_n hx hb dX6_answerAt_103 rfl (lv_at hl 1 rfl) ?_
                refine r_get X hw 20 _ 33 (hL.1) rfl rfl k_X6 (by decide) fl_RX6_103 dX6_answerAt_104 ?_
                refine lv_iload hx hb dX6_answerAt_107 (lv_at hl 6 rfl) ?_
                refine q_iald X hw 33 (hL.2 33 (by decide) (by decide) (by decide)) (j := k) rfl (show k < 1024 by omega) dX6_answerAt_109 ?_
                refine lv_topi (fun x113 ex113 => ?_)
                refine lv_iadd hx hb dX6_answerAt_110 ?_
                refine lv_topi (fun x114 ex114 => ?_)
                refine lv_goto (tgt := 116) hx hb dX6_answerAt_111 (by decide) ?_
                subst ex114 ex113 ex112 ex111 ex110 ex109; exact J115 _ ((if_neg h107).trans ((if_pos h108).trans rfl)).symm _ hl
        · refine lv_icmp_ne (tgt := 69) hx hb dX6_answerAt_62 (by decide) (fun h104 => ?_) (fun h104 => ?_)
          · refine lv_iconst (v := 0) hx hb dX6_answerAt_69 (by decide) ?_
            exact J105 _ ((if_neg h104).trans rfl).symm _ hl
          · refine lv_iconst (v := 1) hx hb dX6_answerAt_65 (by decide) ?_
            refine lv_goto (tgt := 70) hx hb dX6_answerAt_66 (by decide) ?_
            exact J105 _ ((if_pos h104).trans rfl).symm _ hl
  refine lv_aload_n hx hb dX6_answerAt_0 rfl (lv_at hl 0 rfl) ?_
  refine lv_aload_n hx hb dX6_answerAt_1 rfl (lv_at hl 0 rfl) ?_
  refine lv_iload_n hx hb dX6_answerAt_2 rfl (lv_at hl 1 rfl) ?_
  refine r_qiro X hw (q_isRun_C _ n1) (r_runV X (c_q_isRun l G lv ad _ n1 hL hB  _) cy_X6_isRun ml_RX6_180 ⟨(Nat.le_of_ble_eq_true rfl), (Nat.le_of_ble_eq_true rfl)⟩ gP.blind (g_recv X hw 20 0 hL.1 rfl rfl) (gP_call X hw _) rfl hl.1 rfl (Nat.le_of_ble_eq_true rfl) dX6_answerAt_3 ⟨(Nat.le_of_ble_eq_true rfl), (Nat.le_of_ble_eq_true rfl)⟩) (fun H locs hw => ?_)
  refine lv_topi (fun x1 ex1 => ?_)
  refine r_JH (G := G) (lv := lv) (ad := ad) (C := C) (nL := 7) (J := 27) (rest := [.ref (ad 20 0)]) (L := [(0, .ref (ad 20 0)), (1, .int n1), (2, .int n2)]) (if x1 = 0 then ( 0 ) else ( if n2 < 0 then ( 0 ) else ( let x4 : Int32 := (q_countOf C n1).1; if x4 ≤ n2 then ( 0 ) else ( 1 ) ) )) (fun x7 ex7 H locs hw ls hl => ?_) (fun J6 => ?_)
  · refine lv_iconst (v := 1) hx hb dX6_answerAt_27 (by decide) ?_
    refine lv_iconst (v := 1) hx hb dX6_answerAt_28 (by decide) ?_
    refine r_qi X hw (r_runV X (c_q_goes1 l G lv ad _ x7 1 1 hL hB _) cy_X6_goes ml_RX6_121 ⟨(Nat.le_of_ble_eq_true rfl), (Nat.le_of_ble_eq_true rfl)⟩ gP.blind (g_recv X hw 20 0 hL.1 rfl rfl) (gP_call X hw _) rfl hl.1 rfl (Nat.le_of_ble_eq_true rfl) dX6_answerAt_29 ⟨(Nat.le_of_ble_eq_true rfl), (Nat.le_of_ble_eq_true rfl)⟩) (fun H locs hB hw => ?_)
    dsimp only at hB hw
    refine lv_topi (fun x8 ex8 => ?_)
    have ex8 : x8 = (if q_thr x7 1 1 = 0 then 1 else 0) := ex8
    refine lv_if_ne (tgt := 37) hx hb dX6_answerAt_32 (by decide) (fun h10 => ?_) (fun h10 => ?_)
    · refine lv_iload_n hx hb dX6_answerAt_37 rfl (lv_at hl 2 rfl) ?_
      refine lv_istore_n (lv' := [(3, .int n2), (0, .ref (ad 20 0)), (1, .int n1), (2, .int n2)]) hx hb dX6_answerAt_38 rfl hl (by decide) rfl (fun ls hl => ?_)
      refine lv_iconst (v := 0) hx hb dX6_answerAt_39 (by decide) ?_
      refine lv_istore (lv' := [(4, .int 0), (3, .int n2), (0, .ref (ad 20 0)), (1, .int n1), (2, .int n2)]) hx hb dX6_answerAt_40 hl (by decide) rfl (fun ls hl => ?_)
      refine lv_iconst (v := 0) hx hb dX6_answerAt_42 (by decide) ?_
      refine lv_istore (lv' := [(5, .int 0), (4, .int 0), (3, .int n2), (0, .ref (ad 20 0)), (1, .int n1), (2, .int n2)]) hx hb dX6_answerAt_43 hl (by decide) rfl (fun ls hl => ?_)
      subst ex8 ex7 ex1
      exact r_toQI (L_q_answerAt_L 513 _ _ _ 0 hB (⟨Nat.zero_le _, by have := (hB.answers rfl).2; omega⟩) _ _ hw _ (lv_sub hl [3, 4, 5, 2, 1, 0] rfl)) ((if_neg h10).trans rfl)
    · refine lv_iconst (v := 0) hx hb dX6_answerAt_35 (by decide) ?_
      subst ex8 ex7 ex1
      exact r_iret X hw hr rfl hlk (Nat.le_of_ble_eq_true rfl) (Nat.le_of_ble_eq_true rfl) (gRE_of ((if_pos h10).trans rfl) hB) dX6_answerAt_36
  · refine lv_if_eq (tgt := 26) hx hb dX6_answerAt_6 (by decide) (fun h2 => ?_) (fun h2 => ?_)
    · refine lv_iconst (v := 0) hx hb dX6_answerAt_26 (by decide) ?_
      exact J6 _ ((if_pos h2).trans rfl).symm _ _ hw _ hl
    · refine lv_iload_n hx hb dX6_answerAt_9 rfl (lv_at hl 2 rfl) ?_
      refine lv_if_lt (tgt := 26) hx hb dX6_answerAt_10 (by decide) (fun h3 => ?_) (fun h3 => ?_)
      · refine lv_iconst (v := 0) hx hb dX6_answerAt_26 (by decide) ?_
        exact J6 _ ((if_neg h2).trans ((if_pos h3).trans rfl)).symm _ _ hw _ hl
      · refine lv_iload_n hx hb dX6_answerAt_13 rfl (lv_at hl 2 rfl) ?_
        refine lv_aload_n hx hb dX6_answerAt_14 rfl (lv_at hl 0 rfl) ?_
        refine lv_iload_n hx hb dX6_answerAt_15 rfl (lv_at hl 1 rfl) ?_
        refine r_qiro X hw (q_countOf_C _ n1) (r_runV X (c_q_countOf l G lv ad _ n1 hL hB  _) cy_X6_countOf ml_RX6_189 ⟨(Nat.le_of_ble_eq_true rfl), (Nat.le_of_ble_eq_true rfl)⟩ gP.blind (g_recv X hw 20 0 hL.1 rfl rfl) (gP_call X hw _) rfl hl.1 rfl (Nat.le_of_ble_eq_true rfl) dX6_answerAt_16 ⟨(Nat.le_of_ble_eq_true rfl), (Nat.le_of_ble_eq_true rfl)⟩) (fun H locs hw => ?_)
        refine lv_topi (fun x4 ex4 => ?_)
        refine lv_icmp_ge (tgt := 26) hx hb dX6_answerAt_19 (by decide) (fun h5 => ?_) (fun h5 => ?_)
        · refine lv_iconst (v := 0) hx hb dX6_answerAt_26 (by decide) ?_
          subst ex4; exact J6 _ ((if_neg h2).trans ((if_neg h3).trans ((if_pos h5).trans rfl))).symm _ _ hw _ hl
        · refine lv_iconst (v := 1) hx hb dX6_answerAt_22 (by decide) ?_
          refine lv_goto (tgt := 27) hx hb dX6_answerAt_23 (by decide) ?_
          subst ex4; exact J6 _ ((if_neg h2).trans ((if_neg h3).trans ((if_neg h5).trans rfl))).symm _ _ hw _ hl
def q_publish_L (n0 : Nat) (D : gCT) (n1 : Int32) (fr : Nat) (k : Nat) : Int32 × gCT := match n0 with
  | 0 => (0, D)
  | n0 + 1 =>
    let x101 : Int32 := D 21 2 n1.toNatClampNeg;
    if x101 ≤ (nI k) then (
      let C103 : gCT := cs D 21 2 n1.toNatClampNeg 0;
      let x104 : Int32 := D 21 6 n1.toNatClampNeg;
      let C105 : gCT := cs C103 21 6 n1.toNatClampNeg (x104 + 1);
      ((x104 + 1) - 1, C105)
    ) else (
      let x107 : Int32 := D 21 0 ((24 * n1.toNatClampNeg) + k);
      let C108 : gCT := cs D 21 3 ((24 * fr) + k) x107;
      let x109 : Int32 := D 21 1 ((24 * n1.toNatClampNeg) + k);
      let C110 : gCT := cs C108 21 4 ((24 * fr) + k) x109;
      q_publish_L n0 C110 n1 fr (k + 1)
    )
def q_publish (C : gCT) (n1 : Int32) : Int32 × gCT :=
  let x1 : Int32 := q_isBelow n1 4;
  let x8 : Int32 :=
    if x1 = 0 then (
      0
    ) else (
      let x3 : Int32 := C 21 2 n1.toNatClampNeg;
      if x3 ≤ 0 then (
        0
      ) else (
        let x5 : Int32 := C 21 6 n1.toNatClampNeg;
        if 6 ≤ x5 then (
          0
        ) else (
          1
        )
      )
    );
  let x9 : Int32 := if q_thr x1 x8 1 = 0 then 1 else 0;
  let C10 : gCT := cs C 20 0 3 (q_thr x1 x8 1);
  if x9 = 0 then (
    (0, C10)
  ) else (
    let x12 : Int32 := C 21 6 n1.toNatClampNeg;
    let x13 : Int32 := C 21 2 n1.toNatClampNeg;
    let C14 : gCT := cs C10 21 5 ((6 * n1.toNatClampNeg) + x12.toNatClampNeg) x13;
    q_publish_L 26 C14 n1 ((6 * n1.toNatClampNeg) + x12.toNatClampNeg) 0
  )
set_option maxHeartbeats 4000000 in
set_option maxRecDepth 100000 in
theorem c_q_publish (l : Launch) (G : gG) (lv : gLv) (ad : gAd) (C : gCT) (n1 : Int32) (hL : gLM lv) (hB : MBI C)  : gMi l yX6_publish cX6_publish 5 (some .int) (gRm 1 23 0 0) G [.ref (ad 20 0), .int n1] lv ad (gF G C ad) (gRi G lv ad MBI (q_publish C n1)) := by
  refine r_met (own := RX6) (by decide) rfl (Nat.le_of_ble_eq_true rfl) ?_
  intro p e s m below meth c ls X hw hr hlk _ hl
  have hx := X.1.1; have hb := X.1.2.1; have hml := X.1.2.2.1; have hown := X.1.2.2.2.1; have hts := X.1.2.2.2.2
  have hl : lv_has ls 5 [(0, .ref (ad 20 0)), (1, .int n1)] := hl
  have hB0 := hB
  have L_q_publish_L : ∀ (n0 : Nat) (D : gCT) (fr : Nat) (k : Nat), MBI D → ((n1 = nI n1.toNatClampNeg ∧ n1.toNatClampNeg < 4) ∧ fr < 24 ∧ (D 21 6 n1.toNatClampNeg).toNatClampNeg < 6 ∧ k ≤ 24 ∧ k + n0 = 26) → ∀ (H : Heap) (locs : List Loc), gW G (gA lv ad s.heap.size) s.heap H locs lv ad (gF G D ad) → ∀ ls : Array Slot, lv_has ls 5 [(0, .ref (ad 20 0)), (1, .int n1), (3, .int (nI fr)), (4, .int (nI k))] → W p l e (gRm 1 23 0 0) s m ([.ref (ad 20 0), .int n1] : List Value).toArray below meth c H locs 0 0 (MQ below (gQi G (gA lv ad s.heap.size) (gRi G lv ad MBI (q_publish_L n0 D n1 fr k))) ([.ref (ad 20 0), .int n1] : List Value).toArray s (gRm 1 23 0 0).cells (gRm 1 23 0 0).slots (gA lv ad s.heap.size)) (F0 m 73 ls []) := by
    intro n0
    induction n0 with
    | zero => intro D fr k _ hinv; exact absurd hinv (by rintro ⟨-, -, -, h1, h2⟩; omega)
    | succ n0 ih =>
      intro D fr k hB hinv H locs hw ls hl
      obtain ⟨⟨pn1, bn1⟩, hi3, hi4, hi1, hi2⟩ := hinv
      refine lv_iload hx hb dX6_publish_73 (lv_at hl 3 rfl) ?_
      refine lv_aload_n hx hb dX6_publish_75 rfl (lv_at hl 0 rfl) ?_
      refine r_get X hw 20 _ 2 (hL.1) rfl rfl k_X6 (by decide) fl_RX6_16 dX6_publish_76 ?_
      refine lv_iload_n hx hb dX6_publish_79 rfl (lv_at hl 1 rfl) ?_
      refine q_iald X hw 2 (hL.2 2 (by decide) (by decide) (by decide)) (j := n1.toNatClampNeg) pn1 (show n1.toNatClampNeg < 4 by omega) dX6_publish_80 ?_
      refine lv_topi (fun x101 ex101 => ?_)
      obtain ⟨px101, bx101⟩ := MBI.get hB 2 n1.toNatClampNeg (show n1.toNatClampNeg < 4 by omega) (by decide) ex101
      have bx101 : x101.toNatClampNeg < 25 := bx101
      refine lv_icmp_ge (tgt := 138) hx hb dX6_publish_81 (by decide) (fun h102 => ?_) (fun h102 => ?_)
      · have nh102 := (nat_le px101 rfl (by omega) (by omega)).mp h102
        refine lv_aload_n hx hb dX6_publish_138 rfl (lv_at hl 0 rfl) ?_
        refine r_get X hw 20 _ 2 (hL.1) rfl rfl k_X6 (by decide) fl_RX6_16 dX6_publish_139 ?_
        refine lv_iload_n hx hb dX6_publish_142 rfl (lv_at hl 1 rfl) ?_
        refine lv_iconst (v := 0) hx hb dX6_publish_143 (by decide) ?_
        refine q_iast X hw 2 (hL.2 2 (by decide) (by decide) (by decide)) (j := n1.toNatClampNeg) pn1 (show n1.toNatClampNeg < 4 by omega) dX6_publish_144 (fun H locs hw => ?_)
        have hB := MBI.set hB (k := 2) (j := n1.toNatClampNeg) (v := 0) (by decide) (fun _ => ⟨0, by show _ < 25; omega, (show (0 : Int32) = nI 0 from rfl)⟩)
        refine lv_aload_n hx hb dX6_publish_145 rfl (lv_at hl 0 rfl) ?_
        refine r_get X hw 20 _ 6 (hL.1) rfl rfl k_X6 (by decide) fl_RX6_28 dX6_publish_146 ?_
        refine lv_iload_n hx hb dX6_publish_149 rfl (lv_at hl 1 rfl) ?_
        refine lv_dup2_11 hx hb dX6_publish_150 rfl rfl ?_
        refine q_iald X hw 6 (hL.2 6 (by decide) (by decide) (by decide)) (j := n1.toNatClampNeg) pn1 (show n1.toNatClampNeg < 4 by omega) dX6_publish_151 ?_
        refine lv_topi (fun x104 ex104 => ?_)
        obtain ⟨px104, bx104⟩ := MBI.get hB 6 n1.toNatClampNeg (show n1.toNatClampNeg < 4 by omega) (by decide) ex104
        have bx104 : x104.toNatClampNeg < 7 := bx104
        have ex104 := ex104.trans (congrFun (cs_n _ _ _ _ (by decide)) _)
        have nq6 : x104.toNatClampNeg < 6 := by rw [ex104]; exact hi4
        refine lv_iconst (v := 1) hx hb dX6_publish_152 (by decide) ?_
        refine lv_iadd hx hb dX6_publish_153 ?_
        refine q_iast X hw 6 (hL.2 6 (by decide) (by decide) (by decide)) (j := n1.toNatClampNeg) pn1 (show n1.toNatClampNeg < 4 by omega) dX6_publish_154 (fun H locs hw => ?_)
        have hB := MBI.set hB (k := 6) (j := n1.toNatClampNeg) (v := x104 + 1) (by decide) (fun _ => ⟨(x104.toNatClampNeg + 1), by show _ < 7; omega, (nat_add px104 (show (1 : Int32) = nI 1 from rfl))⟩)
        refine lv_aload_n hx hb dX6_publish_155 rfl (lv_at hl 0 rfl) ?_
        refine r_get X hw 20 _ 6 (hL.1) rfl rfl k_X6 (by decide) fl_RX6_28 dX6_publish_156 ?_
        refine lv_iload_n hx hb dX6_publish_159 rfl (lv_at hl 1 rfl) ?_
        refine q_iald X hw 6 (hL.2 6 (by decide) (by decide) (by decide)) (j := n1.toNatClampNeg) pn1 (show n1.toNatClampNeg < 4 by omega) dX6_publish_160 ?_
        refine lv_topi (fun x106 ex106 => ?_)
        have ex106 := ex106.trans (cs_s _ _ _ _ _); subst ex106
        refine lv_iconst (v := 1) hx hb dX6_publish_161 (by decide) ?_
        refine lv_isub hx hb dX6_publish_162 ?_
        subst ex104 ex101
        exact r_iret X hw hr rfl hlk (Nat.le_of_ble_eq_true rfl) (Nat.le_of_ble_eq_true rfl) (gRE_of ((if_pos h102).trans rfl) hB) dX6_publish_163
      · have nh102 := (not_congr (nat_le px101 rfl (by omega) (by omega))).mp h102
        have hB0 := hB
        refine lv_aload_n hx hb dX6_publish_84 rfl (lv_at hl 0 rfl) ?_
        refine r_get X hw 20 _ 3 (hL.1) rfl rfl k_X6 (by decide) fl_RX6_19 dX6_publish_85 ?_
        refine lv_bipush (v := 24) hx hb dX6_publish_88 (by decide) ?_
        refine lv_iload_n hx hb dX6_publish_90 rfl (lv_at hl 2 rfl) ?_
        refine lv_imul hx hb dX6_publish_91 ?_
        refine lv_iload hx hb dX6_publish_92 (lv_at hl 3 rfl) ?_
        refine lv_iadd hx hb dX6_publish_94 ?_
        refine lv_aload_n hx hb dX6_publish_95 rfl (lv_at hl 0 rfl) ?_
        refine r_get X hw 20 _ 0 (hL.1) rfl rfl k_X6 (by decide) fl_RX6_7 dX6_publish_96 ?_
        refine lv_bipush (v := 24) hx hb dX6_publish_99 (by decide) ?_
        refine lv_iload_n hx hb dX6_publish_101 rfl (lv_at hl 1 rfl) ?_
        refine lv_imul hx hb dX6_publish_102 ?_
        refine lv_iload hx hb dX6_publish_103 (lv_at hl 3 rfl) ?_
        refine lv_iadd hx hb dX6_publish_105 ?_
        refine q_iald X hw 0 (hL.2 0 (by decide) (by decide) (by decide)) (j := ((24 * n1.toNatClampNeg) + k)) (nat_add (nat_mul (show (24 : Int32) = nI 24 from rfl) pn1) rfl) (show ((24 * n1.toNatClampNeg) + k) < 96 by omega) dX6_publish_106 ?_
        refine lv_topi (fun x107 ex107 => ?_)
        refine q_iast X hw 3 (hL.2 3 (by decide) (by decide) (by decide)) (j := ((24 * fr) + k)) (nat_add (nat_mul (show (24 : Int32) = nI 24 from rfl) rfl) rfl) (show ((24 * fr) + k) < 576 by omega) dX6_publish_107 (fun H locs hw => ?_)
        refine lv_aload_n hx hb dX6_publish_108 rfl (lv_at hl 0 rfl) ?_
        refine r_get X hw 20 _ 4 (hL.1) rfl rfl k_X6 (by decide) fl_RX6_22 dX6_publish_109 ?_
        refine lv_bipush (v := 24) hx hb dX6_publish_112 (by decide) ?_
        refine lv_iload_n hx hb dX6_publish_114 rfl (lv_at hl 2 rfl) ?_
        refine lv_imul hx hb dX6_publish_115 ?_
        refine lv_iload hx hb dX6_publish_116 (lv_at hl 3 rfl) ?_
        refine lv_iadd hx hb dX6_publish_118 ?_
        refine lv_aload_n hx hb dX6_publish_119 rfl (lv_at hl 0 rfl) ?_
        refine r_get X hw 20 _ 1 (hL.1) rfl rfl k_X6 (by decide) fl_RX6_13 dX6_publish_120 ?_
        refine lv_bipush (v := 24) hx hb dX6_publish_123 (by decide) ?_
        refine lv_iload_n hx hb dX6_publish_125 rfl (lv_at hl 1 rfl) ?_
        refine lv_imul hx hb dX6_publish_126 ?_
        refine lv_iload hx hb dX6_publish_127 (lv_at hl 3 rfl) ?_
        refine lv_iadd hx hb dX6_publish_129 ?_
        refine q_iald X hw 1 (hL.2 1 (by decide) (by decide) (by decide)) (j := ((24 * n1.toNatClampNeg) + k)) (nat_add (nat_mul (show (24 : Int32) = nI 24 from rfl) pn1) rfl) (show ((24 * n1.toNatClampNeg) + k) < 96 by omega) dX6_publish_130 ?_
        refine lv_topi (fun x109 ex109 => ?_)
        have ex109 := ex109.trans (congrFun (cs_n _ _ _ _ (by decide)) _)
        refine q_iast X hw 4 (hL.2 4 (by decide) (by decide) (by decide)) (j := ((24 * fr) + k)) (nat_add (nat_mul (show (24 : Int32) = nI 24 from rfl) rfl) rfl) (show ((24 * fr) + k) < 576 by omega) dX6_publish_131 (fun H locs hw => ?_)
        have hB := MBI.set2 hB (k := 3) (j := ((24 * fr) + k)) (v := x107) (w := x109) (Or.inr rfl) (by rw [ex107, ex109]; exact hB0.2.2.2.1 _ (show 24 * n1.toNatClampNeg + k < 96 by omega))
        refine lv_iinc (v := nI (k + 1)) (lv' := [(4, .int (nI (k + 1))), (0, .ref (ad 20 0)), (1, .int n1), (3, .int (nI fr))]) hx hb dX6_publish_132 hl (k := 3) rfl (by rw [← nI_1]; rfl) (by decide) rfl (fun ls hl => ?_)
        refine lv_goto (tgt := 73) hx hb dX6_publish_135 (by decide) ?_
        subst ex109 ex107 ex101
        exact r_toQI (ih _ fr (k + 1) hB (⟨⟨pn1, bn1⟩, hi3, by simp (disch := decide) only [cs_n]; exact hi4, by omega, by omega⟩) _ _ hw _ (lv_sub hl [1, 2, 3, 0] rfl)) ((if_neg h102).trans rfl)
  refine lv_iload_n hx hb dX6_publish_0 rfl (lv_at hl 1 rfl) ?_
  refine lv_iconst (v := 4) hx hb dX6_publish_1 (by decide) ?_
  refine r_rp (r_runS X (c_q_isBelow l n1 4) cy_X6_isBelow ml_RX6_114 ⟨(Nat.le_of_ble_eq_true rfl), (Nat.le_of_ble_eq_true rfl)⟩ gPc_blind (fun _ _ _ => ⟨rfl, trivial⟩) rfl hl.1 rfl (Nat.le_of_ble_eq_true rfl) dX6_publish_2 ⟨(Nat.le_of_ble_eq_true rfl), (Nat.le_of_ble_eq_true rfl)⟩) ?_
  refine lv_topi (fun x1 ex1 => ?_)
  refine lv_istore_n (lv' := [(2, .int x1), (0, .ref (ad 20 0)), (1, .int n1)]) hx hb dX6_publish_5 rfl hl (by decide) rfl (fun ls hl => ?_)
  refine lv_aload_n hx hb dX6_publish_6 rfl (lv_at hl 1 rfl) ?_
  refine lv_iload_n hx hb dX6_publish_7 rfl (lv_at hl 0 rfl) ?_
  refine lv_iload_n hx hb dX6_publish_8 rfl (lv_at hl 0 rfl) ?_
  refine r_J (nL := 5) (J := 37) (rest := [.int x1, .ref (ad 20 0)]) (L := [(2, .int x1), (0, .ref (ad 20 0)), (1, .int n1)]) (if x1 = 0 then ( 0 ) else ( let x3 : Int32 := C 21 2 n1.toNatClampNeg; if x3 ≤ 0 then ( 0 ) else ( let x5 : Int32 := C 21 6 n1.toNatClampNeg; if 6 ≤ x5 then ( 0 ) else ( 1 ) ) )) (fun x8 ex8 ls hl => ?_) (fun J7 => ?_)
  · refine lv_iconst (v := 1) hx hb dX6_publish_37 (by decide) ?_
    refine r_qi X hw (r_runV X (c_q_goes1 l G lv ad _ x1 x8 1 hL hB _) cy_X6_goes ml_RX6_121 ⟨(Nat.le_of_ble_eq_true rfl), (Nat.le_of_ble_eq_true rfl)⟩ gP.blind (g_recv X hw 20 0 hL.1 rfl rfl) (gP_call X hw _) rfl hl.1 rfl (Nat.le_of_ble_eq_true rfl) dX6_publish_38 ⟨(Nat.le_of_ble_eq_true rfl), (Nat.le_of_ble_eq_true rfl)⟩) (fun H locs hB hw => ?_)
    dsimp only at hB hw
    refine lv_topi (fun x9 ex9 => ?_)
    have ex9 : x9 = (if q_thr x1 x8 1 = 0 then 1 else 0) := ex9
    refine lv_if_ne (tgt := 46) hx hb dX6_publish_41 (by decide) (fun h11 => ?_) (fun h11 => ?_)
    · obtain ⟨g1, g2, g3⟩ := q_goes_of (a := x1) (b := x8) (c := 1) (by rw [← ex9]; exact h11)
      obtain ⟨pn1, bn1⟩ := q_isBelow_of (x := n1) (n := 4) (N := 4) rfl (by decide) (by rw [← ex1]; exact g1)
      have q0 : ¬ C 21 2 n1.toNatClampNeg ≤ 0 := fun q => g2 (by rw [ex8, if_neg g1]; exact if_pos q)
      have q3 : ¬ (6 : Int32) ≤ C 21 6 n1.toNatClampNeg := fun q => g2 (by rw [ex8, if_neg g1]; exact (if_neg q0).trans (if_pos q))
      refine lv_bipush (v := 6) hx hb dX6_publish_46 (by decide) ?_
      refine lv_iload_n hx hb dX6_publish_48 rfl (lv_at hl 2 rfl) ?_
      refine lv_imul hx hb dX6_publish_49 ?_
      refine lv_aload_n hx hb dX6_publish_50 rfl (lv_at hl 1 rfl) ?_
      refine r_get X hw 20 _ 6 (hL.1) rfl rfl k_X6 (by decide) fl_RX6_28 dX6_publish_51 ?_
      refine lv_iload_n hx hb dX6_publish_54 rfl (lv_at hl 2 rfl) ?_
      refine q_iald X hw 6 (hL.2 6 (by decide) (by decide) (by decide)) (j := n1.toNatClampNeg) pn1 (show n1.toNatClampNeg < 4 by omega) dX6_publish_55 ?_
      refine lv_topi (fun x12 ex12 => ?_)
      obtain ⟨px12, bx12⟩ := MBI.get hB 6 n1.toNatClampNeg (show n1.toNatClampNeg < 4 by omega) (by decide) ex12
      have bx12 : x12.toNatClampNeg < 7 := bx12
      have ex12 := ex12.trans (congrFun (congrFun (cs_k _ _ _ _ (by decide)) _) _)
      rw [← ex12] at q3; have nq : x12.toNatClampNeg < 6 := Nat.not_le.mp ((not_congr (nat_le (show (6 : Int32) = nI 6 from rfl) px12 (by decide) (by omega))).mp q3)
      refine lv_iadd hx hb dX6_publish_56 ?_
      refine W.eq (g2 := F0 m 57 ls [.int (nI ((6 * n1.toNatClampNeg) + x12.toNatClampNeg))]) (by rw [(nat_add (nat_mul (show (6 : Int32) = nI 6 from rfl) pn1) px12)]) ?_
      refine lv_istore_n (lv' := [(3, .int (nI ((6 * n1.toNatClampNeg) + x12.toNatClampNeg))), (2, .int x1), (0, .ref (ad 20 0)), (1, .int n1)]) hx hb dX6_publish_57 rfl hl (by decide) rfl (fun ls hl => ?_)
      refine lv_aload_n hx hb dX6_publish_58 rfl (lv_at hl 2 rfl) ?_
      refine r_get X hw 20 _ 5 (hL.1) rfl rfl k_X6 (by decide) fl_RX6_25 dX6_publish_59 ?_
      refine lv_iload_n hx hb dX6_publish_62 rfl (lv_at hl 0 rfl) ?_
      refine lv_aload_n hx hb dX6_publish_63 rfl (lv_at hl 2 rfl) ?_
      refine r_get X hw 20 _ 2 (hL.1) rfl rfl k_X6 (by decide) fl_RX6_16 dX6_publish_64 ?_
      refine lv_iload_n hx hb dX6_publish_67 rfl (lv_at hl 3 rfl) ?_
      refine q_iald X hw 2 (hL.2 2 (by decide) (by decide) (by decide)) (j := n1.toNatClampNeg) pn1 (show n1.toNatClampNeg < 4 by omega) dX6_publish_68 ?_
      refine lv_topi (fun x13 ex13 => ?_)
      obtain ⟨px13, bx13⟩ := MBI.get hB 2 n1.toNatClampNeg (show n1.toNatClampNeg < 4 by omega) (by decide) ex13
      have bx13 : x13.toNatClampNeg < 25 := bx13
      have ex13 := ex13.trans (congrFun (congrFun (cs_k _ _ _ _ (by decide)) _) _)
      refine q_iast X hw 5 (hL.2 5 (by decide) (by decide) (by decide)) (j := ((6 * n1.toNatClampNeg) + x12.toNatClampNeg)) rfl (show ((6 * n1.toNatClampNeg) + x12.toNatClampNeg) < 24 by omega) dX6_publish_69 (fun H locs hw => ?_)
      have hB := MBI.set hB (k := 5) (j := ((6 * n1.toNatClampNeg) + x12.toNatClampNeg)) (v := x13) (by decide) (fun _ => ⟨x13.toNatClampNeg, by show _ < 25; omega, px13⟩)
      refine lv_iconst (v := 0) hx hb dX6_publish_70 (by decide) ?_
      refine lv_istore (lv' := [(4, .int 0), (3, .int (nI ((6 * n1.toNatClampNeg) + x12.toNatClampNeg))), (2, .int x1), (0, .ref (ad 20 0)), (1, .int n1)]) hx hb dX6_publish_71 hl (by decide) rfl (fun ls hl => ?_)
      subst ex13 ex12 ex9 ex8 ex1
      exact r_toQI (L_q_publish_L 26 _ _ 0 hB (⟨⟨pn1, bn1⟩, by omega, by simp (disch := decide) only [cs_k, cs_n]; omega, by omega, by omega⟩) _ _ hw _ (lv_sub hl [3, 4, 1, 0] rfl)) ((if_neg h11).trans rfl)
    · refine lv_iconst (v := 0) hx hb dX6_publish_44 (by decide) ?_
      subst ex9 ex8 ex1
      exact r_iret X hw hr rfl hlk (Nat.le_of_ble_eq_true rfl) (Nat.le_of_ble_eq_true rfl) (gRE_of ((if_pos h11).trans rfl) hB) dX6_publish_45
  · refine lv_if_eq (tgt := 36) hx hb dX6_publish_9 (by decide) (fun h2 => ?_) (fun h2 => ?_)
    · refine lv_iconst (v := 0) hx hb dX6_publish_36 (by decide) ?_
      exact J7 _ ((if_pos h2).trans rfl).symm _ hl
    · obtain ⟨pn1, bn1⟩ := q_isBelow_of (x := n1) (n := 4) (N := 4) rfl (by decide) (by rw [← ex1]; exact h2)
      refine lv_aload_n hx hb dX6_publish_12 rfl (lv_at hl 1 rfl) ?_
      refine r_get X hw 20 _ 2 (hL.1) rfl rfl k_X6 (by decide) fl_RX6_16 dX6_publish_13 ?_
      refine lv_iload_n hx hb dX6_publish_16 rfl (lv_at hl 2 rfl) ?_
      refine q_iald X hw 2 (hL.2 2 (by decide) (by decide) (by decide)) (j := n1.toNatClampNeg) pn1 (show n1.toNatClampNeg < 4 by omega) dX6_publish_17 ?_
      refine lv_topi (fun x3 ex3 => ?_)
      obtain ⟨px3, bx3⟩ := MBI.get hB 2 n1.toNatClampNeg (show n1.toNatClampNeg < 4 by omega) (by decide) ex3
      have bx3 : x3.toNatClampNeg < 25 := bx3
      refine lv_if_le (tgt := 36) hx hb dX6_publish_18 (by decide) (fun h4 => ?_) (fun h4 => ?_)
      · have nh4 := (nat_le px3 (show (0 : Int32) = nI 0 from rfl) (by omega) (by omega)).mp h4
        refine lv_iconst (v := 0) hx hb dX6_publish_36 (by decide) ?_
        subst ex3; exact J7 _ ((if_neg h2).trans ((if_pos h4).trans rfl)).symm _ hl
      · have nh4 := (not_congr (nat_le px3 (show (0 : Int32) = nI 0 from rfl) (by omega) (by omega))).mp h4
        refine lv_aload_n hx hb dX6_publish_21 rfl (lv_at hl 1 rfl) ?_
        refine r_get X hw 20 _ 6 (hL.1) rfl rfl k_X6 (by decide) fl_RX6_28 dX6_publish_22 ?_
        refine lv_iload_n hx hb dX6_publish_25 rfl (lv_at hl 2 rfl) ?_
        refine q_iald X hw 6 (hL.2 6 (by decide) (by decide) (by decide)) (j := n1.toNatClampNeg) pn1 (show n1.toNatClampNeg < 4 by omega) dX6_publish_26 ?_
        refine lv_topi (fun x5 ex5 => ?_)
        obtain ⟨px5, bx5⟩ := MBI.get hB 6 n1.toNatClampNeg (show n1.toNatClampNeg < 4 by omega) (by decide) ex5
        have bx5 : x5.toNatClampNeg < 7 := bx5
        refine lv_bipush (v := 6) hx hb dX6_publish_27 (by decide) ?_
        refine lv_icmp_ge (tgt := 36) hx hb dX6_publish_29 (by decide) (fun h6 => ?_) (fun h6 => ?_)
        · have nh6 := (nat_le (show (6 : Int32) = nI 6 from rfl) px5 (by omega) (by omega)).mp h6
          refine lv_iconst (v := 0) hx hb dX6_publish_36 (by decide) ?_
          subst ex5 ex3; exact J7 _ ((if_neg h2).trans ((if_neg h4).trans ((if_pos h6).trans rfl))).symm _ hl
        · have nh6 := (not_congr (nat_le (show (6 : Int32) = nI 6 from rfl) px5 (by omega) (by omega))).mp h6
          refine lv_iconst (v := 1) hx hb dX6_publish_32 (by decide) ?_
          refine lv_goto (tgt := 37) hx hb dX6_publish_33 (by decide) ?_
          subst ex5 ex3; exact J7 _ ((if_neg h2).trans ((if_neg h4).trans ((if_neg h6).trans rfl))).symm _ hl

theorem q_ends_state (M : gCT) (r : Nat) (w : Int32) : q_ends M r w 21 24 r = w := by
  unfold q_ends
  dsimp only
  repeat' split
  all_goals simp (disch := decide) only [cs_n, cs_k, cs_s]
/-- what leaves a field of the reference as it is -/
def qSame (k : Nat) (M N : gCT) : Prop := N 21 k = M 21 k
theorem qSame.rf {k : Nat} {M : gCT} : qSame k M M := rfl
theorem qSame.tr {k : Nat} {M N O : gCT} (h1 : qSame k M N) (h2 : qSame k N O) : qSame k M O := h2.trans h1
theorem qSame.st {k k' : Nat} {M N : gCT} {j : Nat} {v : Int32} (h : qSame k M N) (hk : k ≠ k') : qSame k M (cs N 21 k' j v) := (cs_n _ _ _ _ hk).trans h
theorem qSame.st0 {k : Nat} {M N : gCT} {j : Nat} {v : Int32} (h : qSame k M N) : qSame k M (cs N 20 0 j v) := (congrFun (cs_k _ _ _ _ (by decide)) _).trans h
theorem qSame.ite {k : Nat} {M a b : gCT} {c : Prop} [Decidable c] (h1 : qSame k M a) (h2 : qSame k M b) : qSame k M (if c then a else b) := by
  split
  · exact h1
  · exact h2
theorem qSame.ite2 {k : Nat} {M : gCT} {a b : Int32 × gCT} {c : Prop} [Decidable c] (h1 : qSame k M a.2) (h2 : qSame k M b.2) : qSame k M (if c then a else b).2 := by
  split
  · exact h1
  · exact h2
theorem q_ends_same {k : Nat} (hk : k ≠ 24 ∧ k ≠ 8) (M : gCT) (r : Nat) (w : Int32) : qSame k M (q_ends M r w) := by
  unfold q_ends
  exact qSame.ite (((qSame.rf.st hk.1).st0).st hk.2) (qSame.ite (((qSame.rf.st hk.1).st0).st hk.2) (qSame.rf.st hk.1))
theorem q_puts_same {k : Nat} (hk : (k ≠ 24 ∧ k ≠ 8) ∧ k ≠ 19 ∧ k ≠ 20) (M : gCT) (r : Nat) (w : Int32) : qSame k M (q_puts M r w) := by
  unfold q_puts
  exact qSame.ite (q_ends_same hk.1 _ _ _) ((qSame.rf.st hk.2.1).st hk.2.2)
theorem q_takes_same {k : Nat} (hk : (k ≠ 24 ∧ k ≠ 8) ∧ k ≠ 20) (M : gCT) (r : Nat) : qSame k M (q_takes M r).2 := by
  unfold q_takes
  dsimp only
  exact qSame.ite2 (show qSame k M (q_ends M r 5) from q_ends_same hk.1 _ _ _) (qSame.rf.st hk.2)
theorem q_asks_same {k : Nat} (hk : (k ≠ 24 ∧ k ≠ 8) ∧ k ≠ 19 ∧ k ≠ 20 ∧ k ≠ 25 ∧ k ≠ 28) (M : gCT) (r w : Nat) : qSame k M (q_asks M r w) := by
  unfold q_asks
  exact qSame.ite ((qSame.rf.st hk.2.2.2.2).st hk.1.1 |>.st hk.2.2.2.1) ((qSame.rf.st hk.2.2.2.2).tr (q_puts_same ⟨hk.1, hk.2.1, hk.2.2.1⟩ _ _ _))
theorem q_reckons_same {k : Nat} (hk : (k ≠ 24 ∧ k ≠ 8) ∧ k ≠ 19 ∧ k ≠ 20) (M : gCT) (r : Nat) (w : Int32) : qSame k M (q_reckons M r w) := by
  have ht : ∀ N, qSame k N (q_takes N r).2 := fun N => q_takes_same ⟨hk.1, hk.2.2⟩ N r
  have hp : ∀ N v, qSame k N (q_puts N r v) := fun N v => q_puts_same hk N r v
  unfold q_reckons
  dsimp only
  repeat' split
  all_goals first | exact ht _ | exact (ht _).tr (ht _) | exact (ht _).tr (hp _ _) | exact ((ht _).tr (ht _)).tr (hp _ _)
theorem q_finishes_same {k : Nat} (hk : (k ≠ 24 ∧ k ≠ 8) ∧ k ≠ 10 ∧ k ≠ 13) (M : gCT) (r : Nat) (z : Int32) : qSame k M (q_finishes M r z) := by
  have he : ∀ N w, qSame k N (q_ends N r w) := fun N w => q_ends_same hk.1 N r w
  unfold q_finishes
  dsimp only
  repeat' split
  all_goals first | exact qSame.rf | exact he _ _ | exact (((qSame.rf.st hk.2.1).st hk.1.2).st hk.2.2).tr (he _ _)
theorem q_moves_same {k : Nat} (hk : (k ≠ 24 ∧ k ≠ 8) ∧ k ≠ 20 ∧ k ≠ 21 ∧ k ≠ 18 ∧ k ≠ 22) (M : gCT) (r : Nat) (w a : Int32) : qSame k M (q_moves M r w a) := by
  have ht : ∀ N, qSame k N (q_takes N r).2 := fun N => q_takes_same ⟨hk.1, hk.2.1⟩ N r
  unfold q_moves
  dsimp only
  repeat' split
  all_goals first | exact qSame.rf | exact qSame.rf.st hk.2.2.2.1 | exact qSame.rf.st hk.2.2.2.2 | exact (ht _).st hk.2.2.1 | exact (ht _).st hk.2.2.2.1
theorem q_does_same {k : Nat} (hk : (k ≠ 24 ∧ k ≠ 8) ∧ (k ≠ 19 ∧ k ≠ 20 ∧ k ≠ 25 ∧ k ≠ 28) ∧ (k ≠ 10 ∧ k ≠ 13) ∧ k ≠ 21 ∧ k ≠ 18 ∧ k ≠ 22) (M : gCT) (r : Nat) (w a : Int32) : qSame k M (q_does M r w a) := by
  have h1 : ∀ N x, qSame k N (q_asks N r x) := fun N x => q_asks_same ⟨hk.1, hk.2.1⟩ N r x
  have h2 : ∀ N x, qSame k N (q_puts N r x) := fun N x => q_puts_same ⟨hk.1, hk.2.1.1, hk.2.1.2.1⟩ N r x
  have h3 : ∀ N x, qSame k N (q_reckons N r x) := fun N x => q_reckons_same ⟨hk.1, hk.2.1.1, hk.2.1.2.1⟩ N r x
  have h4 : ∀ N x, qSame k N (q_finishes N r x) := fun N x => q_finishes_same ⟨hk.1, hk.2.2.1⟩ N r x
  have h5 : ∀ N x y, qSame k N (q_moves N r x y) := fun N x y => q_moves_same ⟨hk.1, hk.2.1.2.1, hk.2.2.2⟩ N r x y
  unfold q_does
  exact qSame.ite (h1 _ _) (qSame.ite (h2 _ _) (qSame.ite (h2 _ _) (qSame.ite (qSame.ite (h4 _ _) (qSame.ite (h4 _ _) (h5 _ _ _))) (qSame.ite (qSame.ite (h4 _ _) (qSame.ite (h4 _ _) (h5 _ _ _))) (h3 _ _)))))
theorem q_does_fuel (M : gCT) (r : Nat) (w a : Int32) : q_does M r w a 21 23 = M 21 23 := q_does_same (by decide) M r w a
def q_goesOn_L (n0 : Nat) (D : gCT) (r : Nat) (o : Nat) : gCT := match n0 with
  | 0 => D
  | n0 + 1 =>
    let x101 : Int32 := D 21 24 r;
    if x101 = 7 then (
      let x103 : Int32 := D 21 18 r;
      let x105 : Int32 := D 21 5 o;
      let x108 : Int32 :=
        if x105 ≤ x103 then (
          0
        ) else (
          1
        );
      let x113 : Int32 :=
        if x108 = 0 then (
          1
        ) else (
          let x110 : Int32 := D 21 3 ((24 * o) + x103.toNatClampNeg);
          if x110 = 0 then (
            3
          ) else (
            1
          )
        );
      if x108 = 0 then (
        let x117 : Int32 :=
          if x108 = 0 then (
            5
          ) else (
            4
          );
        let C118 : gCT := q_ends D r x117;
        q_goesOn_L n0 C118 r o
      ) else (
        let x119 : Int32 := D 21 23 r;
        if x113 ≤ x119 then (
          let C122 : gCT := cs D 21 23 r (x119 - x113);
          let C124 : gCT := cs C122 21 18 r (x103 + 1);
          let x125 : Int32 := D 21 3 ((24 * o) + x103.toNatClampNeg);
          let x126 : Int32 := D 21 4 ((24 * o) + x103.toNatClampNeg);
          let C127 : gCT := q_does C124 r x125 x126;
          q_goesOn_L n0 C127 r o
        ) else (
          let x130 : Int32 :=
            if x108 = 0 then (
              5
            ) else (
              4
            );
          let C131 : gCT := q_ends D r x130;
          q_goesOn_L n0 C131 r o
        )
      )
    ) else (
      D
    )
def q_goesOn (C : gCT) (r : Nat) : gCT :=
  let C1 : gCT := cs C 21 24 r 7;
  let x2 : Int32 := C 21 16 r;
  let x3 : Int32 := C 21 17 r;
  q_goesOn_L 203 C1 r ((6 * x2.toNatClampNeg) + x3.toNatClampNeg)
set_option maxHeartbeats 4000000 in
set_option maxRecDepth 100000 in
theorem c_q_goesOn (l : Launch) (G : gG) (lv : gLv) (ad : gAd) (C : gCT) (r : Nat) (hL : gLM lv) (hB : MBI C) (hr24 : r < 24) : gMv l yX6_goesOn cX6_goesOn 6 (gRm 4 91 0 0) G [.ref (ad 20 0), .int (nI r)] lv ad (gF G C ad) (gRv G lv ad MBI (q_goesOn C r)) := by
  refine r_met (own := RX6) (by decide) rfl (Nat.le_of_ble_eq_true rfl) ?_
  intro p e s m below meth c ls X hw hr hlk _ hl
  have hx := X.1.1; have hb := X.1.2.1; have hml := X.1.2.2.1; have hown := X.1.2.2.2.1; have hts := X.1.2.2.2.2
  have hl : lv_has ls 6 [(0, .ref (ad 20 0)), (1, .int (nI r))] := hl
  have L_q_goesOn_L : ∀ (n0 : Nat) (D : gCT) (o : Nat), MBI D → (1 ≤ n0 ∧ (D 21 24 r = 7 → (D 21 23 r).toNatClampNeg + 2 ≤ n0) ∧ o < 24) → ∀ (H : Heap) (locs : List Loc), gW G (gA lv ad s.heap.size) s.heap H locs lv ad (gF G D ad) → ∀ ls : Array Slot, lv_has ls 6 [(0, .ref (ad 20 0)), (1, .int (nI r)), (2, .int (nI o))] → W p l e (gRm 4 91 0 0) s m ([.ref (ad 20 0), .int (nI r)] : List Value).toArray below meth c H locs 0 0 (MQ below (gQv G (gA lv ad s.heap.size) (gRv G lv ad MBI (q_goesOn_L n0 D r o))) ([.ref (ad 20 0), .int (nI r)] : List Value).toArray s (gRm 4 91 0 0).cells (gRm 4 91 0 0).slots (gA lv ad s.heap.size)) (F0 m 25 ls []) := by
    intro n0
    induction n0 with
    | zero => intro D o _ hinv; exact absurd hinv (by rintro ⟨h, -⟩; omega)
    | succ n0 ih =>
      intro D o hB hinv H locs hw ls hl
      obtain ⟨hi1, hi2, hi3⟩ := hinv; have hB0 := hB
      refine lv_aload_n hx hb dX6_goesOn_25 rfl (lv_at hl 0 rfl) ?_
      refine r_get X hw 20 _ 24 (hL.1) rfl rfl k_X6 (by decide) fl_RX6_79 dX6_goesOn_26 ?_
      refine lv_iload_n hx hb dX6_goesOn_29 rfl (lv_at hl 1 rfl) ?_
      refine q_iald X hw 24 (hL.2 24 (by decide) (by decide) (by decide)) (j := r) rfl (show r < 24 by omega) dX6_goesOn_30 ?_
      refine lv_topi (fun x101 ex101 => ?_)
      refine lv_bipush (v := 7) hx hb dX6_goesOn_31 (by decide) ?_
      refine lv_icmp_ne (tgt := 166) hx hb dX6_goesOn_33 (by decide) (fun h102 => ?_) (fun h102 => ?_)
      · subst ex101
        exact r_vret X hw hr hlk (Nat.le_of_ble_eq_true rfl) (Nat.le_of_ble_eq_true rfl) (gREv_of ((if_neg h102).trans rfl) hB) dX6_goesOn_166
      · refine lv_bipush (v := 24) hx hb dX6_goesOn_36 (by decide) ?_
        refine lv_iload_n hx hb dX6_goesOn_38 rfl (lv_at hl 2 rfl) ?_
        refine lv_imul hx hb dX6_goesOn_39 ?_
        refine lv_aload_n hx hb dX6_goesOn_40 rfl (lv_at hl 0 rfl) ?_
        refine r_get X hw 20 _ 18 (hL.1) rfl rfl k_X6 (by decide) fl_RX6_61 dX6_goesOn_41 ?_
        refine lv_iload_n hx hb dX6_goesOn_44 rfl (lv_at hl 1 rfl) ?_
        refine q_iald X hw 18 (hL.2 18 (by decide) (by decide) (by decide)) (j := r) rfl (show r < 24 by omega) dX6_goesOn_45 ?_
        refine lv_topi (fun x103 ex103 => ?_)
        obtain ⟨px103, bx103⟩ := MBI.get hB 18 r (show r < 24 by omega) (by decide) ex103
        have bx103 : x103.toNatClampNeg < 25 := bx103
        refine lv_iadd hx hb dX6_goesOn_46 ?_
        refine lv_istore_n (lv' := [(3, .int ((24 * (nI o)) + x103)), (0, .ref (ad 20 0)), (1, .int (nI r)), (2, .int (nI o))]) hx hb dX6_goesOn_47 rfl hl (by decide) rfl (fun ls hl => ?_)
        refine lv_aload_n hx hb dX6_goesOn_48 rfl (lv_at hl 1 rfl) ?_
        refine r_get X hw 20 _ 18 (hL.1) rfl rfl k_X6 (by decide) fl_RX6_61 dX6_goesOn_49 ?_
        refine lv_iload_n hx hb dX6_goesOn_52 rfl (lv_at hl 2 rfl) ?_
        refine q_iald X hw 18 (hL.2 18 (by decide) (by decide) (by decide)) (j := r) rfl (show r < 24 by omega) dX6_goesOn_53 ?_
        refine lv_topi (fun x104 ex104 => ?_)
        have ex104 := (ex104).trans ex103.symm; have ex104 := ex104.symm; subst ex104
        refine lv_aload_n hx hb dX6_goesOn_54 rfl (lv_at hl 1 rfl) ?_
        refine r_get X hw 20 _ 5 (hL.1) rfl rfl k_X6 (by decide) fl_RX6_25 dX6_goesOn_55 ?_
        refine lv_iload_n hx hb dX6_goesOn_58 rfl (lv_at hl 3 rfl) ?_
        refine q_iald X hw 5 (hL.2 5 (by decide) (by decide) (by decide)) (j := o) rfl (show o < 24 by omega) dX6_goesOn_59 ?_
        refine lv_topi (fun x105 ex105 => ?_)
        obtain ⟨px105, bx105⟩ := MBI.get hB 5 o (show o < 24 by omega) (by decide) ex105
        have bx105 : x105.toNatClampNeg < 25 := bx105
        refine r_J (nL := 6) (J := 68) (rest := []) (L := [(3, .int ((24 * (nI o)) + x103)), (0, .ref (ad 20 0)), (1, .int (nI r)), (2, .int (nI o))]) (if x105 ≤ x103 then ( 0 ) else ( 1 )) (fun x108 ex108 ls hl => ?_) (fun J107 => ?_)
        · refine lv_istore (lv' := [(4, .int x108), (3, .int ((24 * (nI o)) + x103)), (0, .ref (ad 20 0)), (1, .int (nI r)), (2, .int (nI o))]) hx hb dX6_goesOn_68 hl (by decide) rfl (fun ls hl => ?_)
          refine lv_iload hx hb dX6_goesOn_70 (lv_at hl 0 rfl) ?_
          refine r_J (nL := 6) (J := 89) (rest := []) (L := [(4, .int x108), (3, .int ((24 * (nI o)) + x103)), (0, .ref (ad 20 0)), (1, .int (nI r)), (2, .int (nI o))]) (if x108 = 0 then ( 1 ) else ( let x110 : Int32 := D 21 3 ((24 * o) + x103.toNatClampNeg); if x110 = 0 then ( 3 ) else ( 1 ) )) (fun x113 ex113 ls hl => ?_) (fun J112 => ?_)
          · refine lv_istore (lv' := [(5, .int x113), (4, .int x108), (3, .int ((24 * (nI o)) + x103)), (0, .ref (ad 20 0)), (1, .int (nI r)), (2, .int (nI o))]) hx hb dX6_goesOn_89 hl (by decide) rfl (fun ls hl => ?_)
            refine lv_iload hx hb dX6_goesOn_91 (lv_at hl 1 rfl) ?_
            refine lv_if_eq (tgt := 107) hx hb dX6_goesOn_93 (by decide) (fun h114 => ?_) (fun h114 => ?_)
            · refine lv_aload_n hx hb dX6_goesOn_107 rfl (lv_at hl 3 rfl) ?_
              refine lv_iload_n hx hb dX6_goesOn_108 rfl (lv_at hl 4 rfl) ?_
              refine lv_iload hx hb dX6_goesOn_109 (lv_at hl 1 rfl) ?_
              refine r_J (nL := 6) (J := 119) (rest := [.int (nI r), .ref (ad 20 0)]) (L := [(5, .int x113), (4, .int x108), (3, .int ((24 * (nI o)) + x103)), (0, .ref (ad 20 0)), (1, .int (nI r)), (2, .int (nI o))]) (if x108 = 0 then ( 5 ) else ( 4 )) (fun x117 ex117 ls hl => ?_) (fun J116 => ?_)
              · refine r_qv X hw (r_runV X (c_q_ends l G lv ad _ r x117 hL hB hr24 _) cy_X6_ends ml_RX6_129 ⟨(Nat.le_of_ble_eq_true rfl), (Nat.le_of_ble_eq_true rfl)⟩ gP.blind (g_recv X hw 20 0 hL.1 rfl rfl) (gP_call X hw _) rfl hl.1 rfl (Nat.le_of_ble_eq_true rfl) dX6_goesOn_119 ⟨(Nat.le_of_ble_eq_true rfl), (Nat.le_of_ble_eq_true rfl)⟩) (fun H locs hB hw => ?_)
                refine lv_goto (tgt := 163) hx hb dX6_goesOn_122 (by decide) ?_
                refine lv_goto (tgt := 25) hx hb dX6_goesOn_163 (by decide) ?_
                subst ex117 ex113 ex108 ex105 ex103 ex101
                exact r_toQV (ih _ o hB (⟨by have := hi2 (by assumption); omega, fun q => absurd ((q_ends_state _ _ _).symm.trans q) (by split <;> decide), hi3⟩) _ _ hw _ (lv_sub hl [3, 4, 5] rfl)) ((if_pos h102).trans ((if_pos h114).trans rfl))
              · refine lv_if_eq (tgt := 118) hx hb dX6_goesOn_111 (by decide) (fun h115 => ?_) (fun h115 => ?_)
                · refine lv_iconst (v := 5) hx hb dX6_goesOn_118 (by decide) ?_
                  exact J116 _ ((if_pos h115).trans rfl).symm _ hl
                · refine lv_iconst (v := 4) hx hb dX6_goesOn_114 (by decide) ?_
                  refine lv_goto (tgt := 119) hx hb dX6_goesOn_115 (by decide) ?_
                  exact J116 _ ((if_neg h115).trans rfl).symm _ hl
            · have nq : x103.toNatClampNeg < x105.toNatClampNeg := Nat.not_le.mp ((not_congr (nat_le px105 px103 (by omega) (by omega))).mp (fun q => h114 (by rw [ex108]; exact if_pos q)))
              obtain ⟨dc, hdc, edc⟩ : ∃ d, (d = 1 ∨ d = 3) ∧ x113 = nI d := by rw [ex113]; (try dsimp only); (repeat' split); all_goals first | exact ⟨1, Or.inl rfl, rfl⟩ | exact ⟨3, Or.inr rfl, rfl⟩
              refine lv_aload_n hx hb dX6_goesOn_96 rfl (lv_at hl 3 rfl) ?_
              refine r_get X hw 20 _ 23 (hL.1) rfl rfl k_X6 (by decide) fl_RX6_76 dX6_goesOn_97 ?_
              refine lv_iload_n hx hb dX6_goesOn_100 rfl (lv_at hl 4 rfl) ?_
              refine q_iald X hw 23 (hL.2 23 (by decide) (by decide) (by decide)) (j := r) rfl (show r < 24 by omega) dX6_goesOn_101 ?_
              refine lv_topi (fun x119 ex119 => ?_)
              obtain ⟨px119, bx119⟩ := MBI.get hB 23 r (show r < 24 by omega) (by decide) ex119
              have bx119 : x119.toNatClampNeg < 201 := bx119
              refine lv_iload hx hb dX6_goesOn_102 (lv_at hl 0 rfl) ?_
              refine lv_icmp_ge (tgt := 125) hx hb dX6_goesOn_104 (by decide) (fun h120 => ?_) (fun h120 => ?_)
              · have nh120 := (nat_le edc px119 (by omega) (by omega)).mp h120
                refine lv_aload_n hx hb dX6_goesOn_125 rfl (lv_at hl 3 rfl) ?_
                refine r_get X hw 20 _ 23 (hL.1) rfl rfl k_X6 (by decide) fl_RX6_76 dX6_goesOn_126 ?_
                refine lv_iload_n hx hb dX6_goesOn_129 rfl (lv_at hl 4 rfl) ?_
                refine lv_dup2_11 hx hb dX6_goesOn_130 rfl rfl ?_
                refine q_iald X hw 23 (hL.2 23 (by decide) (by decide) (by decide)) (j := r) rfl (show r < 24 by omega) dX6_goesOn_131 ?_
                refine lv_topi (fun x121 ex121 => ?_)
                have ex121 := (ex121).trans ex119.symm; have ex121 := ex121.symm; subst ex121
                refine lv_iload hx hb dX6_goesOn_132 (lv_at hl 0 rfl) ?_
                refine lv_isub hx hb dX6_goesOn_134 ?_
                refine q_iast X hw 23 (hL.2 23 (by decide) (by decide) (by decide)) (j := r) rfl (show r < 24 by omega) dX6_goesOn_135 (fun H locs hw => ?_)
                have hB := MBI.set hB (k := 23) (j := r) (v := x119 - x113) (by decide) (fun _ => ⟨(x119.toNatClampNeg - dc), by show _ < 201; omega, (nat_sub px119 edc (by omega))⟩)
                refine lv_aload_n hx hb dX6_goesOn_136 rfl (lv_at hl 3 rfl) ?_
                refine r_get X hw 20 _ 18 (hL.1) rfl rfl k_X6 (by decide) fl_RX6_61 dX6_goesOn_137 ?_
                refine lv_iload_n hx hb dX6_goesOn_140 rfl (lv_at hl 4 rfl) ?_
                refine lv_dup2_11 hx hb dX6_goesOn_141 rfl rfl ?_
                refine q_iald X hw 18 (hL.2 18 (by decide) (by decide) (by decide)) (j := r) rfl (show r < 24 by omega) dX6_goesOn_142 ?_
                refine lv_topi (fun x123 ex123 => ?_)
                have ex123 := (ex123.trans (congrFun (cs_n _ _ _ _ (by decide)) _)).trans ex103.symm; have ex123 := ex123.symm; subst ex123
                refine lv_iconst (v := 1) hx hb dX6_goesOn_143 (by decide) ?_
                refine lv_iadd hx hb dX6_goesOn_144 ?_
                refine q_iast X hw 18 (hL.2 18 (by decide) (by decide) (by decide)) (j := r) rfl (show r < 24 by omega) dX6_goesOn_145 (fun H locs hw => ?_)
                have hB := MBI.set hB (k := 18) (j := r) (v := x103 + 1) (by decide) (fun _ => ⟨(x103.toNatClampNeg + 1), by show _ < 25; omega, (nat_add px103 (show (1 : Int32) = nI 1 from rfl))⟩)
                refine lv_aload_n hx hb dX6_goesOn_146 rfl (lv_at hl 3 rfl) ?_
                refine lv_iload_n hx hb dX6_goesOn_147 rfl (lv_at hl 4 rfl) ?_
                refine lv_aload_n hx hb dX6_goesOn_148 rfl (lv_at hl 3 rfl) ?_
                refine r_get X hw 20 _ 3 (hL.1) rfl rfl k_X6 (by decide) fl_RX6_19 dX6_goesOn_149 ?_
                refine lv_iload_n hx hb dX6_goesOn_152 rfl (lv_at hl 2 rfl) ?_
                refine q_iald X hw 3 (hL.2 3 (by decide) (by decide) (by decide)) (j := ((24 * o) + x103.toNatClampNeg)) (nat_add (nat_mul (show (24 : Int32) = nI 24 from rfl) rfl) px103) (show ((24 * o) + x103.toNatClampNeg) < 576 by omega) dX6_goesOn_153 ?_
                refine lv_topi (fun x125 ex125 => ?_)
                have ex125 := ex125.trans ((congrFun (cs_n _ _ _ _ (by decide)) _).trans (congrFun (cs_n _ _ _ _ (by decide)) _))
                refine lv_aload_n hx hb dX6_goesOn_154 rfl (lv_at hl 3 rfl) ?_
                refine r_get X hw 20 _ 4 (hL.1) rfl rfl k_X6 (by decide) fl_RX6_22 dX6_goesOn_155 ?_
                refine lv_iload_n hx hb dX6_goesOn_158 rfl (lv_at hl 2 rfl) ?_
                refine q_iald X hw 4 (hL.2 4 (by decide) (by decide) (by decide)) (j := ((24 * o) + x103.toNatClampNeg)) (nat_add (nat_mul (show (24 : Int32) = nI 24 from rfl) rfl) px103) (show ((24 * o) + x103.toNatClampNeg) < 576 by omega) dX6_goesOn_159 ?_
                refine lv_topi (fun x126 ex126 => ?_)
                have ex126 := ex126.trans ((congrFun (cs_n _ _ _ _ (by decide)) _).trans (congrFun (cs_n _ _ _ _ (by decide)) _))
                refine r_qv X hw (r_runV X (c_q_does l G lv ad _ r x125 x126 hL hB hr24 (by rw [ex125, ex126]; exact hB0.2.2.2.2 _ (by omega)) _) cy_X6_does ml_RX6_167 ⟨(Nat.le_of_ble_eq_true rfl), (Nat.le_of_ble_eq_true rfl)⟩ gP.blind (g_recv X hw 20 0 hL.1 rfl rfl) (gP_call X hw _) rfl hl.1 rfl (Nat.le_of_ble_eq_true rfl) dX6_goesOn_160 ⟨(Nat.le_of_ble_eq_true rfl), (Nat.le_of_ble_eq_true rfl)⟩) (fun H locs hB hw => ?_)
                refine lv_goto (tgt := 25) hx hb dX6_goesOn_163 (by decide) ?_
                subst ex126 ex125 ex119 ex113 ex108 ex105 ex103 ex101
                exact r_toQV (ih _ o hB (⟨by have := hi2 (by assumption); omega, fun _ => by rw [q_does_fuel, cs_n _ _ _ _ (by decide), cs_s, nat_sub px119 edc (by omega), nI_clamp (by omega)]; have := hi2 (by assumption); omega, hi3⟩) _ _ hw _ (lv_sub hl [3, 4, 5] rfl)) ((if_pos h102).trans ((if_neg h114).trans ((if_pos h120).trans rfl)))
              · have nh120 := (not_congr (nat_le edc px119 (by omega) (by omega))).mp h120
                refine lv_aload_n hx hb dX6_goesOn_107 rfl (lv_at hl 3 rfl) ?_
                refine lv_iload_n hx hb dX6_goesOn_108 rfl (lv_at hl 4 rfl) ?_
                refine lv_iload hx hb dX6_goesOn_109 (lv_at hl 1 rfl) ?_
                refine r_J (nL := 6) (J := 119) (rest := [.int (nI r), .ref (ad 20 0)]) (L := [(5, .int x113), (4, .int x108), (3, .int ((24 * (nI o)) + x103)), (0, .ref (ad 20 0)), (1, .int (nI r)), (2, .int (nI o))]) (if x108 = 0 then ( 5 ) else ( 4 )) (fun x130 ex130 ls hl => ?_) (fun J129 => ?_)
                · refine r_qv X hw (r_runV X (c_q_ends l G lv ad _ r x130 hL hB hr24 _) cy_X6_ends ml_RX6_129 ⟨(Nat.le_of_ble_eq_true rfl), (Nat.le_of_ble_eq_true rfl)⟩ gP.blind (g_recv X hw 20 0 hL.1 rfl rfl) (gP_call X hw _) rfl hl.1 rfl (Nat.le_of_ble_eq_true rfl) dX6_goesOn_119 ⟨(Nat.le_of_ble_eq_true rfl), (Nat.le_of_ble_eq_true rfl)⟩) (fun H locs hB hw => ?_)
                  refine lv_goto (tgt := 163) hx hb dX6_goesOn_122 (by decide) ?_
                  refine lv_goto (tgt := 25) hx hb dX6_goesOn_163 (by decide) ?_
                  subst ex130 ex119 ex113 ex108 ex105 ex103 ex101
                  exact r_toQV (ih _ o hB (⟨by have := hi2 (by assumption); omega, fun q => absurd ((q_ends_state _ _ _).symm.trans q) (by split <;> decide), hi3⟩) _ _ hw _ (lv_sub hl [3, 4, 5] rfl)) ((if_pos h102).trans ((if_neg h114).trans ((if_neg h120).trans rfl)))
                · refine lv_if_eq (tgt := 118) hx hb dX6_goesOn_111 (by decide) (fun h128 => ?_) (fun h128 => ?_)
                  · refine lv_iconst (v := 5) hx hb dX6_goesOn_118 (by decide) ?_
                    exact J129 _ ((if_pos h128).trans rfl).symm _ hl
                  · refine lv_iconst (v := 4) hx hb dX6_goesOn_114 (by decide) ?_
                    refine lv_goto (tgt := 119) hx hb dX6_goesOn_115 (by decide) ?_
                    exact J129 _ ((if_neg h128).trans rfl).symm _ hl
          · refine lv_if_eq (tgt := 88) hx hb dX6_goesOn_72 (by decide) (fun h109 => ?_) (fun h109 => ?_)
            · refine lv_iconst (v := 1) hx hb dX6_goesOn_88 (by decide) ?_
              exact J112 _ ((if_pos h109).trans rfl).symm _ hl
            · have nq : x103.toNatClampNeg < x105.toNatClampNeg := Nat.not_le.mp ((not_congr (nat_le px105 px103 (by omega) (by omega))).mp (fun q => h109 (by rw [ex108]; exact if_pos q)))
              refine lv_aload_n hx hb dX6_goesOn_75 rfl (lv_at hl 2 rfl) ?_
              refine r_get X hw 20 _ 3 (hL.1) rfl rfl k_X6 (by decide) fl_RX6_19 dX6_goesOn_76 ?_
              refine lv_iload_n hx hb dX6_goesOn_79 rfl (lv_at hl 1 rfl) ?_
              refine q_iald X hw 3 (hL.2 3 (by decide) (by decide) (by decide)) (j := ((24 * o) + x103.toNatClampNeg)) (nat_add (nat_mul (show (24 : Int32) = nI 24 from rfl) rfl) px103) (show ((24 * o) + x103.toNatClampNeg) < 576 by omega) dX6_goesOn_80 ?_
              refine lv_topi (fun x110 ex110 => ?_)
              refine lv_if_ne (tgt := 88) hx hb dX6_goesOn_81 (by decide) (fun h111 => ?_) (fun h111 => ?_)
              · refine lv_iconst (v := 1) hx hb dX6_goesOn_88 (by decide) ?_
                subst ex110; exact J112 _ ((if_neg h109).trans ((if_neg h111).trans rfl)).symm _ hl
              · refine lv_iconst (v := 3) hx hb dX6_goesOn_84 (by decide) ?_
                refine lv_goto (tgt := 89) hx hb dX6_goesOn_85 (by decide) ?_
                subst ex110; exact J112 _ ((if_neg h109).trans ((if_pos h111).trans rfl)).symm _ hl
        · refine lv_icmp_ge (tgt := 67) hx hb dX6_goesOn_60 (by decide) (fun h106 => ?_) (fun h106 => ?_)
          · refine lv_iconst (v := 0) hx hb dX6_goesOn_67 (by decide) ?_
            exact J107 _ ((if_pos h106).trans rfl).symm _ hl
          · refine lv_iconst (v := 1) hx hb dX6_goesOn_63 (by decide) ?_
            refine lv_goto (tgt := 68) hx hb dX6_goesOn_64 (by decide) ?_
            exact J107 _ ((if_neg h106).trans rfl).symm _ hl
  refine lv_aload_n hx hb dX6_goesOn_0 rfl (lv_at hl 0 rfl) ?_
  refine r_get X hw 20 _ 24 (hL.1) rfl rfl k_X6 (by decide) fl_RX6_79 dX6_goesOn_1 ?_
  refine lv_iload_n hx hb dX6_goesOn_4 rfl (lv_at hl 1 rfl) ?_
  refine lv_bipush (v := 7) hx hb dX6_goesOn_5 (by decide) ?_
  refine q_iast X hw 24 (hL.2 24 (by decide) (by decide) (by decide)) (j := r) rfl (show r < 24 by omega) dX6_goesOn_7 (fun H locs hw => ?_)
  have hB := MBI.set hB (k := 24) (j := r) (v := 7) (by decide) (fun h => absurd rfl h)
  refine lv_bipush (v := 6) hx hb dX6_goesOn_8 (by decide) ?_
  refine lv_aload_n hx hb dX6_goesOn_10 rfl (lv_at hl 0 rfl) ?_
  refine r_get X hw 20 _ 16 (hL.1) rfl rfl k_X6 (by decide) fl_RX6_55 dX6_goesOn_11 ?_
  refine lv_iload_n hx hb dX6_goesOn_14 rfl (lv_at hl 1 rfl) ?_
  refine q_iald X hw 16 (hL.2 16 (by decide) (by decide) (by decide)) (j := r) rfl (show r < 24 by omega) dX6_goesOn_15 ?_
  refine lv_topi (fun x2 ex2 => ?_)
  obtain ⟨px2, bx2⟩ := MBI.get hB 16 r (show r < 24 by omega) (by decide) ex2
  have bx2 : x2.toNatClampNeg < 4 := bx2
  have ex2 := ex2.trans (congrFun (cs_n _ _ _ _ (by decide)) _)
  refine lv_imul hx hb dX6_goesOn_16 ?_
  refine lv_aload_n hx hb dX6_goesOn_17 rfl (lv_at hl 0 rfl) ?_
  refine r_get X hw 20 _ 17 (hL.1) rfl rfl k_X6 (by decide) fl_RX6_58 dX6_goesOn_18 ?_
  refine lv_iload_n hx hb dX6_goesOn_21 rfl (lv_at hl 1 rfl) ?_
  refine q_iald X hw 17 (hL.2 17 (by decide) (by decide) (by decide)) (j := r) rfl (show r < 24 by omega) dX6_goesOn_22 ?_
  refine lv_topi (fun x3 ex3 => ?_)
  obtain ⟨px3, bx3⟩ := MBI.get hB 17 r (show r < 24 by omega) (by decide) ex3
  have bx3 : x3.toNatClampNeg < 6 := bx3
  have ex3 := ex3.trans (congrFun (cs_n _ _ _ _ (by decide)) _)
  refine lv_iadd hx hb dX6_goesOn_23 ?_
  refine W.eq (g2 := F0 m 24 ls [.int (nI ((6 * x2.toNatClampNeg) + x3.toNatClampNeg))]) (by rw [(nat_add (nat_mul (show (6 : Int32) = nI 6 from rfl) px2) px3)]) ?_
  refine lv_istore_n (lv' := [(2, .int (nI ((6 * x2.toNatClampNeg) + x3.toNatClampNeg))), (0, .ref (ad 20 0)), (1, .int (nI r))]) hx hb dX6_goesOn_24 rfl hl (by decide) rfl (fun ls hl => ?_)
  subst ex3 ex2
  exact r_toQV (L_q_goesOn_L 203 _ _ hB (⟨by decide, fun _ => by have := (hB.get 23 r hr24 (by decide) rfl).2; have : gBnd 23 = 201 := rfl; omega, by omega⟩) _ _ hw _ (lv_sub hl [1, 2, 0] rfl)) (rfl)

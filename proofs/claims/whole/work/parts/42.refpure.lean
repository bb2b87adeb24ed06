def q_isBelow (n1 n2 : Int32) : Int32 :=
  if n1 < 0 then (
    0
  ) else (
    if n2 ≤ n1 then (
      0
    ) else (
      1
    )
  )
set_option maxHeartbeats 4000000 in
set_option maxRecDepth 100000 in
theorem c_q_isBelow (l : Launch) (n1 n2 : Int32) : gMp l yX6_isBelow cX6_isBelow 2 (some .boolean) (gRm 0 0 0 0) [.int n1, .int n2] (fun _ => True) (some (.int (q_isBelow n1 n2))) := by
  refine r_metp (own := RX6) (by decide) rfl (Nat.le_of_ble_eq_true rfl) ?_
  intro p e s m below meth c ls X0 _ hr hlk hl
  obtain ⟨hx, hb, hml, hown, hts⟩ := id X0
  have hl : lv_has ls 2 [(0, .int n1), (1, .int n2)] := hl
  refine lv_iload_n hx hb dX6_isBelow_0 rfl (lv_at hl 0 rfl) ?_
  refine lv_if_lt (tgt := 13) hx hb dX6_isBelow_1 (by decide) (fun h1 => ?_) (fun h1 => ?_)
  · refine lv_iconst (v := 0) hx hb dX6_isBelow_13 (by decide) ?_
    exact r_piret hx hb hr nar_b0 hlk ((if_pos h1).trans rfl).symm dX6_isBelow_14
  · refine lv_iload_n hx hb dX6_isBelow_4 rfl (lv_at hl 0 rfl) ?_
    refine lv_iload_n hx hb dX6_isBelow_5 rfl (lv_at hl 1 rfl) ?_
    refine lv_icmp_ge (tgt := 13) hx hb dX6_isBelow_6 (by decide) (fun h2 => ?_) (fun h2 => ?_)
    · refine lv_iconst (v := 0) hx hb dX6_isBelow_13 (by decide) ?_
      exact r_piret hx hb hr nar_b0 hlk ((if_neg h1).trans ((if_pos h2).trans rfl)).symm dX6_isBelow_14
    · refine lv_iconst (v := 1) hx hb dX6_isBelow_9 (by decide) ?_
      refine lv_goto (tgt := 14) hx hb dX6_isBelow_10 (by decide) ?_
      exact r_piret hx hb hr nar_b1 hlk ((if_neg h1).trans ((if_neg h2).trans rfl)).symm dX6_isBelow_14
def q_isWithin (n1 n2 n3 : Int32) : Int32 :=
  if n1 < n2 then (
    0
  ) else (
    if n3 < n1 then (
      0
    ) else (
      1
    )
  )
set_option maxHeartbeats 4000000 in
set_option maxRecDepth 100000 in
theorem c_q_isWithin (l : Launch) (n1 n2 n3 : Int32) : gMp l yX6_isWithin cX6_isWithin 3 (some .boolean) (gRm 0 0 0 0) [.int n1, .int n2, .int n3] (fun _ => True) (some (.int (q_isWithin n1 n2 n3))) := by
  refine r_metp (own := RX6) (by decide) rfl (Nat.le_of_ble_eq_true rfl) ?_
  intro p e s m below meth c ls X0 _ hr hlk hl
  obtain ⟨hx, hb, hml, hown, hts⟩ := id X0
  have hl : lv_has ls 3 [(0, .int n1), (1, .int n2), (2, .int n3)] := hl
  refine lv_iload_n hx hb dX6_isWithin_0 rfl (lv_at hl 0 rfl) ?_
  refine lv_iload_n hx hb dX6_isWithin_1 rfl (lv_at hl 1 rfl) ?_
  refine lv_icmp_lt (tgt := 14) hx hb dX6_isWithin_2 (by decide) (fun h1 => ?_) (fun h1 => ?_)
  · refine lv_iconst (v := 0) hx hb dX6_isWithin_14 (by decide) ?_
    exact r_piret hx hb hr nar_b0 hlk ((if_pos h1).trans rfl).symm dX6_isWithin_15
  · refine lv_iload_n hx hb dX6_isWithin_5 rfl (lv_at hl 0 rfl) ?_
    refine lv_iload_n hx hb dX6_isWithin_6 rfl (lv_at hl 2 rfl) ?_
    refine lv_icmp_gt (tgt := 14) hx hb dX6_isWithin_7 (by decide) (fun h2 => ?_) (fun h2 => ?_)
    · refine lv_iconst (v := 0) hx hb dX6_isWithin_14 (by decide) ?_
      exact r_piret hx hb hr nar_b0 hlk ((if_neg h1).trans ((if_pos h2).trans rfl)).symm dX6_isWithin_15
    · refine lv_iconst (v := 1) hx hb dX6_isWithin_10 (by decide) ?_
      refine lv_goto (tgt := 15) hx hb dX6_isWithin_11 (by decide) ?_
      exact r_piret hx hb hr nar_b1 hlk ((if_neg h1).trans ((if_neg h2).trans rfl)).symm dX6_isWithin_15
def q_held (n1 : Int32) : Int32 :=
  if n1 ≤ 9999 then (
    if (-9999) ≤ n1 then (
      n1
    ) else (
      (-9999)
    )
  ) else (
    9999
  )
set_option maxHeartbeats 4000000 in
set_option maxRecDepth 100000 in
theorem c_q_held (l : Launch) (n1 : Int32) : gMp l yX6_held cX6_held 1 (some .int) (gRm 0 0 0 0) [.int n1] (fun _ => True) (some (.int (q_held n1))) := by
  refine r_metp (own := RX6) (by decide) rfl (Nat.le_of_ble_eq_true rfl) ?_
  intro p e s m below meth c ls X0 _ hr hlk hl
  obtain ⟨hx, hb, hml, hown, hts⟩ := id X0
  have hl : lv_has ls 1 [(0, .int n1)] := hl
  refine lv_iload_n hx hb dX6_held_0 rfl (lv_at hl 0 rfl) ?_
  refine lv_sipush (v := 9999) hx hb dX6_held_1 (by decide) ?_
  refine lv_icmp_le (tgt := 13) hx hb dX6_held_4 (by decide) (fun h1 => ?_) (fun h1 => ?_)
  · refine lv_iload_n hx hb dX6_held_13 rfl (lv_at hl 0 rfl) ?_
    refine lv_sipush (v := (-9999)) hx hb dX6_held_14 (by decide) ?_
    refine lv_icmp_ge (tgt := 26) hx hb dX6_held_17 (by decide) (fun h2 => ?_) (fun h2 => ?_)
    · refine lv_iload_n hx hb dX6_held_26 rfl (lv_at hl 0 rfl) ?_
      exact r_piret hx hb hr rfl hlk ((if_pos h1).trans ((if_pos h2).trans rfl)).symm dX6_held_27
    · refine lv_sipush (v := (-9999)) hx hb dX6_held_20 (by decide) ?_
      refine lv_goto (tgt := 27) hx hb dX6_held_23 (by decide) ?_
      exact r_piret hx hb hr rfl hlk ((if_pos h1).trans ((if_neg h2).trans rfl)).symm dX6_held_27
  · refine lv_sipush (v := 9999) hx hb dX6_held_7 (by decide) ?_
    refine lv_goto (tgt := 27) hx hb dX6_held_10 (by decide) ?_
    exact r_piret hx hb hr rfl hlk ((if_neg h1).trans rfl).symm dX6_held_27
def q_isFit (n1 n2 : Int32) : Int32 :=
  let x3 : Int32 :=
    if n1 = 1 then (
      (-99)
    ) else (
      0
    );
  let x12 : Int32 :=
    if n1 = 0 then (
      15
    ) else (
      if n1 = 1 then (
        99
      ) else (
        if n1 = 2 then (
          7
        ) else (
          if n1 = 3 then (
            7
          ) else (
            if n1 = 8 then (
              24
            ) else (
              if n1 = 9 then (
                24
              ) else (
                if n1 = 10 then (
                  500
                ) else (
                  0
                )
              )
            )
          )
        )
      )
    );
  let x13 : Int32 := q_isWithin n1 0 12;
  if x13 = 0 then (
    0
  ) else (
    let x15 : Int32 := q_isWithin n2 x3 x12;
    if x15 = 0 then (
      0
    ) else (
      1
    )
  )
set_option maxHeartbeats 4000000 in
set_option maxRecDepth 100000 in
theorem c_q_isFit (l : Launch) (n1 n2 : Int32) : gMp l yX6_isFit cX6_isFit 4 (some .boolean) (gRm 1 22 0 0) [.int n1, .int n2] (fun _ => True) (some (.int (q_isFit n1 n2))) := by
  refine r_metp (own := RX6) (by decide) rfl (Nat.le_of_ble_eq_true rfl) ?_
  intro p e s m below meth c ls X0 _ hr hlk hl
  obtain ⟨hx, hb, hml, hown, hts⟩ := id X0
  have hl : lv_has ls 4 [(0, .int n1), (1, .int n2)] := hl
  refine lv_iload_n hx hb dX6_isFit_0 rfl (lv_at hl 0 rfl) ?_
  refine lv_iconst (v := 1) hx hb dX6_isFit_1 (by decide) ?_
  refine r_J (nL := 4) (J := 11) (rest := []) (L := [(0, .int n1), (1, .int n2)]) (if n1 = 1 then ( (-99) ) else ( 0 )) (fun x3 ex3 ls hl => ?_) (fun J2 => ?_)
  · refine lv_istore_n (lv' := [(2, .int x3), (0, .int n1), (1, .int n2)]) hx hb dX6_isFit_11 rfl hl (by decide) rfl (fun ls hl => ?_)
    refine lv_iload_n hx hb dX6_isFit_12 rfl (lv_at hl 1 rfl) ?_
    refine r_J (nL := 4) (J := 76) (rest := []) (L := [(2, .int x3), (0, .int n1), (1, .int n2)]) (if n1 = 0 then ( 15 ) else ( if n1 = 1 then ( 99 ) else ( if n1 = 2 then ( 7 ) else ( if n1 = 3 then ( 7 ) else ( if n1 = 8 then ( 24 ) else ( if n1 = 9 then ( 24 ) else ( if n1 = 10 then ( 500 ) else ( 0 ) ) ) ) ) ) )) (fun x12 ex12 ls hl => ?_) (fun J11 => ?_)
    · refine lv_istore_n (lv' := [(3, .int x12), (2, .int x3), (0, .int n1), (1, .int n2)]) hx hb dX6_isFit_76 rfl hl (by decide) rfl (fun ls hl => ?_)
      refine lv_iload_n hx hb dX6_isFit_77 rfl (lv_at hl 2 rfl) ?_
      refine lv_iconst (v := 0) hx hb dX6_isFit_78 (by decide) ?_
      refine lv_bipush (v := 12) hx hb dX6_isFit_79 (by decide) ?_
      refine r_rp (r_runS1 X0 (c_q_isWithin l n1 0 12) cy_X6_isWithin ml_RX6_110 ⟨(Nat.le_of_ble_eq_true rfl), (Nat.le_of_ble_eq_true rfl)⟩ gPc_blind (fun _ _ _ => ⟨rfl, trivial⟩) rfl hl.1 rfl (Nat.le_of_ble_eq_true rfl) dX6_isFit_81 ⟨(Nat.le_of_ble_eq_true rfl), (Nat.le_of_ble_eq_true rfl)⟩) ?_
      refine lv_topi (fun x13 ex13 => ?_)
      refine lv_if_eq (tgt := 100) hx hb dX6_isFit_84 (by decide) (fun h14 => ?_) (fun h14 => ?_)
      · refine lv_iconst (v := 0) hx hb dX6_isFit_100 (by decide) ?_
        subst ex13 ex12 ex3
        exact r_piret hx hb hr nar_b0 hlk ((if_pos h14).trans rfl).symm dX6_isFit_101
      · refine lv_iload_n hx hb dX6_isFit_87 rfl (lv_at hl 3 rfl) ?_
        refine lv_iload_n hx hb dX6_isFit_88 rfl (lv_at hl 1 rfl) ?_
        refine lv_iload_n hx hb dX6_isFit_89 rfl (lv_at hl 0 rfl) ?_
        refine r_rp (r_runS1 X0 (c_q_isWithin l n2 x3 x12) cy_X6_isWithin ml_RX6_110 ⟨(Nat.le_of_ble_eq_true rfl), (Nat.le_of_ble_eq_true rfl)⟩ gPc_blind (fun _ _ _ => ⟨rfl, trivial⟩) rfl hl.1 rfl (Nat.le_of_ble_eq_true rfl) dX6_isFit_90 ⟨(Nat.le_of_ble_eq_true rfl), (Nat.le_of_ble_eq_true rfl)⟩) ?_
        refine lv_topi (fun x15 ex15 => ?_)
        refine lv_if_eq (tgt := 100) hx hb dX6_isFit_93 (by decide) (fun h16 => ?_) (fun h16 => ?_)
        · refine lv_iconst (v := 0) hx hb dX6_isFit_100 (by decide) ?_
          subst ex15 ex13 ex12 ex3
          exact r_piret hx hb hr nar_b0 hlk ((if_neg h14).trans ((if_pos h16).trans rfl)).symm dX6_isFit_101
        · refine lv_iconst (v := 1) hx hb dX6_isFit_96 (by decide) ?_
          refine lv_goto (tgt := 101) hx hb dX6_isFit_97 (by decide) ?_
          subst ex15 ex13 ex12 ex3
          exact r_piret hx hb hr nar_b1 hlk ((if_neg h14).trans ((if_neg h16).trans rfl)).symm dX6_isFit_101
    · refine lv_if_ne (tgt := 21) hx hb dX6_isFit_13 (by decide) (fun h4 => ?_) (fun h4 => ?_)
      · refine lv_iload_n hx hb dX6_isFit_21 rfl (lv_at hl 1 rfl) ?_
        refine lv_iconst (v := 1) hx hb dX6_isFit_22 (by decide) ?_
        refine lv_icmp_ne (tgt := 31) hx hb dX6_isFit_23 (by decide) (fun h5 => ?_) (fun h5 => ?_)
        · refine lv_iload_n hx hb dX6_isFit_31 rfl (lv_at hl 1 rfl) ?_
          refine lv_iconst (v := 2) hx hb dX6_isFit_32 (by decide) ?_
          refine lv_icmp_eq (tgt := 41) hx hb dX6_isFit_33 (by decide) (fun h6 => ?_) (fun h6 => ?_)
          · refine lv_bipush (v := 7) hx hb dX6_isFit_41 (by decide) ?_
            refine lv_goto (tgt := 76) hx hb dX6_isFit_43 (by decide) ?_
            exact J11 _ ((if_neg h4).trans ((if_neg h5).trans ((if_pos h6).trans rfl))).symm _ hl
          · refine lv_iload_n hx hb dX6_isFit_36 rfl (lv_at hl 1 rfl) ?_
            refine lv_iconst (v := 3) hx hb dX6_isFit_37 (by decide) ?_
            refine lv_icmp_ne (tgt := 46) hx hb dX6_isFit_38 (by decide) (fun h7 => ?_) (fun h7 => ?_)
            · refine lv_iload_n hx hb dX6_isFit_46 rfl (lv_at hl 1 rfl) ?_
              refine lv_bipush (v := 8) hx hb dX6_isFit_47 (by decide) ?_
              refine lv_icmp_eq (tgt := 58) hx hb dX6_isFit_49 (by decide) (fun h8 => ?_) (fun h8 => ?_)
              · refine lv_bipush (v := 24) hx hb dX6_isFit_58 (by decide) ?_
                refine lv_goto (tgt := 76) hx hb dX6_isFit_60 (by decide) ?_
                exact J11 _ ((if_neg h4).trans ((if_neg h5).trans ((if_neg h6).trans ((if_neg h7).trans ((if_pos h8).trans rfl))))).symm _ hl
              · refine lv_iload_n hx hb dX6_isFit_52 rfl (lv_at hl 1 rfl) ?_
                refine lv_bipush (v := 9) hx hb dX6_isFit_53 (by decide) ?_
                refine lv_icmp_ne (tgt := 63) hx hb dX6_isFit_55 (by decide) (fun h9 => ?_) (fun h9 => ?_)
                · refine lv_iload_n hx hb dX6_isFit_63 rfl (lv_at hl 1 rfl) ?_
                  refine lv_bipush (v := 10) hx hb dX6_isFit_64 (by decide) ?_
                  refine lv_icmp_ne (tgt := 75) hx hb dX6_isFit_66 (by decide) (fun h10 => ?_) (fun h10 => ?_)
                  · refine lv_iconst (v := 0) hx hb dX6_isFit_75 (by decide) ?_
                    exact J11 _ ((if_neg h4).trans ((if_neg h5).trans ((if_neg h6).trans ((if_neg h7).trans ((if_neg h8).trans ((if_neg h9).trans ((if_neg h10).trans rfl))))))).symm _ hl
                  · refine lv_sipush (v := 500) hx hb dX6_isFit_69 (by decide) ?_
                    refine lv_goto (tgt := 76) hx hb dX6_isFit_72 (by decide) ?_
                    exact J11 _ ((if_neg h4).trans ((if_neg h5).trans ((if_neg h6).trans ((if_neg h7).trans ((if_neg h8).trans ((if_neg h9).trans ((if_pos h10).trans rfl))))))).symm _ hl
                · refine lv_bipush (v := 24) hx hb dX6_isFit_58 (by decide) ?_
                  refine lv_goto (tgt := 76) hx hb dX6_isFit_60 (by decide) ?_
                  exact J11 _ ((if_neg h4).trans ((if_neg h5).trans ((if_neg h6).trans ((if_neg h7).trans ((if_neg h8).trans ((if_pos h9).trans rfl)))))).symm _ hl
            · refine lv_bipush (v := 7) hx hb dX6_isFit_41 (by decide) ?_
              refine lv_goto (tgt := 76) hx hb dX6_isFit_43 (by decide) ?_
              exact J11 _ ((if_neg h4).trans ((if_neg h5).trans ((if_neg h6).trans ((if_pos h7).trans rfl)))).symm _ hl
        · refine lv_bipush (v := 99) hx hb dX6_isFit_26 (by decide) ?_
          refine lv_goto (tgt := 76) hx hb dX6_isFit_28 (by decide) ?_
          exact J11 _ ((if_neg h4).trans ((if_pos h5).trans rfl)).symm _ hl
      · refine lv_bipush (v := 15) hx hb dX6_isFit_16 (by decide) ?_
        refine lv_goto (tgt := 76) hx hb dX6_isFit_18 (by decide) ?_
        exact J11 _ ((if_pos h4).trans rfl).symm _ hl
  · refine lv_icmp_ne (tgt := 10) hx hb dX6_isFit_2 (by decide) (fun h1 => ?_) (fun h1 => ?_)
    · refine lv_iconst (v := 0) hx hb dX6_isFit_10 (by decide) ?_
      exact J2 _ ((if_neg h1).trans rfl).symm _ hl
    · refine lv_bipush (v := (-99)) hx hb dX6_isFit_5 (by decide) ?_
      refine lv_goto (tgt := 11) hx hb dX6_isFit_7 (by decide) ?_
      exact J2 _ ((if_pos h1).trans rfl).symm _ hl
theorem q_isBelow_of {x n : Int32} {N : Nat} (hn : n = nI N) (hN : N < 2 ^ 31) (h : ¬ q_isBelow x n = 0) : x = nI x.toNatClampNeg ∧ x.toNatClampNeg < N := by
  unfold q_isBelow at h
  have h1 : 0 ≤ x := by
    by_cases q : x < 0
    · exact absurd (if_pos q) h
    · exact Int32.not_lt.mp q
  have h2 : x < n := by
    refine Int32.not_le.mp (fun q => h ?_)
    rw [if_neg (Int32.not_lt.mpr h1), if_pos q]
  have h3 : (0 : Int) ≤ x.toInt := Int32.le_iff_toInt_le.mp h1
  have h4 := Int32.lt_iff_toInt_lt.mp h2
  rw [hn, nI_toInt hN] at h4
  have h5 : (x.toNatClampNeg : Int) = x.toInt := by
    rw [← Int32.toNat_toInt]; omega
  refine ⟨?_, by omega⟩
  refine Int32.toInt_inj.mp ?_
  rw [nI_toInt (by omega)]
  omega
def q_thr (a b c : Int32) : Int32 := if a = 0 then 1 else if b = 0 then 2 else if c = 0 then 3 else 0
theorem q_goes_of {a b c : Int32} (h : ¬ (if q_thr a b c = 0 then (1 : Int32) else 0) = 0) : ¬ a = 0 ∧ ¬ b = 0 ∧ ¬ c = 0 := by
  unfold q_thr at h
  refine ⟨fun q => h ?_, fun q => h ?_, fun q => h ?_⟩
  · rw [if_pos q]; decide
  · rw [if_pos q]; split <;> decide
  · rw [if_pos q]; split
    · decide
    · split <;> decide
theorem q_isBelow_01 (x n : Int32) : q_isBelow x n = 0 ∨ q_isBelow x n = 1 := by
  unfold q_isBelow
  split
  · exact Or.inl rfl
  · split
    · exact Or.inl rfl
    · exact Or.inr rfl
theorem q_isWithin_of {x n : Int32} {N : Nat} (hn : n = nI N) (hN : N < 2 ^ 31) (h : ¬ q_isWithin x 0 n = 0) : x = nI x.toNatClampNeg ∧ x.toNatClampNeg ≤ N := by
  unfold q_isWithin at h
  have h1 : 0 ≤ x := by
    by_cases q : x < 0
    · exact absurd (if_pos q) h
    · exact Int32.not_lt.mp q
  have h2 : x ≤ n := by
    refine Int32.not_lt.mp (fun q => h ?_)
    rw [if_neg (Int32.not_lt.mpr h1), if_pos q]
  have h3 : (0 : Int) ≤ x.toInt := Int32.le_iff_toInt_le.mp h1
  have h4 := Int32.le_iff_toInt_le.mp h2
  rw [hn, nI_toInt hN] at h4
  have h5 : (x.toNatClampNeg : Int) = x.toInt := by
    rw [← Int32.toNat_toInt]; omega
  refine ⟨?_, by omega⟩
  refine Int32.toInt_inj.mp ?_
  rw [nI_toInt (by omega)]
  omega
theorem q_isFit_of {w a : Int32} (h : ¬ q_isFit w a = 0) : gFit w a := by
  have hw : ¬ q_isWithin w 0 12 = 0 := fun q => h (by unfold q_isFit; dsimp only; rw [if_pos q])
  have ha : ¬ q_isWithin a (if w = 1 then (-99) else 0) (if w = 0 then 15 else (if w = 1 then 99 else (if w = 2 then 7 else (if w = 3 then 7 else (if w = 8 then 24 else (if w = 9 then 24 else (if w = 10 then 500 else 0))))))) = 0 := fun q => h (by unfold q_isFit; dsimp only; rw [if_neg hw, if_pos q])
  refine ⟨?_, fun e => ?_, fun e => ?_, fun e => ?_⟩
  · obtain ⟨h1, h2⟩ := q_isWithin_of (N := 12) rfl (by decide) hw
    exact ⟨_, by omega, h1⟩
  · subst e
    rw [if_neg (by decide), if_pos (by decide)] at ha
    obtain ⟨h1, h2⟩ := q_isWithin_of (N := 15) rfl (by decide) ha
    exact ⟨_, by omega, h1⟩
  · rcases e with rfl | rfl
    · rw [if_neg (by decide), if_neg (by decide), if_neg (by decide), if_pos (by decide)] at ha
      obtain ⟨h1, h2⟩ := q_isWithin_of (N := 7) rfl (by decide) ha
      exact ⟨_, by omega, h1⟩
    · rw [if_neg (by decide), if_neg (by decide), if_neg (by decide), if_neg (by decide), if_pos (by decide)] at ha
      obtain ⟨h1, h2⟩ := q_isWithin_of (N := 7) rfl (by decide) ha
      exact ⟨_, by omega, h1⟩
  · rcases e with rfl | rfl
    · rw [if_neg (by decide), if_neg (by decide), if_neg (by decide), if_neg (by decide), if_neg (by decide), if_pos (by decide)] at ha
      obtain ⟨h1, h2⟩ := q_isWithin_of (N := 24) rfl (by decide) ha
      exact ⟨_, by omega, h1⟩
    · rw [if_neg (by decide), if_neg (by decide), if_neg (by decide), if_neg (by decide), if_neg (by decide), if_neg (by decide), if_pos (by decide)] at ha
      obtain ⟨h1, h2⟩ := q_isWithin_of (N := 24) rfl (by decide) ha
      exact ⟨_, by omega, h1⟩
theorem gFit_n {a : Int32} {N : Nat} (hN : N < 100) (h : ∃ j, j < N ∧ a = nI j) : a = nI a.toNatClampNeg ∧ a.toNatClampNeg < N := by
  obtain ⟨j, h1, rfl⟩ := h
  rw [nI_clamp (by omega)]
  exact ⟨rfl, h1⟩
theorem gFit_0 {w a : Int32} (h : gFit w a) (e : w = 0) : a = nI a.toNatClampNeg ∧ a.toNatClampNeg < 16 := gFit_n (by decide) (h.2.1 e)
theorem gFit_2 {w a : Int32} (h : gFit w a) (e : w = 2) : a = nI a.toNatClampNeg ∧ a.toNatClampNeg < 8 := gFit_n (by decide) (h.2.2.1 (Or.inl e))
theorem gFit_3 {w a : Int32} (h : gFit w a) (e : w = 3) : a = nI a.toNatClampNeg ∧ a.toNatClampNeg < 8 := gFit_n (by decide) (h.2.2.1 (Or.inr e))
theorem gFit_8 {w a : Int32} (h : gFit w a) (e : w = 8) : a = nI a.toNatClampNeg ∧ a.toNatClampNeg < 25 := gFit_n (by decide) (h.2.2.2 (Or.inl e))
theorem gFit_9 {w a : Int32} (h : gFit w a) (e : w = 9) : a = nI a.toNatClampNeg ∧ a.toNatClampNeg < 25 := gFit_n (by decide) (h.2.2.2 (Or.inr e))
theorem and2_of {a b : Int32} (h : ¬ (if a = 0 then (0 : Int32) else if b = 0 then 0 else 1) = 0) : ¬ a = 0 ∧ ¬ b = 0 := ⟨fun q => h (by rw [if_pos q]), fun q => h (by rw [if_pos q]; split <;> rfl)⟩

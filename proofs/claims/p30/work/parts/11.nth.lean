def m_nth_L (n0 : Nat) (C : gCT) (r : Nat) (q n : Int32) (w : Int32) (f : Int32) (i : Int32) : Int32 × gCT := match n0 with
  | 0 => (0, C)
  | n0 + 1 =>
    let x101 : Int32 := C 2 r 1;
    if x101 ≤ i then (
      ((-1), C)
    ) else (
      let x103 : Int32 := C 13 (1024 * r + i.toNatClampNeg) 0;
      if x103 = q then (
        let x106 : Int32 := C 13 (1024 * r + i.toNatClampNeg) 1;
        if x106 = w then (
          let x109 : Int32 := f + 1;
          if x109 = n then (
            let x112 : Int32 := C 13 (1024 * r + i.toNatClampNeg) 2;
            (x112, C)
          ) else (
            let x111 : Int32 := i + 1;
            m_nth_L n0 C r q n w x109 x111
          )
        ) else (
          let x108 : Int32 := i + 1;
          m_nth_L n0 C r q n w f x108
        )
      ) else (
        let x105 : Int32 := i + 1;
        m_nth_L n0 C r q n w f x105
      )
    )
def m_nth (C : gCT) (r : Nat) (q n : Int32) : Int32 × gCT :=
  let x1 : Int32 := m_at (C 12 r) 16 q;
  m_nth_L 2001 C r q n x1 0 0
set_option maxHeartbeats 4000000 in
set_option maxRecDepth 100000 in
theorem c_m_nth (l : Launch) (G : gG) (lv : gLv) (ad : gAd) (C : gCT) (r : Nat) (q n : Int32) (cnt cap : Nat) (hR : gRun lv C r cnt cap) : gMi l yX4_nthValue cX4_nthValue 7 (some .int) (gRm 3 64 0 0) G [.ref (ad 11 r), .int q, .int n] lv ad (gF G C ad) (gE (m_nth C r q n).1 lv ad (gF G (m_nth C r q n).2 ad)) := by
  refine r_met (own := RX4) (by decide) rfl (Nat.le_of_ble_eq_true rfl) ?_
  intro p e s m below meth c ls X hw hr hlk _ hl
  have hx := X.1.1; have hb := X.1.2.1; have hml := X.1.2.2.1; have hown := X.1.2.2.2.1; have hts := X.1.2.2.2.2
  have hl : lv_has ls 7 [(0, .ref (ad 11 r)), (1, .int q), (2, .int n)] := hl
  have hcnt : cnt ≤ 2000 := Nat.le_trans hR.2.2.2.1.2.2.2.1 hR.2.2.2.1.2.2.2.2.1
  have L_m_nth_L : ∀ (n0 : Nat) (w : Int32) (f : Int32) (i : Int32), (∃ j : Nat, i = nI j ∧ j ≤ cnt ∧ cnt < j + n0) → ∀ (H : Heap) (locs : List Loc), gW G (gA lv ad s.heap.size) s.heap H locs lv ad (gF G C ad) → ∀ ls : Array Slot, lv_has ls 7 [(0, .ref (ad 11 r)), (1, .int q), (2, .int n), (3, .int w), (4, .int f), (5, .int i)] → W p l e (gRm 3 64 0 0) s m ([.ref (ad 11 r), .int q, .int n] : List Value).toArray below meth c H locs 0 0 (MQ below (gQi G (gA lv ad s.heap.size) (gE (m_nth_L n0 C r q n w f i).1 lv ad (gF G (m_nth_L n0 C r q n w f i).2 ad))) ([.ref (ad 11 r), .int q, .int n] : List Value).toArray s (gRm 3 64 0 0).cells (gRm 3 64 0 0).slots (gA lv ad s.heap.size)) (F0 m 15 ls []) := by
    intro n0
    induction n0 with
    | zero => intro w f i hinv; exact absurd hinv (by rintro ⟨j, -, h1, h2⟩; omega)
    | succ n0 ih =>
      intro w f i hinv H locs hw ls hl
      obtain ⟨j, ej, hj, hn⟩ := hinv
      refine lv_iload hx hb dX4_nthValue_15 (lv_at hl 5 rfl) ?_
      refine lv_aload_n hx hb dX4_nthValue_17 rfl (lv_at hl 0 rfl) ?_
      refine r_get X hw 11 _ 4 (hR.2.1) rfl rfl k_X4 (by decide) fl_RX4_21 dX4_nthValue_18 ?_
      refine r_rix X hw (r_runV X (c_size l G lv ad _ _ (hR.2.2.2.1.1) _) cy_Jx4a65c_size_8abf5 ml_RX4_84 ⟨(Nat.le_of_ble_eq_true rfl), (Nat.le_of_ble_eq_true rfl)⟩ gP.blind (g_recv X hw 2 _ (hR.2.2.2.1.1) rfl rfl) (gP_call X hw _) rfl hl.1 rfl (Nat.le_of_ble_eq_true rfl) dX4_nthValue_21 ⟨(Nat.le_of_ble_eq_true rfl), (Nat.le_of_ble_eq_true rfl)⟩) (fun H locs hw => ?_)
      refine lv_topi (fun x101 ex101 => ?_)
      refine lv_icmp_ge (tgt := 80) hx hb dX4_nthValue_24 (by decide) (fun h102 => ?_) (fun h102 => ?_)
      · refine lv_iconst (v := (-1)) hx hb dX4_nthValue_80 (by decide) ?_
        subst ex101
        exact r_iret X hw hr rfl hlk (Nat.le_of_ble_eq_true rfl) (Nat.le_of_ble_eq_true rfl) (gE_of ((if_pos h102).trans rfl)) dX4_nthValue_81
      · have hin : vp_in i cnt := by subst ex101; exact vp_in_lt ej hR.2.2.2.1.2.1 (by omega) (by omega) h102
        refine lv_aload_n hx hb dX4_nthValue_27 rfl (lv_at hl 0 rfl) ?_
        refine r_get X hw 11 _ 4 (hR.2.1) rfl rfl k_X4 (by decide) fl_RX4_21 dX4_nthValue_28 ?_
        refine lv_iload hx hb dX4_nthValue_31 (lv_at hl 5 rfl) ?_
        refine r_rrx X hw (r_runV X (c_lgetA l G lv ad _ _ _ _ i hR.1 hR.2.2.2.1 hin _) cy_Jx4a65c_get_915e3 ml_RX4_87 ⟨(Nat.le_of_ble_eq_true rfl), (Nat.le_of_ble_eq_true rfl)⟩ gP.blind (g_recv X hw 2 _ (hR.2.2.2.1.1) rfl rfl) (gP_call X hw _) rfl hl.1 rfl (Nat.le_of_ble_eq_true rfl) dX4_nthValue_33 ⟨(Nat.le_of_ble_eq_true rfl), (Nat.le_of_ble_eq_true rfl)⟩) (fun H locs hw => ?_)
        refine r_cast X hw 13 _ (hR.2.2.2.2 _ (vp_lt hin)) rfl k_X0 cl_RX4_71 dX4_nthValue_36 ?_
        refine lv_astore (lv' := [(6, .ref (ad 13 (1024 * r + i.toNatClampNeg))), (0, .ref (ad 11 r)), (1, .int q), (2, .int n), (3, .int w), (4, .int f), (5, .int i)]) hx hb dX4_nthValue_39 hl (by decide) rfl (fun ls hl => ?_)
        refine lv_aload hx hb dX4_nthValue_41 (lv_at hl 0 rfl) ?_
        refine r_get X hw 13 _ 0 (hR.2.2.2.2 _ (vp_lt hin)) rfl rfl k_X0 (by decide) fl_RX4_91 dX4_nthValue_43 ?_
        refine lv_topi (fun x103 ex103 => ?_)
        refine lv_iload_n hx hb dX4_nthValue_46 rfl (lv_at hl 2 rfl) ?_
        refine lv_icmp_ne (tgt := 74) hx hb dX4_nthValue_47 (by decide) (fun h104 => ?_) (fun h104 => ?_)
        · obtain ⟨x105, ex105⟩ : ∃ y : Int32, y = i + 1 := ⟨_, rfl⟩
          refine lv_iinc (v := x105) (lv' := [(5, .int x105), (6, .ref (ad 13 (1024 * r + i.toNatClampNeg))), (0, .ref (ad 11 r)), (1, .int q), (2, .int n), (3, .int w), (4, .int f)]) hx hb dX4_nthValue_74 hl (k := 6) rfl (by rw [ex105]; rfl) (by decide) rfl (fun ls hl => ?_)
          refine lv_goto (tgt := 15) hx hb dX4_nthValue_77 (by decide) ?_
          subst ex105 ex103 ex101
          exact r_toI (ih _ _ _ (⟨j + 1, by rw [ej]; exact nI_1 j, by have := vp_lt hin; rw [ej, nI_clamp (by omega)] at this; omega, by omega⟩) _ _ hw _ (lv_sub hl [2, 3, 4, 5, 6, 0] rfl)) ((if_neg h102).trans ((if_neg h104).trans rfl))
        · refine lv_aload hx hb dX4_nthValue_50 (lv_at hl 0 rfl) ?_
          refine r_get X hw 13 _ 1 (hR.2.2.2.2 _ (vp_lt hin)) rfl rfl k_X0 (by decide) fl_RX4_92 dX4_nthValue_52 ?_
          refine lv_topi (fun x106 ex106 => ?_)
          refine lv_iload_n hx hb dX4_nthValue_55 rfl (lv_at hl 4 rfl) ?_
          refine lv_icmp_ne (tgt := 74) hx hb dX4_nthValue_56 (by decide) (fun h107 => ?_) (fun h107 => ?_)
          · obtain ⟨x108, ex108⟩ : ∃ y : Int32, y = i + 1 := ⟨_, rfl⟩
            refine lv_iinc (v := x108) (lv' := [(5, .int x108), (6, .ref (ad 13 (1024 * r + i.toNatClampNeg))), (0, .ref (ad 11 r)), (1, .int q), (2, .int n), (3, .int w), (4, .int f)]) hx hb dX4_nthValue_74 hl (k := 6) rfl (by rw [ex108]; rfl) (by decide) rfl (fun ls hl => ?_)
            refine lv_goto (tgt := 15) hx hb dX4_nthValue_77 (by decide) ?_
            subst ex108 ex106 ex103 ex101
            exact r_toI (ih _ _ _ (⟨j + 1, by rw [ej]; exact nI_1 j, by have := vp_lt hin; rw [ej, nI_clamp (by omega)] at this; omega, by omega⟩) _ _ hw _ (lv_sub hl [2, 3, 4, 5, 6, 0] rfl)) ((if_neg h102).trans ((if_pos h104).trans ((if_neg h107).trans rfl)))
          · obtain ⟨x109, ex109⟩ : ∃ y : Int32, y = f + 1 := ⟨_, rfl⟩
            refine lv_iinc (v := x109) (lv' := [(4, .int x109), (6, .ref (ad 13 (1024 * r + i.toNatClampNeg))), (0, .ref (ad 11 r)), (1, .int q), (2, .int n), (3, .int w), (5, .int i)]) hx hb dX4_nthValue_59 hl (k := 5) rfl (by rw [ex109]; rfl) (by decide) rfl (fun ls hl => ?_)
            refine lv_iload hx hb dX4_nthValue_62 (lv_at hl 0 rfl) ?_
            refine lv_iload_n hx hb dX4_nthValue_64 rfl (lv_at hl 4 rfl) ?_
            refine lv_icmp_ne (tgt := 74) hx hb dX4_nthValue_65 (by decide) (fun h110 => ?_) (fun h110 => ?_)
            · obtain ⟨x111, ex111⟩ : ∃ y : Int32, y = i + 1 := ⟨_, rfl⟩
              refine lv_iinc (v := x111) (lv' := [(5, .int x111), (4, .int x109), (6, .ref (ad 13 (1024 * r + i.toNatClampNeg))), (0, .ref (ad 11 r)), (1, .int q), (2, .int n), (3, .int w)]) hx hb dX4_nthValue_74 hl (k := 6) rfl (by rw [ex111]; rfl) (by decide) rfl (fun ls hl => ?_)
              refine lv_goto (tgt := 15) hx hb dX4_nthValue_77 (by decide) ?_
              subst ex111 ex109 ex106 ex103 ex101
              exact r_toI (ih _ _ _ (⟨j + 1, by rw [ej]; exact nI_1 j, by have := vp_lt hin; rw [ej, nI_clamp (by omega)] at this; omega, by omega⟩) _ _ hw _ (lv_sub hl [3, 4, 5, 6, 1, 0] rfl)) ((if_neg h102).trans ((if_pos h104).trans ((if_pos h107).trans ((if_neg h110).trans rfl))))
            · refine lv_aload hx hb dX4_nthValue_68 (lv_at hl 1 rfl) ?_
              refine r_get X hw 13 _ 2 (hR.2.2.2.2 _ (vp_lt hin)) rfl rfl k_X0 (by decide) fl_RX4_95 dX4_nthValue_70 ?_
              refine lv_topi (fun x112 ex112 => ?_)
              subst ex112 ex109 ex106 ex103 ex101
              exact r_iret X hw hr rfl hlk (Nat.le_of_ble_eq_true rfl) (Nat.le_of_ble_eq_true rfl) (gE_of ((if_neg h102).trans ((if_pos h104).trans ((if_pos h107).trans ((if_pos h110).trans rfl))))) dX4_nthValue_73
  refine lv_aload_n hx hb dX4_nthValue_0 rfl (lv_at hl 0 rfl) ?_
  refine r_get X hw 11 _ 5 (hR.2.1) rfl rfl k_X4 (by decide) fl_RX4_25 dX4_nthValue_1 ?_
  refine lv_iload_n hx hb dX4_nthValue_4 rfl (lv_at hl 1 rfl) ?_
  refine r_rp (r_runSN X (c_m_at l (ad 12 _) 16 _ q (by decide)) cy_X5_at mn_RX4_73 ⟨(Nat.le_of_ble_eq_true rfl), (Nat.le_of_ble_eq_true rfl)⟩ gArr_blind (fun U hU hW => ⟨rfl, gArr_call X hw 12 _ (hR.2.2.1) rfl U hU hW⟩) rfl hl.1 rfl (Nat.le_of_ble_eq_true rfl) dX4_nthValue_5 ⟨(Nat.le_of_ble_eq_true rfl), (Nat.le_of_ble_eq_true rfl)⟩) ?_
  refine lv_topi (fun x1 ex1 => ?_)
  refine lv_istore_n (lv' := [(3, .int x1), (0, .ref (ad 11 r)), (1, .int q), (2, .int n)]) hx hb dX4_nthValue_8 rfl hl (by decide) rfl (fun ls hl => ?_)
  refine lv_iconst (v := 0) hx hb dX4_nthValue_9 (by decide) ?_
  refine lv_istore (lv' := [(4, .int 0), (3, .int x1), (0, .ref (ad 11 r)), (1, .int q), (2, .int n)]) hx hb dX4_nthValue_10 hl (by decide) rfl (fun ls hl => ?_)
  refine lv_iconst (v := 0) hx hb dX4_nthValue_12 (by decide) ?_
  refine lv_istore (lv' := [(5, .int 0), (4, .int 0), (3, .int x1), (0, .ref (ad 11 r)), (1, .int q), (2, .int n)]) hx hb dX4_nthValue_13 hl (by decide) rfl (fun ls hl => ?_)
  subst ex1
  exact r_toI (L_m_nth_L 2001 _ _ _ (⟨0, rfl, by omega, by omega⟩) _ _ hw _ (lv_sub hl [3, 4, 5, 2, 1, 0] rfl)) (rfl)

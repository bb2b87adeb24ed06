def m_hasBegun_L (n0 : Nat) (C : gCT) (n1 : Int32) (f : Nat) (i : Int32) : Int32 × gCT := match n0 with
  | 0 => (0, C)
  | n0 + 1 =>
    let x101 : Int32 := C 2 24 1;
    if x101 ≤ i then (
      (0, C)
    ) else (
      let x103 : Int32 := C 11 i.toNatClampNeg 0;
      if x103 = n1 then (
        if (C 11 i.toNatClampNeg 6).toNatClampNeg = f then (
          (1, C)
        ) else (
          let x107 : Int32 := i + 1;
          m_hasBegun_L n0 C n1 f x107
        )
      ) else (
        let x105 : Int32 := i + 1;
        m_hasBegun_L n0 C n1 f x105
      )
    )
def m_hasBegun (C : gCT) (n1 : Int32) (f : Nat) : Int32 × gCT :=
  m_hasBegun_L 25 C n1 f 0
set_option maxHeartbeats 4000000 in
set_option maxRecDepth 100000 in
theorem c_m_hasBegun (l : Launch) (G : gG) (lv : gLv) (ad : gAd) (C : gCT) (n1 : Int32) (f : Nat) (rc bcap : Nat) (hT : gTop lv C) (hRs : gRuns lv C rc bcap) (hff : lv 4 f) : gMi l yX5_hasBegun cX5_hasBegun 5 (some .boolean) (gRm 3 64 0 0) G [.ref (ad 0 0), .int n1, .ref (ad 4 f)] lv ad (gF G C ad) (gE (m_hasBegun C n1 f).1 lv ad (gF G (m_hasBegun C n1 f).2 ad)) := by
  refine r_met (own := RX5) (by decide) rfl (Nat.le_of_ble_eq_true rfl) ?_
  intro p e s m below meth c ls X hw hr hlk _ hl
  have hx := X.1.1; have hb := X.1.2.1; have hml := X.1.2.2.1; have hown := X.1.2.2.2.1; have hts := X.1.2.2.2.2
  have hl : lv_has ls 5 [(0, .ref (ad 0 0)), (1, .int n1), (2, .ref (ad 4 f))] := hl
  have hrc := hRs.2.1
  have L_m_hasBegun_L : ∀ (n0 : Nat) (i : Int32), (∃ j : Nat, i = nI j ∧ j ≤ rc ∧ rc < j + n0) → ∀ (H : Heap) (locs : List Loc), gW G (gA lv ad s.heap.size) s.heap H locs lv ad (gF G C ad) → ∀ ls : Array Slot, lv_has ls 5 [(0, .ref (ad 0 0)), (1, .int n1), (2, .ref (ad 4 f)), (3, .int i)] → W p l e (gRm 3 64 0 0) s m ([.ref (ad 0 0), .int n1, .ref (ad 4 f)] : List Value).toArray below meth c H locs 0 0 (MQ below (gQi G (gA lv ad s.heap.size) (gE (m_hasBegun_L n0 C n1 f i).1 lv ad (gF G (m_hasBegun_L n0 C n1 f i).2 ad))) ([.ref (ad 0 0), .int n1, .ref (ad 4 f)] : List Value).toArray s (gRm 3 64 0 0).cells (gRm 3 64 0 0).slots (gA lv ad s.heap.size)) (F0 m 2 ls []) := by
    intro n0
    induction n0 with
    | zero => intro i hinv; exact absurd hinv (by rintro ⟨j, -, h1, h2⟩; omega)
    | succ n0 ih =>
      intro i hinv H locs hw ls hl
      obtain ⟨j, ej, hj, hn⟩ := hinv
      refine lv_iload_n hx hb dX5_hasBegun_2 rfl (lv_at hl 3 rfl) ?_
      refine lv_aload_n hx hb dX5_hasBegun_3 rfl (lv_at hl 0 rfl) ?_
      refine r_get X hw 0 _ 1 (hT.1) rfl rfl k_X5 (by decide) fl_RX5_18 dX5_hasBegun_4 ?_
      refine r_rix X hw (r_runV X (c_size l G lv ad _ _ (hRs.1.1) _) cy_Jx4a65c_size_8abf5 ml_RX5_133 ⟨(Nat.le_of_ble_eq_true rfl), (Nat.le_of_ble_eq_true rfl)⟩ gP.blind (g_recv X hw 2 _ (hRs.1.1) rfl rfl) (gP_call X hw _) rfl hl.1 rfl (Nat.le_of_ble_eq_true rfl) dX5_hasBegun_7 ⟨(Nat.le_of_ble_eq_true rfl), (Nat.le_of_ble_eq_true rfl)⟩) (fun H locs hw => ?_)
      refine lv_topi (fun x101 ex101 => ?_)
      refine lv_icmp_ge (tgt := 52) hx hb dX5_hasBegun_10 (by decide) (fun h102 => ?_) (fun h102 => ?_)
      · refine lv_iconst (v := 0) hx hb dX5_hasBegun_52 (by decide) ?_
        subst ex101
        exact r_iret X hw hr nar_b0 hlk (Nat.le_of_ble_eq_true rfl) (Nat.le_of_ble_eq_true rfl) (gE_of ((if_pos h102).trans rfl)) dX5_hasBegun_53
      · have hin : vp_in i rc := by subst ex101; exact vp_in_lt ej hRs.1.2.1 (by omega) (by have := hRs.2.1; omega) h102
        obtain ⟨cnt, cap, hR, hM, hf4, hC⟩ := hRs.2.2 _ (vp_lt hin)
        have hF := hT.2.2.2.2.2.2 _ hf4
        refine lv_aload_n hx hb dX5_hasBegun_13 rfl (lv_at hl 0 rfl) ?_
        refine r_get X hw 0 _ 1 (hT.1) rfl rfl k_X5 (by decide) fl_RX5_18 dX5_hasBegun_14 ?_
        refine lv_iload_n hx hb dX5_hasBegun_17 rfl (lv_at hl 3 rfl) ?_
        refine r_rrx X hw (r_runV X (c_lgetR l G lv ad _  _ _ i hRs.1 hin _) cy_Jx4a65c_get_915e3 ml_RX5_219 ⟨(Nat.le_of_ble_eq_true rfl), (Nat.le_of_ble_eq_true rfl)⟩ gP.blind (g_recv X hw 2 _ (hRs.1.1) rfl rfl) (gP_call X hw _) rfl hl.1 rfl (Nat.le_of_ble_eq_true rfl) dX5_hasBegun_18 ⟨(Nat.le_of_ble_eq_true rfl), (Nat.le_of_ble_eq_true rfl)⟩) (fun H locs hw => ?_)
        refine r_cast X hw 11 _ (hR.2.1) rfl k_X4 cl_RX5_138 dX5_hasBegun_21 ?_
        refine lv_astore (lv' := [(4, .ref (ad 11 i.toNatClampNeg)), (0, .ref (ad 0 0)), (1, .int n1), (2, .ref (ad 4 f)), (3, .int i)]) hx hb dX5_hasBegun_24 hl (by decide) rfl (fun ls hl => ?_)
        refine lv_aload hx hb dX5_hasBegun_26 (lv_at hl 0 rfl) ?_
        refine r_get X hw 11 _ 0 (hR.2.1) rfl rfl k_X4 (by decide) fl_RX5_242 dX5_hasBegun_28 ?_
        refine lv_topi (fun x103 ex103 => ?_)
        refine lv_iload_n hx hb dX5_hasBegun_31 rfl (lv_at hl 2 rfl) ?_
        refine lv_icmp_ne (tgt := 46) hx hb dX5_hasBegun_32 (by decide) (fun h104 => ?_) (fun h104 => ?_)
        · obtain ⟨x105, ex105⟩ : ∃ y : Int32, y = i + 1 := ⟨_, rfl⟩
          refine lv_iinc (v := x105) (lv' := [(3, .int x105), (4, .ref (ad 11 i.toNatClampNeg)), (0, .ref (ad 0 0)), (1, .int n1), (2, .ref (ad 4 f))]) hx hb dX5_hasBegun_46 hl (k := 4) rfl (by rw [ex105]; rfl) (by decide) rfl (fun ls hl => ?_)
          refine lv_goto (tgt := 2) hx hb dX5_hasBegun_49 (by decide) ?_
          subst ex105 ex103 ex101
          exact r_toI (ih _ (⟨j + 1, by rw [ej]; exact nI_1 j, by have := vp_lt hin; rw [ej, nI_clamp (by omega)] at this; omega, by omega⟩) _ _ hw _ (lv_sub hl [2, 3, 4, 0] rfl)) ((if_neg h102).trans ((if_neg h104).trans rfl))
        · refine lv_aload hx hb dX5_hasBegun_35 (lv_at hl 0 rfl) ?_
          refine r_get X hw 11 _ 2 (hR.2.1) rfl rfl k_X4 (by decide) fl_RX5_174 dX5_hasBegun_37 ?_
          refine lv_aload_n hx hb dX5_hasBegun_40 rfl (lv_at hl 3 rfl) ?_
          refine r_acmp_ne X hw 4 _ _ (hF.1) (hff) (tgt := 46) dX5_hasBegun_41 (by decide) (fun h106 => ?_) (fun h106 => ?_)
          · obtain ⟨x107, ex107⟩ : ∃ y : Int32, y = i + 1 := ⟨_, rfl⟩
            refine lv_iinc (v := x107) (lv' := [(3, .int x107), (4, .ref (ad 11 i.toNatClampNeg)), (0, .ref (ad 0 0)), (1, .int n1), (2, .ref (ad 4 f))]) hx hb dX5_hasBegun_46 hl (k := 4) rfl (by rw [ex107]; rfl) (by decide) rfl (fun ls hl => ?_)
            refine lv_goto (tgt := 2) hx hb dX5_hasBegun_49 (by decide) ?_
            subst ex107 ex103 ex101
            exact r_toI (ih _ (⟨j + 1, by rw [ej]; exact nI_1 j, by have := vp_lt hin; rw [ej, nI_clamp (by omega)] at this; omega, by omega⟩) _ _ hw _ (lv_sub hl [2, 3, 4, 0] rfl)) ((if_neg h102).trans ((if_pos h104).trans ((if_neg h106).trans rfl)))
          · refine lv_iconst (v := 1) hx hb dX5_hasBegun_44 (by decide) ?_
            subst ex103 ex101
            exact r_iret X hw hr nar_b1 hlk (Nat.le_of_ble_eq_true rfl) (Nat.le_of_ble_eq_true rfl) (gE_of ((if_neg h102).trans ((if_pos h104).trans ((if_pos h106).trans rfl)))) dX5_hasBegun_45
  refine lv_iconst (v := 0) hx hb dX5_hasBegun_0 (by decide) ?_
  refine lv_istore_n (lv' := [(3, .int 0), (0, .ref (ad 0 0)), (1, .int n1), (2, .ref (ad 4 f))]) hx hb dX5_hasBegun_1 rfl hl (by decide) rfl (fun ls hl => ?_)
  exact r_toI (L_m_hasBegun_L 25 _ (⟨0, rfl, by omega, by omega⟩) _ _ hw _ (lv_sub hl [1, 2, 3, 0] rfl)) (rfl)
theorem m_hasBegun_L_C (n0 : Nat) (C : gCT) (n1 : Int32) (f : Nat) (i : Int32) : (m_hasBegun_L n0 C n1 f i).2 = C := by
  induction n0 generalizing i with
  | zero => rfl
  | succ n0 ih =>
    unfold m_hasBegun_L
    dsimp only
    repeat' split
    all_goals first | rfl | exact ih _
theorem m_hasBegun_C (C : gCT) (n1 : Int32) (f : Nat) : (m_hasBegun C n1 f).2 = C := m_hasBegun_L_C _ _ _ _ _
theorem c_m_hasBegun_ro (l : Launch) (G : gG) (lv : gLv) (ad : gAd) (C : gCT) (n1 : Int32) (f : Nat) (rc bcap : Nat) (hT : gTop lv C) (hRs : gRuns lv C rc bcap) (hff : lv 4 f) : gMi l yX5_hasBegun cX5_hasBegun 5 (some .boolean) (gRm 3 64 0 0) G [.ref (ad 0 0), .int n1, .ref (ad 4 f)] lv ad (gF G C ad) (gE (m_hasBegun C n1 f).1 lv ad (gF G C ad)) := by
  have h := c_m_hasBegun l G lv ad C n1 f rc bcap hT hRs hff
  rwa [m_hasBegun_C] at h
def m_isOutdated_L (n0 : Nat) (C : gCT) (r : Nat) (i : Int32) : Int32 × gCT := match n0 with
  | 0 => (0, C)
  | n0 + 1 =>
    let x101 : Int32 := C 2 r 1;
    if x101 ≤ i then (
      (0, C)
    ) else (
      let x103 : Int32 := C 13 (1024 * r + i.toNatClampNeg) 1;
      let x104 : Int32 := C 13 (1024 * r + i.toNatClampNeg) 0;
      let x105 : Int32 := m_at (C 12 r) 16 x104;
      let x108 : Int32 :=
        if x103 = x105 then (
          1
        ) else (
          0
        );
      if x108 = 0 then (
        let x110 : Int32 := i + 1;
        m_isOutdated_L n0 C r x110
      ) else (
        let x111 : Int32 := C 13 (1024 * r + i.toNatClampNeg) 1;
        let x112 : Int32 := C 13 (1024 * r + i.toNatClampNeg) 0;
        let x113 : Int32 := m_at (C 18 0) 16 x112;
        if x111 = x113 then (
          let x115 : Int32 := i + 1;
          m_isOutdated_L n0 C r x115
        ) else (
          (1, C)
        )
      )
    )
def m_isOutdated (C : gCT) (r : Nat) : Int32 × gCT :=
  let x1 : Int32 := C 11 r 2;
  let x2 : Int32 := (m_newest C ((C 11 r 6).toNatClampNeg)).1;
  if x2 ≤ x1 then (
    m_isOutdated_L 2001 C r 0
  ) else (
    (1, C)
  )
set_option maxHeartbeats 4000000 in
set_option maxRecDepth 100000 in
theorem c_m_isOutdated (l : Launch) (G : gG) (lv : gLv) (ad : gAd) (C : gCT) (r : Nat) (cnt cap : Nat) (hT : gTop lv C) (hR : gRun lv C r cnt cap) (hM : gM lv r) (hf4 : (C 11 r 6).toNatClampNeg < 4) (hC : gCode lv (C 11 r 7).toNatClampNeg) : gMi l yX5_isOutdated cX5_isOutdated 5 (some .boolean) (gRm 3 64 0 0) G [.ref (ad 0 0), .ref (ad 11 r)] lv ad (gF G C ad) (gE (m_isOutdated C r).1 lv ad (gF G (m_isOutdated C r).2 ad)) := by
  refine r_met (own := RX5) (by decide) rfl (Nat.le_of_ble_eq_true rfl) ?_
  intro p e s m below meth c ls X hw hr hlk _ hl
  have hx := X.1.1; have hb := X.1.2.1; have hml := X.1.2.2.1; have hown := X.1.2.2.2.1; have hts := X.1.2.2.2.2
  have hl : lv_has ls 5 [(0, .ref (ad 0 0)), (1, .ref (ad 11 r))] := hl
  have hF := hT.2.2.2.2.2.2 _ hf4
  have hcnt : cnt ≤ 2000 := Nat.le_trans hR.2.2.2.1.2.2.2.1 hR.2.2.2.1.2.2.2.2.1
  have L_m_isOutdated_L : ∀ (n0 : Nat) (i : Int32), (∃ j : Nat, i = nI j ∧ j ≤ cnt ∧ cnt < j + n0) → ∀ (H : Heap) (locs : List Loc), gW G (gA lv ad s.heap.size) s.heap H locs lv ad (gF G C ad) → ∀ ls : Array Slot, lv_has ls 5 [(0, .ref (ad 0 0)), (1, .ref (ad 11 r)), (2, .int i)] → W p l e (gRm 3 64 0 0) s m ([.ref (ad 0 0), .ref (ad 11 r)] : List Value).toArray below meth c H locs 0 0 (MQ below (gQi G (gA lv ad s.heap.size) (gE (m_isOutdated_L n0 C r i).1 lv ad (gF G (m_isOutdated_L n0 C r i).2 ad))) ([.ref (ad 0 0), .ref (ad 11 r)] : List Value).toArray s (gRm 3 64 0 0).cells (gRm 3 64 0 0).slots (gA lv ad s.heap.size)) (F0 m 18 ls []) := by
    intro n0
    induction n0 with
    | zero => intro i hinv; exact absurd hinv (by rintro ⟨j, -, h1, h2⟩; omega)
    | succ n0 ih =>
      intro i hinv H locs hw ls hl
      obtain ⟨j, ej, hj, hn⟩ := hinv
      refine lv_iload_n hx hb dX5_isOutdated_18 rfl (lv_at hl 2 rfl) ?_
      refine lv_aload_n hx hb dX5_isOutdated_19 rfl (lv_at hl 1 rfl) ?_
      refine r_get X hw 11 _ 4 (hR.2.1) rfl rfl k_X4 (by decide) fl_RX5_163 dX5_isOutdated_20 ?_
      refine r_rix X hw (r_runV X (c_size l G lv ad _ _ (hR.2.2.2.1.1) _) cy_Jx4a65c_size_8abf5 ml_RX5_133 ⟨(Nat.le_of_ble_eq_true rfl), (Nat.le_of_ble_eq_true rfl)⟩ gP.blind (g_recv X hw 2 _ (hR.2.2.2.1.1) rfl rfl) (gP_call X hw _) rfl hl.1 rfl (Nat.le_of_ble_eq_true rfl) dX5_isOutdated_23 ⟨(Nat.le_of_ble_eq_true rfl), (Nat.le_of_ble_eq_true rfl)⟩) (fun H locs hw => ?_)
      refine lv_topi (fun x101 ex101 => ?_)
      refine lv_icmp_ge (tgt := 97) hx hb dX5_isOutdated_26 (by decide) (fun h102 => ?_) (fun h102 => ?_)
      · refine lv_iconst (v := 0) hx hb dX5_isOutdated_97 (by decide) ?_
        subst ex101
        exact r_iret X hw hr nar_b0 hlk (Nat.le_of_ble_eq_true rfl) (Nat.le_of_ble_eq_true rfl) (gE_of ((if_pos h102).trans rfl)) dX5_isOutdated_98
      · have hin : vp_in i cnt := by subst ex101; exact vp_in_lt ej hR.2.2.2.1.2.1 (by omega) (by omega) h102
        refine lv_aload_n hx hb dX5_isOutdated_29 rfl (lv_at hl 1 rfl) ?_
        refine r_get X hw 11 _ 4 (hR.2.1) rfl rfl k_X4 (by decide) fl_RX5_163 dX5_isOutdated_30 ?_
        refine lv_iload_n hx hb dX5_isOutdated_33 rfl (lv_at hl 2 rfl) ?_
        refine r_rrx X hw (r_runV X (c_lgetA l G lv ad _ _ _ _ i hR.1 hR.2.2.2.1 hin _) cy_Jx4a65c_get_915e3 ml_RX5_219 ⟨(Nat.le_of_ble_eq_true rfl), (Nat.le_of_ble_eq_true rfl)⟩ gP.blind (g_recv X hw 2 _ (hR.2.2.2.1.1) rfl rfl) (gP_call X hw _) rfl hl.1 rfl (Nat.le_of_ble_eq_true rfl) dX5_isOutdated_34 ⟨(Nat.le_of_ble_eq_true rfl), (Nat.le_of_ble_eq_true rfl)⟩) (fun H locs hw => ?_)
        refine r_cast X hw 13 _ (hR.2.2.2.2 _ (vp_lt hin)) rfl k_X0 cl_RX5_223 dX5_isOutdated_37 ?_
        refine lv_astore_n (lv' := [(3, .ref (ad 13 (1024 * r + i.toNatClampNeg))), (0, .ref (ad 0 0)), (1, .ref (ad 11 r)), (2, .int i)]) hx hb dX5_isOutdated_40 rfl hl (by decide) rfl (fun ls hl => ?_)
        refine lv_aload_n hx hb dX5_isOutdated_41 rfl (lv_at hl 0 rfl) ?_
        refine r_get X hw 13 _ 1 (hR.2.2.2.2 _ (vp_lt hin)) rfl rfl k_X0 (by decide) fl_RX5_225 dX5_isOutdated_42 ?_
        refine lv_topi (fun x103 ex103 => ?_)
        refine lv_aload_n hx hb dX5_isOutdated_45 rfl (lv_at hl 2 rfl) ?_
        refine r_get X hw 11 _ 5 (hR.2.1) rfl rfl k_X4 (by decide) fl_RX5_245 dX5_isOutdated_46 ?_
        refine lv_aload_n hx hb dX5_isOutdated_49 rfl (lv_at hl 0 rfl) ?_
        refine r_get X hw 13 _ 0 (hR.2.2.2.2 _ (vp_lt hin)) rfl rfl k_X0 (by decide) fl_RX5_228 dX5_isOutdated_50 ?_
        refine lv_topi (fun x104 ex104 => ?_)
        refine r_rp (r_runS X (c_m_at l (ad 12 _) 16 _ x104 (by decide)) cy_X5_at ml_RX5_58 ⟨(Nat.le_of_ble_eq_true rfl), (Nat.le_of_ble_eq_true rfl)⟩ gArr_blind (fun U hU hW => ⟨rfl, gArr_call X hw 12 _ (hR.2.2.1) rfl U hU hW⟩) rfl hl.1 rfl (Nat.le_of_ble_eq_true rfl) dX5_isOutdated_53 ⟨(Nat.le_of_ble_eq_true rfl), (Nat.le_of_ble_eq_true rfl)⟩) ?_
        refine lv_topi (fun x105 ex105 => ?_)
        refine r_J (nL := 5) (J := 64) (rest := []) (L := [(3, .ref (ad 13 (1024 * r + i.toNatClampNeg))), (0, .ref (ad 0 0)), (1, .ref (ad 11 r)), (2, .int i)]) (if x103 = x105 then ( 1 ) else ( 0 )) (fun x108 ex108 ls hl => ?_) (fun J107 => ?_)
        · refine lv_istore (lv' := [(4, .int x108), (3, .ref (ad 13 (1024 * r + i.toNatClampNeg))), (0, .ref (ad 0 0)), (1, .ref (ad 11 r)), (2, .int i)]) hx hb dX5_isOutdated_64 hl (by decide) rfl (fun ls hl => ?_)
          refine lv_iload hx hb dX5_isOutdated_66 (lv_at hl 0 rfl) ?_
          refine lv_if_eq (tgt := 91) hx hb dX5_isOutdated_68 (by decide) (fun h109 => ?_) (fun h109 => ?_)
          · obtain ⟨x110, ex110⟩ : ∃ y : Int32, y = i + 1 := ⟨_, rfl⟩
            refine lv_iinc (v := x110) (lv' := [(2, .int x110), (4, .int x108), (3, .ref (ad 13 (1024 * r + i.toNatClampNeg))), (0, .ref (ad 0 0)), (1, .ref (ad 11 r))]) hx hb dX5_isOutdated_91 hl (k := 4) rfl (by rw [ex110]; rfl) (by decide) rfl (fun ls hl => ?_)
            refine lv_goto (tgt := 18) hx hb dX5_isOutdated_94 (by decide) ?_
            subst ex110 ex108 ex105 ex104 ex103 ex101
            exact r_toI (ih _ (⟨j + 1, by rw [ej]; exact nI_1 j, by have := vp_lt hin; rw [ej, nI_clamp (by omega)] at this; omega, by omega⟩) _ _ hw _ (lv_sub hl [3, 4, 0] rfl)) ((if_neg h102).trans ((if_pos h109).trans rfl))
          · refine lv_aload_n hx hb dX5_isOutdated_71 rfl (lv_at hl 1 rfl) ?_
            refine r_get X hw 13 _ 1 (hR.2.2.2.2 _ (vp_lt hin)) rfl rfl k_X0 (by decide) fl_RX5_225 dX5_isOutdated_72 ?_
            refine lv_topi (fun x111 ex111 => ?_)
            refine lv_aload_n hx hb dX5_isOutdated_75 rfl (lv_at hl 2 rfl) ?_
            refine r_get X hw 0 _ 3 (hT.1) rfl rfl k_X5 (by decide) fl_RX5_26 dX5_isOutdated_76 ?_
            refine lv_aload_n hx hb dX5_isOutdated_79 rfl (lv_at hl 1 rfl) ?_
            refine r_get X hw 13 _ 0 (hR.2.2.2.2 _ (vp_lt hin)) rfl rfl k_X0 (by decide) fl_RX5_228 dX5_isOutdated_80 ?_
            refine lv_topi (fun x112 ex112 => ?_)
            refine r_rp (r_runS X (c_m_at l (ad 18 _) 16 _ x112 (by decide)) cy_X5_at ml_RX5_58 ⟨(Nat.le_of_ble_eq_true rfl), (Nat.le_of_ble_eq_true rfl)⟩ gArr_blind (fun U hU hW => ⟨rfl, gArr_call X hw 18 _ (hT.2.2.2.1) rfl U hU hW⟩) rfl hl.1 rfl (Nat.le_of_ble_eq_true rfl) dX5_isOutdated_83 ⟨(Nat.le_of_ble_eq_true rfl), (Nat.le_of_ble_eq_true rfl)⟩) ?_
            refine lv_topi (fun x113 ex113 => ?_)
            refine lv_icmp_eq (tgt := 91) hx hb dX5_isOutdated_86 (by decide) (fun h114 => ?_) (fun h114 => ?_)
            · obtain ⟨x115, ex115⟩ : ∃ y : Int32, y = i + 1 := ⟨_, rfl⟩
              refine lv_iinc (v := x115) (lv' := [(2, .int x115), (4, .int x108), (3, .ref (ad 13 (1024 * r + i.toNatClampNeg))), (0, .ref (ad 0 0)), (1, .ref (ad 11 r))]) hx hb dX5_isOutdated_91 hl (k := 4) rfl (by rw [ex115]; rfl) (by decide) rfl (fun ls hl => ?_)
              refine lv_goto (tgt := 18) hx hb dX5_isOutdated_94 (by decide) ?_
              subst ex115 ex113 ex112 ex111 ex108 ex105 ex104 ex103 ex101
              exact r_toI (ih _ (⟨j + 1, by rw [ej]; exact nI_1 j, by have := vp_lt hin; rw [ej, nI_clamp (by omega)] at this; omega, by omega⟩) _ _ hw _ (lv_sub hl [3, 4, 0] rfl)) ((if_neg h102).trans ((if_neg h109).trans ((if_pos h114).trans rfl)))
            · refine lv_iconst (v := 1) hx hb dX5_isOutdated_89 (by decide) ?_
              subst ex113 ex112 ex111 ex108 ex105 ex104 ex103 ex101
              exact r_iret X hw hr nar_b1 hlk (Nat.le_of_ble_eq_true rfl) (Nat.le_of_ble_eq_true rfl) (gE_of ((if_neg h102).trans ((if_neg h109).trans ((if_neg h114).trans rfl)))) dX5_isOutdated_90
        · refine lv_icmp_ne (tgt := 63) hx hb dX5_isOutdated_56 (by decide) (fun h106 => ?_) (fun h106 => ?_)
          · refine lv_iconst (v := 0) hx hb dX5_isOutdated_63 (by decide) ?_
            exact J107 _ ((if_neg h106).trans rfl).symm _ hl
          · refine lv_iconst (v := 1) hx hb dX5_isOutdated_59 (by decide) ?_
            refine lv_goto (tgt := 64) hx hb dX5_isOutdated_60 (by decide) ?_
            exact J107 _ ((if_pos h106).trans rfl).symm _ hl
  refine lv_aload_n hx hb dX5_isOutdated_0 rfl (lv_at hl 1 rfl) ?_
  refine r_get X hw 11 _ 7 (hR.2.1) rfl rfl k_X4 (by decide) fl_RX5_202 dX5_isOutdated_1 ?_
  refine lv_topi (fun x1 ex1 => ?_)
  refine lv_aload_n hx hb dX5_isOutdated_4 rfl (lv_at hl 1 rfl) ?_
  refine r_get X hw 11 _ 2 (hR.2.1) rfl rfl k_X4 (by decide) fl_RX5_174 dX5_isOutdated_5 ?_
  refine r_rix X hw (r_runV X (c_m_newest_ro l G lv ad _ _  hF _) cy_X2_newestNumber ml_RX5_98 ⟨(Nat.le_of_ble_eq_true rfl), (Nat.le_of_ble_eq_true rfl)⟩ gP.blind (g_recv X hw 4 _ (hF.1) rfl rfl) (gP_call X hw _) rfl hl.1 rfl (Nat.le_of_ble_eq_true rfl) dX5_isOutdated_8 ⟨(Nat.le_of_ble_eq_true rfl), (Nat.le_of_ble_eq_true rfl)⟩) (fun H locs hw => ?_)
  refine lv_topi (fun x2 ex2 => ?_)
  refine lv_icmp_ge (tgt := 16) hx hb dX5_isOutdated_11 (by decide) (fun h3 => ?_) (fun h3 => ?_)
  · refine lv_iconst (v := 0) hx hb dX5_isOutdated_16 (by decide) ?_
    refine lv_istore_n (lv' := [(2, .int 0), (0, .ref (ad 0 0)), (1, .ref (ad 11 r))]) hx hb dX5_isOutdated_17 rfl hl (by decide) rfl (fun ls hl => ?_)
    subst ex2 ex1
    exact r_toI (L_m_isOutdated_L 2001 _ (⟨0, rfl, by omega, by omega⟩) _ _ hw _ (lv_sub hl [1, 2, 0] rfl)) ((if_pos h3).trans rfl)
  · refine lv_iconst (v := 1) hx hb dX5_isOutdated_14 (by decide) ?_
    subst ex2 ex1
    exact r_iret X hw hr nar_b1 hlk (Nat.le_of_ble_eq_true rfl) (Nat.le_of_ble_eq_true rfl) (gE_of ((if_neg h3).trans rfl)) dX5_isOutdated_15
theorem m_isOutdated_L_C (n0 : Nat) (C : gCT) (r : Nat) (i : Int32) : (m_isOutdated_L n0 C r i).2 = C := by
  induction n0 generalizing i with
  | zero => rfl
  | succ n0 ih =>
    unfold m_isOutdated_L
    dsimp only
    repeat' split
    all_goals first | rfl | exact ih _
theorem m_isOutdated_C (C : gCT) (r : Nat) : (m_isOutdated C r).2 = C := by
  unfold m_isOutdated
  dsimp only
  split
  · exact m_isOutdated_L_C _ _ _ _
  · rfl
theorem c_m_isOutdated_ro (l : Launch) (G : gG) (lv : gLv) (ad : gAd) (C : gCT) (r : Nat) (cnt cap : Nat) (hT : gTop lv C) (hR : gRun lv C r cnt cap) (hM : gM lv r) (hf4 : (C 11 r 6).toNatClampNeg < 4) (hC : gCode lv (C 11 r 7).toNatClampNeg) : gMi l yX5_isOutdated cX5_isOutdated 5 (some .boolean) (gRm 3 64 0 0) G [.ref (ad 0 0), .ref (ad 11 r)] lv ad (gF G C ad) (gE (m_isOutdated C r).1 lv ad (gF G C ad)) := by
  have h := c_m_isOutdated l G lv ad C r cnt cap hT hR hM hf4 hC
  rwa [m_isOutdated_C] at h

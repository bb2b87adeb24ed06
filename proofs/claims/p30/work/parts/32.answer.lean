/-! ===== calls that make cells ===== -/
/-- the tool and the law's row lie where they lay -/
def gAdK (ad ad' : gAd) : Prop := ad' 0 0 = ad 0 0 ∧ ∀ n, n < 3 → ad' 22 n = ad 22 n
def gZi (G : gG) (ad0 : gAd) (r : Nat × Int32 × gCT) (v : Int32) (u : gSt) : Prop := r.1 = 0 ∧ v = r.2.1 ∧ ∃ ad', u = (gLvO r.2.2, ad', gF G r.2.2 ad') ∧ gAdK ad0 ad'
abbrev gMzi (l : Launch) (y : MethodName) (cc : ByteArray) (maxL : Nat) (ret : Option FieldType) (rm : Room) (G : gG) (As : gAd → List Value) (C : gCT) (r : Nat × Int32 × gCT) : Prop := ∀ (ad : gAd) (sz : Nat), vx_Met l y (.code y cc maxL ret :: gwl) rm (gP G (As ad) (gLvO C) ad (gF G C ad) sz) (gQi G (gA (gLvO C) ad sz) (gZi G ad r)) (gXC G (gA (gLvO C) ad sz) (gLvO C) ad (gF G C ad) r.1) rm.cells rm.slots (gA (gLvO C) ad sz)
section GZ
variable {p : Program} {l : Launch} {e : Env} {R : Room} {s : State} {m : MethodId} {args : Array Value} {below : List Frame} {meth : Method} {c : Code} {H : Heap} {locs : List Loc} {cells slots : Nat}
variable {cc : ByteArray} {own : String} {nL pc mc ms : Nat} {ls : Array Slot} {G : gG} {A : Nat → Prop} {ad ad0 : gAd} {XC : String → State → State → Prop}
theorem z_iret {D E : gCT} (X : gX p s m args c cc own nL G A) (hw : gW G A s.heap H locs (gLvO E) ad (gF G D ad)) {v : Int32} {ty : FieldType} (hr : meth.sig.returnType = some ty) (hn : narrow ty (.int v) = .int v) (hlk : meth.locks = false) (hc : cells ≤ mc) (hs : slots ≤ ms) (hlv : gLvO D = gLvO E) (hK : gAdK ad0 ad) {r : Nat × Int32 × gCT} (hp : r = (0, v, D)) (hdg : decode cc pc = .ok (.ireturn, 1)) :
    W p l e R s m args below meth c H locs cells slots (vx_MQ below (gQi G A (gZi G ad0 r)) XC args s mc ms A) (F0 m pc ls [.int v]) := by
  subst hp
  exact W.widen hc hs (vx_ret (r_iret X hw hr hn hlk (Nat.le_refl _) (Nat.le_refl _) ⟨rfl, rfl, ad, by rw [hlv], hK⟩ hdg))
end GZ
theorem an_cnt {C : gCT} {r : Nat} (hI : gInv C) (hr : r < gRc C) (h : C 2 r 1 < 512) : gCnt C r ≤ 511 := by
  have h1 := hI.cnt (Or.inl hr)
  rw [h1.1] at h
  have h2 : nI (gCnt C r) < nI 512 := h
  have := (nI_ltI (by omega) (by omega)).mp h2
  omega
def m_answer (C : gCT) (n1 n2 : Int32) : Nat × Int32 × gCT :=
  if (m_runAt C n1) = 0 then (
    let x2 : Int32 := m_isWithin n2 0 9;
    if x2 = 0 then (
      (2, 0, C)
    ) else (
      let x4 : Int32 := C 11 n1.toNatClampNeg 4;
      if x4 = 0 then (
        let x6 : Int32 := C 2 n1.toNatClampNeg 1;
        if x6 < 512 then (
          let x8 : Int32 := C 7 n1.toNatClampNeg 5;
          let x9 : Int32 := m_at (C 17 0) 16 x8;
          let x10 : Int32 := C 4 ((C 11 n1.toNatClampNeg 6).toNatClampNeg) 2;
          if x9 ≤ x10 then (
            let C12 : gCT := m_keepAnswer C n1.toNatClampNeg n2;
            let x13 : Int32 := C12 11 n1.toNatClampNeg 5;
            let x14 : Int32 := x13 + x9;
            let C15 : gCT := cs C12 11 n1.toNatClampNeg 5 x14;
            let C16 : gCT := m_pay2 C15 n1.toNatClampNeg x9;
            let C17 : gCT := m_takeAnswer C16 n1.toNatClampNeg n2;
            let C18 : gCT := m_go C17 n1.toNatClampNeg;
            let x19 : Int32 := C18 11 n1.toNatClampNeg 4;
            (0, x19, C18)
          ) else (
            (3, 0, C)
          )
        ) else (
          (3, 0, C)
        )
      ) else (
        (3, 0, C)
      )
    )
  ) else ((m_runAt C n1), 0, C)
set_option maxHeartbeats 4000000 in
set_option maxRecDepth 100000 in
theorem c_m_answer (l : Launch) (hst : l.stackTraces = false) (G : gG) (C : gCT) (n1 n2 : Int32) (hI : gInv C) : gMzi l yX5_answer cX5_answer 5 (some .int) (gRm 10 220 4 2120) G (fun ad => [.ref (ad 0 0), .int n1, .int n2]) C (m_answer C n1 n2) := by
  intro ad
  refine x_met (own := RX5) (XC := fun sz => gXC G (gA (gLvO C) ad sz) (gLvO C) ad (gF G C ad) _) (by decide) rfl (Nat.le_of_ble_eq_true rfl) ?_
  intro p e s m below meth c ls X hw hr hlk ht hl
  have hx := X.1.1; have hb := X.1.2.1; have hml := X.1.2.2.1; have hown := X.1.2.2.2.1; have hts := X.1.2.2.2.2
  have hT := hI.top; have hRs := hI.runs
  have hl : lv_has ls 5 [(0, .ref (ad 0 0)), (1, .int n1), (2, .int n2)] := hl
  refine lv_aload_n hx hb dX5_answer_0 rfl (lv_at hl 0 rfl) ?_
  refine lv_iload_n hx hb dX5_answer_1 rfl (lv_at hl 1 rfl) ?_
  refine x_rr X hw (x_runV X (c_m_runAt l hst G _ _ _ _ _ _ hT hRs _) cy_X5_runAt ml_RX5_154 ⟨(Nat.le_of_ble_eq_true rfl), (Nat.le_of_ble_eq_true rfl)⟩ gP.blind (g_recv X hw 0 _ (hT.1) rfl rfl) (gP_call X hw _) rfl hl.1 rfl (Nat.le_of_ble_eq_true rfl) dX5_answer_2 ⟨(Nat.le_of_ble_eq_true rfl), (Nat.le_of_ble_eq_true rfl)⟩) (fun E ce q H locs hE hw q1 q2 q3 => ?_) (fun H locs h1 hw => ?_)
  · exact x_on X hw hE ht hlk q1 q2 q3 (Nat.le_of_ble_eq_true rfl) (Nat.le_of_ble_eq_true rfl) (congrArg Prod.fst ((if_neg (gExc_ne hE)).trans rfl))
  have hrr := m_runAt_lt hRs h1; obtain ⟨hR, hM, hf4, hC⟩ := hI.run hrr; have hF := hT.2.2.2.2.2.2 _ hf4
  refine lv_astore_n (lv' := [(3, .ref (ad 11 n1.toNatClampNeg)), (0, .ref (ad 0 0)), (1, .int n1), (2, .int n2)]) hx hb dX5_answer_5 rfl hl (by decide) rfl (fun ls hl => ?_)
  refine lv_iload_n hx hb dX5_answer_6 rfl (lv_at hl 3 rfl) ?_
  refine lv_iconst (v := 0) hx hb dX5_answer_7 (by decide) ?_
  refine lv_bipush (v := 9) hx hb dX5_answer_8 (by decide) ?_
  refine r_rp (r_runS X (c_m_isWithin l n2 0 9) cy_X5_isWithin ml_RX5_44 ⟨(Nat.le_of_ble_eq_true rfl), (Nat.le_of_ble_eq_true rfl)⟩ gPc_blind (fun _ _ _ => ⟨rfl, trivial⟩) rfl hl.1 rfl (Nat.le_of_ble_eq_true rfl) dX5_answer_10 ⟨(Nat.le_of_ble_eq_true rfl), (Nat.le_of_ble_eq_true rfl)⟩) ?_
  refine lv_topi (fun x2 ex2 => ?_)
  refine lv_if_ne (tgt := 26) hx hb dX5_answer_13 (by decide) (fun h3 => ?_) (fun h3 => ?_)
  · refine lv_aload_n hx hb dX5_answer_26 rfl (lv_at hl 0 rfl) ?_
    refine r_get X hw 11 _ 9 (hR.2.1) rfl rfl k_X4 (by decide) fl_RX5_160 dX5_answer_27 ?_
    refine lv_topi (fun x4 ex4 => ?_)
    refine lv_if_ne (tgt := 46) hx hb dX5_answer_30 (by decide) (fun h5 => ?_) (fun h5 => ?_)
    · subst ex4 ex2
      exact r_throw X hst hw 3 (Or.inr (Or.inr ⟨rfl, rfl⟩)) (by decide) cl_RX5_77 ini_IllegalStateException sx_166 x_at_3 x_gd_3 hl.1 dX5_answer_46 dX5_answer_49 dX5_answer_50 dX5_answer_52 dX5_answer_55 ht (Nat.le_of_ble_eq_true rfl) (Nat.le_of_ble_eq_true rfl) (Nat.le_of_ble_eq_true rfl) (Nat.le_of_ble_eq_true rfl) hlk (Nat.le_of_ble_eq_true rfl) (Nat.le_of_ble_eq_true rfl) (congrArg Prod.fst ((if_pos h1).trans ((if_neg h3).trans ((if_neg h5).trans rfl))))
    · refine lv_aload_n hx hb dX5_answer_33 rfl (lv_at hl 0 rfl) ?_
      refine r_get X hw 11 _ 4 (hR.2.1) rfl rfl k_X4 (by decide) fl_RX5_163 dX5_answer_34 ?_
      refine r_rix X hw (r_runV X (c_size l G _ _ _ _ (hR.2.2.2.1.1) _) cy_Jx4a65c_size_8abf5 ml_RX5_133 ⟨(Nat.le_of_ble_eq_true rfl), (Nat.le_of_ble_eq_true rfl)⟩ gP.blind (g_recv X hw 2 _ (hR.2.2.2.1.1) rfl rfl) (gP_call X hw _) rfl hl.1 rfl (Nat.le_of_ble_eq_true rfl) dX5_answer_37 ⟨(Nat.le_of_ble_eq_true rfl), (Nat.le_of_ble_eq_true rfl)⟩) (fun H locs hw => ?_)
      refine lv_topi (fun x6 ex6 => ?_)
      refine lv_sipush (v := 512) hx hb dX5_answer_40 (by decide) ?_
      refine lv_icmp_lt (tgt := 56) hx hb dX5_answer_43 (by decide) (fun h7 => ?_) (fun h7 => ?_)
      · refine lv_aload_n hx hb dX5_answer_56 rfl (lv_at hl 1 rfl) ?_
        refine r_get X hw 0 _ 2 (hT.1) rfl rfl k_X5 (by decide) fl_RX5_22 dX5_answer_57 ?_
        refine lv_aload_n hx hb dX5_answer_60 rfl (lv_at hl 0 rfl) ?_
        refine r_get X hw 11 _ 3 (hR.2.1) rfl rfl k_X4 (by decide) fl_RX5_168 dX5_answer_61 ?_
        refine r_get X hw 7 _ 8 (hM.1) rfl rfl k_X3 (by decide) fl_RX5_171 dX5_answer_64 ?_
        refine lv_topi (fun x8 ex8 => ?_)
        refine r_rp (r_runS X (c_m_at l (ad 17 _) 16 _ x8 (by decide)) cy_X5_at ml_RX5_58 ⟨(Nat.le_of_ble_eq_true rfl), (Nat.le_of_ble_eq_true rfl)⟩ gArr_blind (fun U hU hW => ⟨rfl, gArr_call X hw 17 _ (hT.2.2.1) rfl U hU hW⟩) rfl hl.1 rfl (Nat.le_of_ble_eq_true rfl) dX5_answer_67 ⟨(Nat.le_of_ble_eq_true rfl), (Nat.le_of_ble_eq_true rfl)⟩) ?_
        refine lv_topi (fun x9 ex9 => ?_)
        refine lv_istore (lv' := [(4, .int x9), (3, .ref (ad 11 n1.toNatClampNeg)), (0, .ref (ad 0 0)), (1, .int n1), (2, .int n2)]) hx hb dX5_answer_70 hl (by decide) rfl (fun ls hl => ?_)
        refine lv_aload_n hx hb dX5_answer_72 rfl (lv_at hl 1 rfl) ?_
        refine r_get X hw 11 _ 2 (hR.2.1) rfl rfl k_X4 (by decide) fl_RX5_174 dX5_answer_73 ?_
        refine r_get X hw 4 _ 4 (hF.1) rfl rfl k_X2 (by decide) fl_RX5_110 dX5_answer_76 ?_
        refine lv_topi (fun x10 ex10 => ?_)
        refine lv_iload hx hb dX5_answer_79 (lv_at hl 0 rfl) ?_
        refine lv_icmp_ge (tgt := 94) hx hb dX5_answer_81 (by decide) (fun h11 => ?_) (fun h11 => ?_)
        · have hcc : gCnt C n1.toNatClampNeg ≤ 511 := an_cnt hI hrr (by subst_vars; assumption)
          refine lv_aload_n hx hb dX5_answer_94 rfl (lv_at hl 1 rfl) ?_
          refine lv_iload_n hx hb dX5_answer_95 rfl (lv_at hl 4 rfl) ?_
          refine r_rv X hw (r_runV X (c_keepAnswer l G _ C n1.toNatClampNeg n2 hI hrr hcc _) cy_X4_keepAnswer ml_RX5_180 ⟨(Nat.le_of_ble_eq_true rfl), (Nat.le_of_ble_eq_true rfl)⟩ gP.blind (g_recv X hw 11 _ hR.2.1 rfl rfl) (gP_call X hw _) rfl hl.1 rfl (Nat.le_of_ble_eq_true rfl) dX5_answer_96 ⟨(Nat.le_of_ble_eq_true rfl), (Nat.le_of_ble_eq_true rfl)⟩) (fun u H locs hp hw => ?_)
          obtain ⟨ad, rfl, hAd⟩ := hp
          have hw : gW G _ s.heap H locs (gLvO (m_keepAnswer C n1.toNatClampNeg n2)) ad (gF G (m_keepAnswer C n1.toNatClampNeg n2) ad) := hw
          rw [← hAd 11 _ (by decide) hR.2.1, ← hAd 0 0 (by decide) rfl] at hl
          have hI2 := m_keepAnswer_inv n2 hI hrr hcc
          obtain ⟨hR, hM, hf4, hC⟩ := hI2.run (show _ < gRc (m_keepAnswer C n1.toNatClampNeg n2) from by rw [m_keepAnswer_rc _ _ _ (by have := hI.1; omega)]; exact hrr)
          have hT := hI2.top; have hF := hT.2.2.2.2.2.2 _ hf4
          refine lv_aload_n hx hb dX5_answer_99 rfl (lv_at hl 1 rfl) ?_
          refine lv_dup hx hb dX5_answer_100 rfl ?_
          refine r_get X hw 11 _ 10 (hR.2.1) rfl rfl k_X4 (by decide) fl_RX5_184 dX5_answer_101 ?_
          refine lv_topi (fun x13 ex13 => ?_)
          refine lv_iload hx hb dX5_answer_104 (lv_at hl 0 rfl) ?_
          refine lv_iadd hx hb dX5_answer_106 ?_
          refine lv_topi (fun x14 ex14 => ?_)
          refine s_put X hw 11 _ 10 5 (hR.2.1) rfl rfl k_X4 (by decide) (Nat.le_of_ble_eq_true rfl) fl_RX5_184 rfl rfl dX5_answer_107 (fun H locs hw => ?_)
          refine lv_aload_n hx hb dX5_answer_110 rfl (lv_at hl 2 rfl) ?_
          refine lv_aload_n hx hb dX5_answer_111 rfl (lv_at hl 1 rfl) ?_
          refine lv_iload hx hb dX5_answer_112 (lv_at hl 0 rfl) ?_
          refine r_rvx X hw (r_runV X (c_m_pay2 l G _ _ _ _ _ hT.1 hT.2.2.2.2.1 hR.2.1 (by (try simp (disch := decide) only [cs_o, cs_k, m_goOn_11, m_goOn_4, m_addTo_k]); exact hF.1) _) cy_X5_payRespondent ml_RX5_187 ⟨(Nat.le_of_ble_eq_true rfl), (Nat.le_of_ble_eq_true rfl)⟩ gP.blind (g_recv X hw 0 0 hT.1 rfl rfl) (gP_call X hw _) rfl hl.1 rfl (Nat.le_of_ble_eq_true rfl) dX5_answer_114 ⟨(Nat.le_of_ble_eq_true rfl), (Nat.le_of_ble_eq_true rfl)⟩) (fun H locs hw => ?_)
          refine lv_aload_n hx hb dX5_answer_117 rfl (lv_at hl 1 rfl) ?_
          refine r_get X hw 11 _ 3 (hR.2.1) rfl rfl k_X4 (by decide) fl_RX5_168 dX5_answer_118 ?_
          refine lv_iload_n hx hb dX5_answer_121 rfl (lv_at hl 4 rfl) ?_
          refine r_rvx X hw (r_runV X (c_m_takeAnswer l G _ _ _ _ _ hM _) cy_X3_takeAnswer ml_RX5_191 ⟨(Nat.le_of_ble_eq_true rfl), (Nat.le_of_ble_eq_true rfl)⟩ gP.blind (g_recv X hw 7 _ (hM.1) rfl rfl) (gP_call X hw _) rfl hl.1 rfl (Nat.le_of_ble_eq_true rfl) dX5_answer_122 ⟨(Nat.le_of_ble_eq_true rfl), (Nat.le_of_ble_eq_true rfl)⟩) (fun H locs hw => ?_)
          have hS : gSx (m_keepAnswer C n1.toNatClampNeg n2) ((m_takeAnswer (m_pay2 (cs (m_keepAnswer C n1.toNatClampNeg n2) 11 n1.toNatClampNeg 5 x14) n1.toNatClampNeg x9) n1.toNatClampNeg n2)) := m_takeAnswer_str (m_pay2_str (gSx.rf.cs1 rfl) _ _) _ _
          have hT' := hS.top hT; have hR' := hS.run hR; have hf4' : ((m_takeAnswer (m_pay2 (cs (m_keepAnswer C n1.toNatClampNeg n2) 11 n1.toNatClampNeg 5 x14) n1.toNatClampNeg x9) n1.toNatClampNeg n2) 11 n1.toNatClampNeg 6).toNatClampNeg < 4 := by rw [(hS.2.2.2.1 _).1]; exact hf4
          have hC' : gCode (gLvO (m_keepAnswer C n1.toNatClampNeg n2)) ((m_takeAnswer (m_pay2 (cs (m_keepAnswer C n1.toNatClampNeg n2) 11 n1.toNatClampNeg 5 x14) n1.toNatClampNeg x9) n1.toNatClampNeg n2) 11 n1.toNatClampNeg 7).toNatClampNeg := by rw [(hS.2.2.2.1 _).2]; exact hC
          refine lv_aload_n hx hb dX5_answer_125 rfl (lv_at hl 2 rfl) ?_
          refine lv_aload_n hx hb dX5_answer_126 rfl (lv_at hl 1 rfl) ?_
          refine r_rvx X hw (r_runV X (c_m_go l G _ _ _ _ _ _ hT' hR' hM hf4' hC' _) cy_X5_goOn ml_RX5_151 ⟨(Nat.le_of_ble_eq_true rfl), (Nat.le_of_ble_eq_true rfl)⟩ gP.blind (g_recv X hw 0 _ (hT.1) rfl rfl) (gP_call X hw _) rfl hl.1 rfl (Nat.le_of_ble_eq_true rfl) dX5_answer_127 ⟨(Nat.le_of_ble_eq_true rfl), (Nat.le_of_ble_eq_true rfl)⟩) (fun H locs hw => ?_)
          refine lv_aload_n hx hb dX5_answer_130 rfl (lv_at hl 1 rfl) ?_
          refine r_get X hw 11 _ 9 (hR.2.1) rfl rfl k_X4 (by decide) fl_RX5_160 dX5_answer_131 ?_
          refine lv_topi (fun x19 ex19 => ?_)
          subst ex19 ex14 ex13 ex10 ex9 ex8 ex6 ex4 ex2
          exact z_iret X hw hr rfl hlk (Nat.le_of_ble_eq_true rfl) (Nat.le_of_ble_eq_true rfl) (m_go_str hS _).lv ⟨hAd 0 0 (by decide) rfl, fun n hn => hAd 22 n (by decide) hn⟩ ((if_pos h1).trans ((if_neg h3).trans ((if_pos h5).trans ((if_pos h7).trans ((if_pos h11).trans rfl))))) dX5_answer_134
        · subst ex10 ex9 ex8 ex6 ex4 ex2
          exact r_throw X hst hw 3 (Or.inr (Or.inr ⟨rfl, rfl⟩)) (by decide) cl_RX5_77 ini_IllegalStateException sx_178 x_at_3 x_gd_3 hl.1 dX5_answer_84 dX5_answer_87 dX5_answer_88 dX5_answer_90 dX5_answer_93 ht (Nat.le_of_ble_eq_true rfl) (Nat.le_of_ble_eq_true rfl) (Nat.le_of_ble_eq_true rfl) (Nat.le_of_ble_eq_true rfl) hlk (Nat.le_of_ble_eq_true rfl) (Nat.le_of_ble_eq_true rfl) (congrArg Prod.fst ((if_pos h1).trans ((if_neg h3).trans ((if_pos h5).trans ((if_pos h7).trans ((if_neg h11).trans rfl))))))
      · subst ex6 ex4 ex2
        exact r_throw X hst hw 3 (Or.inr (Or.inr ⟨rfl, rfl⟩)) (by decide) cl_RX5_77 ini_IllegalStateException sx_166 x_at_3 x_gd_3 hl.1 dX5_answer_46 dX5_answer_49 dX5_answer_50 dX5_answer_52 dX5_answer_55 ht (Nat.le_of_ble_eq_true rfl) (Nat.le_of_ble_eq_true rfl) (Nat.le_of_ble_eq_true rfl) (Nat.le_of_ble_eq_true rfl) hlk (Nat.le_of_ble_eq_true rfl) (Nat.le_of_ble_eq_true rfl) (congrArg Prod.fst ((if_pos h1).trans ((if_neg h3).trans ((if_pos h5).trans ((if_neg h7).trans rfl)))))
  · subst ex2
    exact r_throw X hst hw 2 (Or.inr (Or.inl ⟨rfl, rfl⟩)) (by decide) cl_RX5_48 ini_IllegalArgumentException sx_158 x_at_2 x_gd_2 hl.1 dX5_answer_16 dX5_answer_19 dX5_answer_20 dX5_answer_22 dX5_answer_25 ht (Nat.le_of_ble_eq_true rfl) (Nat.le_of_ble_eq_true rfl) (Nat.le_of_ble_eq_true rfl) (Nat.le_of_ble_eq_true rfl) hlk (Nat.le_of_ble_eq_true rfl) (Nat.le_of_ble_eq_true rfl) (congrArg Prod.fst ((if_pos h1).trans ((if_pos h3).trans rfl)))

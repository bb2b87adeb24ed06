/-! ===== lists (what is read), rows given to at and addTo ===== -/
theorem fl_J_48 : Cond.fieldLink RJx4a65c 48 "java/util/ArrayList" "size" "I" ∈ gwl := gwl_of (by decide +kernel) rfl
theorem fl_J_9 : Cond.fieldLink RJx4a65c 9 "java/util/ArrayList" "elementData" "[Ljava/lang/Object;" ∈ gwl := gwl_of (by decide +kernel) rfl
theorem ml_J_118 : Cond.methodLink RJx4a65c 118 yJ15_checkIndex_7cf53 ∈ gwl := gwl_of (by decide +kernel) rfl
theorem ml_J_123 : Cond.methodLink RJx4a65c 123 yJx4a65c_elementData_915e3 ∈ gwl := gwl_of (by decide +kernel) rfl
theorem ml_J15_105 : Cond.methodLink RJ15 105 yJ3_checkIndex_8e157 ∈ gwl := gwl_of (by decide +kernel) rfl
theorem mm_st_min : Cond.static Lib.Math.min.name ∈ gwl := gwl_of (by decide +kernel) rfl
theorem mm_st_max : Cond.static Lib.Math.max.name ∈ gwl := gwl_of (by decide +kernel) rfl
theorem mm_co_min : Cond.code Lib.Math.min.name Lib.Math.min.code 2 (some .int) ∈ gwl := gwl_of (by decide +kernel) rfl
theorem mm_co_max : Cond.code Lib.Math.max.name Lib.Math.max.code 2 (some .int) ∈ gwl := gwl_of (by decide +kernel) rfl
theorem mm_ini : Cond.initialized "java/lang/Math" ∈ gwl := gwl_of (by decide +kernel) rfl
theorem ml_RX3_120 : Cond.methodLink RX3 120 Lib.Math.min.name ∈ gwl := gwl_of (by decide +kernel) rfl
theorem ml_RX3_125 : Cond.methodLink RX3 125 Lib.Math.max.name ∈ gwl := gwl_of (by decide +kernel) rfl
theorem ml_RX5_273 : Cond.methodLink RX5 273 Lib.Math.min.name ∈ gwl := gwl_of (by decide +kernel) rfl
section GL
variable {p : Program} {l : Launch} {e : Env} {R : Room} {s : State} {m : MethodId} {args : Array Value} {below : List Frame} {meth : Method} {c : Code} {H : Heap} {locs : List Loc} {cells slots : Nat} {Q : State → Prop}
variable {cc bytes : ByteArray} {own : String} {nL pc maxL n idx : Nat} {ls : Array Slot} {rest st0 : List Value} {G : gG} {A : Nat → Prop} {lv : gLv} {ad : gAd} {con : gCn} {y : MethodName} {ret : Option FieldType} {rm : Room} {As : List Value}
variable {Pc : Array Value → State → Prop} {Qc : Array Value → State → Outcome → State → Prop} {free : Addr → Prop}
/-- a static call out of a body that knows the words alone -/
theorem r_runS1 (X1 : p.tables.exec = Jvm.exec ∧ c.code = cc ∧ c.maxLocals = nL ∧ s.vm.findClass own = some m.cls ∧ ∀ w ∈ gwl, w.before args s = true) (hM : Met l y (.code y bytes maxL ret :: gwl) rm Pc Qc rm.cells rm.slots free) (hy : gyS y bytes maxL ret n) (hml : Cond.methodLink own idx y ∈ gwl) (hR : rm.frames + 1 ≤ R.frames ∧ 8 + (maxL + 11) + rm.locals ≤ R.locals)
    (hb : FrameBlind Pc) (hp : ∀ U : State, U.heap = H → s.WarmedH U.vm → Pc As.toArray U)
    (hn : As.length = n) (hsz : ls.size = nL) (hst : st0 = As.reverse ++ rest) (hW : (rest.map fun v => v.category).sum ≤ 8) (hdg : decode cc pc = .ok (.invokestatic idx, 3)) (hf : cells + rm.cells ≤ R.cells ∧ slots + rm.slots ≤ R.slots) :
    va_Run p l e R s m args below meth c H locs cells slots rm.cells rm.slots (F0 m pc ls st0) rest (Qc As.toArray) free :=
  va_runS X1 hM ⟨callB_of n X1.2.2.2.2 (gwl_code hy.2.2.1) rfl rfl rfl (X1.2.2.2.2 _ hy.2.1) (X1.2.2.2.2 _ hml) hy.2.2.2 hR, X1.2.2.2.2 _ hy.1⟩ ⟨hb, hp⟩ rfl hn hsz hst (lv_room hW) hdg hf
theorem r_runV1 (X1 : p.tables.exec = Jvm.exec ∧ c.code = cc ∧ c.maxLocals = nL ∧ s.vm.findClass own = some m.cls ∧ ∀ w ∈ gwl, w.before args s = true) {b : Nat} (hM : Met l y (.code y bytes maxL ret :: gwl) rm Pc Qc rm.cells rm.slots free) (hy : gyI y bytes maxL ret n) (hml : Cond.methodLink own idx y ∈ gwl) (hR : rm.frames + 1 ≤ R.frames ∧ 8 + (maxL + 11) + rm.locals ≤ R.locals)
    (hb : FrameBlind Pc) (hrec : ∃ cellB : Cell, H[b]? = some cellB ∧ cellB.vm.isStatics = false ∧ s.vm.findClass y.cls = some cellB.cls) (hp : ∀ U : State, U.heap = H → s.WarmedH U.vm → Pc (Value.ref b :: As).toArray U)
    (hn : As.length = n) (hsz : ls.size = nL) (hst : st0 = As.reverse ++ .ref b :: rest) (hW : (rest.map fun v => v.category).sum ≤ 8) (hdg : decode cc pc = .ok (.invokevirtual idx, 3)) (hf : cells + rm.cells ≤ R.cells ∧ slots + rm.slots ≤ R.slots) :
    va_Run p l e R s m args below meth c H locs cells slots rm.cells rm.slots (F0 m pc ls st0) rest (Qc (Value.ref b :: As).toArray) free :=
  va_runV (C := y.cls) X1 hM ⟨callB_of n X1.2.2.2.2 (gwl_code hy.2.2.1) rfl rfl rfl (X1.2.2.2.2 _ hy.2.1) (X1.2.2.2.2 _ hml) hy.2.2.2 hR, X1.2.2.2.2 _ hy.1.1, X1.2.2.2.2 _ hy.1.2⟩ ⟨hb, hrec, hp⟩ rfl hn hsz hst (lv_room hW) hdg hf
/-- a cast that holds: the object is of the class itself -/
theorem r_cast (X : gX p s m args c cc own nL G A) (hw : gW G A s.heap H locs lv ad con) (κ n : Nat) (hl : lv κ n) {ci N : Nat} {C : String} {T : u_T} {ty : Nat → FieldType} {fs : List Value} (he : con κ n = .inr (ci, fs)) (hc : gcl ci C T N ty) (hlink : Cond.classLink own idx C ∈ gwl) (hdg : decode cc pc = .ok (.checkcast idx, 3))
    (k : W p l e R s m args below meth c H locs cells slots Q (F0 m (pc + 3) ls (.ref (ad κ n) :: rest))) : W p l e R s m args below meth c H locs cells slots Q (F0 m pc ls (.ref (ad κ n) :: rest)) :=
  va_castS X.1.1 X.1.2.1 X.1.2.2.2.1 (X.1.2.2.2.2 _ hlink) (X.2.1.1 ci _ hc.1).2 (g_recv X hw κ n hl he hc.1) hdg k
theorem gArr_w (hV : gV G A lv ad con H) (hK : va_K G.1 vwCl (gT G) s) (κ n : Nat) (hl : lv κ n) {N : Nat} {f : Nat → Int32} (he : con κ n = .inl (G.2.1, N, .inl f)) : gArr s H (ad κ n) N f := by
  have h := hV.1 κ n hl
  rw [he] at h
  have h1 : H[ad κ n]? = some (vp_cell G.2.1 (N, .inl f)) := h
  refine ⟨_, h1, (hK.2 0 _ rfl).1 N (fun j => .int (f j)), (fun q => by cases q), ?_, ?_, fun j hj => ?_⟩
  · show N ≤ (arrV _ _ _).slots.size
    rw [arrV_size]; exact Nat.le_refl _
  · show (arrV _ _ _).slots.size.toInt32 = Int32.ofNat N
    rw [arrV_size]
  · show (arrV _ _ _).slots[j]? = _
    rw [arrV_read _ _ hj]
theorem gArr_call (X : gX p s m args c cc own nL G A) (hw : gW G A s.heap H locs lv ad con) (κ n : Nat) (hl : lv κ n) {N : Nat} {f : Nat → Int32} (he : con κ n = .inl (G.2.1, N, .inl f)) : ∀ U : State, U.heap = H → s.WarmedH U.vm → gArr U U.heap (ad κ n) N f := fun U hU hW => by
  rw [hU]
  exact (gArr_w hw.1 X.2.1 κ n hl he).warm hW
theorem gArr_const (X : gX p s m args c cc own nL G A) (hw : gW G A s.heap H locs lv ad con) {t N : Nat} {f : Nat → Int32} (h : va_T .int t N (fun i => .int (f i)) A s s.heap) : ∀ U : State, U.heap = H → s.WarmedH U.vm → gArr U U.heap t N f := fun U hU hW => by
  rw [hU]
  obtain ⟨cell, h1, h2, h3, h4, h5, h6, h7⟩ := va_T.moved hW.alike (h.kept hw.2.2.1)
  exact ⟨cell, h1, h2, h3, h4, h5, h6⟩
end GL
theorem gArr_blind {As : List Value} {a N : Nat} {f : Nat → Int32} : FrameBlind (va_Pc As (fun U => gArr U U.heap a N f)) := fun a' U g mk h => ⟨h.1, gArr.same (u := U) (U := U.calling g mk a') rfl h.2⟩
/-- at(row, index) -/
def m_at (f : Nat → Int32) (N : Nat) (i : Int32) : Int32 := if i < 0 then 0 else if nI N ≤ i then 0 else f i.toNatClampNeg
set_option maxHeartbeats 4000000 in
theorem c_m_at (l : Launch) (a N : Nat) (f : Nat → Int32) (i : Int32) (hN : N < 2 ^ 31) : gMp l yX5_at cX5_at 2 (some .int) (gRm 0 0 0 0) [.ref a, .int i] (fun U => gArr U U.heap a N f) (some (.int (m_at f N i))) := by
  refine r_metp (own := RX5) (by decide) rfl (Nat.le_of_ble_eq_true rfl) ?_
  intro p e s m below meth c ls X0 hA hr hlk hl
  obtain ⟨hx, hb, hml, hown, hts⟩ := X0
  obtain ⟨cell, a1, a2, a3, a4, a5, a6⟩ := hA
  have hl : lv_has ls 2 [(0, .ref a), (1, .int i)] := hl
  refine lv_iload_n hx hb dX5_at_0 rfl (lv_at hl 1 rfl) ?_
  refine lv_if_lt (tgt := 16) hx hb dX5_at_1 (by decide) (fun h1 => ?_) (fun h1 => ?_)
  · refine lv_iconst (v := 0) hx hb dX5_at_16 (by decide) ?_
    exact r_piret hx hb hr rfl hlk (if_pos h1).symm dX5_at_17
  · refine lv_iload_n hx hb dX5_at_4 rfl (lv_at hl 1 rfl) ?_
    refine lv_aload_n hx hb dX5_at_5 rfl (lv_at hl 0 rfl) ?_
    refine W.alen (n := Int32.ofNat N) hx hb a1 a2 a5 rfl rfl dX5_at_6 ?_
    refine W.eq (g2 := F0 m 7 ls [.int (Int32.ofNat N), .int i]) rfl ?_
    refine lv_icmp_ge (tgt := 16) hx hb dX5_at_7 (by decide) (fun h2 => ?_) (fun h2 => ?_)
    · refine lv_iconst (v := 0) hx hb dX5_at_16 (by decide) ?_
      exact r_piret hx hb hr rfl hlk ((if_neg h1).trans (if_pos h2)).symm dX5_at_17
    · refine lv_aload_n hx hb dX5_at_10 rfl (lv_at hl 0 rfl) ?_
      refine lv_iload_n hx hb dX5_at_11 rfl (lv_at hl 1 rfl) ?_
      obtain ⟨j, hj, rfl⟩ := nI_of h1
      have hjN : j < N := by
        rcases Nat.lt_or_ge j N with q | q
        · exact q
        · exact absurd (nI_le q hj) h2
      refine W.iald (v := .int (f j)) hx hb a1 a2 a3 (by rw [nI_clamp hj]; exact fun q => q.elim h1 (fun q => absurd (Nat.le_trans a4 q) (Nat.not_le.mpr hjN))) (by rw [nI_clamp hj]; exact a6 j hjN) rfl rfl dX5_at_12 ?_
      refine W.eq (g2 := F0 m 13 ls [.int (f j)]) rfl ?_
      refine lv_goto (tgt := 17) hx hb dX5_at_13 (by decide) ?_
      exact r_piret hx hb hr rfl hlk ((if_neg h1).trans ((if_neg h2).trans (by rw [nI_clamp hj]))).symm dX5_at_17
/-- addTo(row, index, more) -/
def m_addF (N : Nat) (f : Nat → Int32) (i v : Int32) : Nat → Int32 := if i < 0 then f else if nI N ≤ i then f else upd f i.toNatClampNeg (f i.toNatClampNeg + v)
def m_addTo (C : gCT) (κ n N : Nat) (i v : Int32) : gCT := g2 C κ n (m_addF N (C κ n) i v)
theorem g2_id {α : Type} (f : Nat → Nat → α) (κ n : Nat) : g2 f κ n (f κ n) = f := by
  funext a b
  by_cases h : a = κ ∧ b = n
  · obtain ⟨rfl, rfl⟩ := h; rw [g2_s]
  · rw [g2_n _ _ h]
set_option maxHeartbeats 4000000 in
theorem c_m_addTo (l : Launch) (G : gG) (lv : gLv) (ad : gAd) (C : gCT) (κ n N : Nat) (i v : Int32) (hN : N < 2 ^ 31) (hk : lv κ n) (hB : ∀ y, gB G κ n y ad = .inl (G.2.1, N, .inl y)) : gMv l yX5_addTo cX5_addTo 3 (gRm 0 0 0 0) G [.ref (ad κ n), .int i, .int v] lv ad (gF G C ad) (gEv lv ad (gF G (m_addTo C κ n N i v) ad)) := by
  refine r_met (own := RX5) (by decide) rfl (Nat.le_of_ble_eq_true rfl) ?_
  intro p e s m below meth c ls X hw hr hlk _ hl
  have hx := X.1.1; have hb := X.1.2.1; have hown := X.1.2.2.2.1
  have hl : lv_has ls 3 [(0, .ref (ad κ n)), (1, .int i), (2, .int v)] := hl
  have he : gF G C ad κ n = .inl (G.2.1, N, .inl (C κ n)) := hB _
  refine lv_iload_n hx hb dX5_addTo_0 rfl (lv_at hl 1 rfl) ?_
  refine lv_if_lt (tgt := 17) hx hb dX5_addTo_1 (by decide) (fun h1 => ?_) (fun h1 => ?_)
  · exact r_vret X hw hr hlk (Nat.le_refl _) (Nat.le_refl _) (gEv_of (by unfold m_addTo m_addF; rw [if_pos h1, g2_id])) dX5_addTo_17
  · refine lv_iload_n hx hb dX5_addTo_4 rfl (lv_at hl 1 rfl) ?_
    refine lv_aload_n hx hb dX5_addTo_5 rfl (lv_at hl 0 rfl) ?_
    refine r_ialen X hw κ n hk he (v := nI N) rfl dX5_addTo_6 ?_
    refine lv_icmp_ge (tgt := 17) hx hb dX5_addTo_7 (by decide) (fun h2 => ?_) (fun h2 => ?_)
    · exact r_vret X hw hr hlk (Nat.le_refl _) (Nat.le_refl _) (gEv_of (by unfold m_addTo m_addF; rw [if_neg h1, if_pos h2, g2_id])) dX5_addTo_17
    · have hin : vp_in i N := by
        obtain ⟨j, hj, rfl⟩ := nI_of h1
        rcases Nat.lt_or_ge j N with q | q
        · exact vp_in_nI q hN
        · exact absurd (nI_le q hj) h2
      refine lv_aload_n hx hb dX5_addTo_10 rfl (lv_at hl 0 rfl) ?_
      refine lv_iload_n hx hb dX5_addTo_11 rfl (lv_at hl 1 rfl) ?_
      refine lv_dup2_11 hx hb dX5_addTo_12 rfl rfl ?_
      refine r_iald X hw κ n hk he hin dX5_addTo_13 ?_
      refine lv_iload_n hx hb dX5_addTo_14 rfl (lv_at hl 2 rfl) ?_
      refine lv_iadd hx hb dX5_addTo_15 ?_
      refine s_iast X hw κ n hk he hB hin dX5_addTo_16 (fun H locs hw => ?_)
      exact r_vret X hw hr hlk (Nat.le_refl _) (Nat.le_refl _) (gEv_of (by unfold m_addTo m_addF; rw [if_neg h1, if_neg h2]; rfl)) dX5_addTo_17
/-! lists -/
def gL (lv : gLv) (C : gCT) (n c cap : Nat) : Prop := lv 2 n ∧ C 2 n 1 = nI c ∧ C 2 n 2 = nI cap ∧ c ≤ cap ∧ cap ≤ 2000 ∧ (cap ≠ 0 → lv 3 n ∧ C 3 n 0 = nI cap ∧ C 3 n 1 = nI c)
set_option maxHeartbeats 4000000 in
theorem c_size (l : Launch) (G : gG) (lv : gLv) (ad : gAd) (C : gCT) (n : Nat) (hn : lv 2 n) : gMi l yJx4a65c_size_8abf5 cJx4a65c_size_8abf5 1 (some .int) (gRm 0 0 0 0) G [.ref (ad 2 n)] lv ad (gF G C ad) (gE (C 2 n 1) lv ad (gF G C ad)) := by
  refine r_met (own := RJx4a65c) (by decide) rfl (Nat.le_of_ble_eq_true rfl) ?_
  intro p e s m below meth c ls X hw hr hlk _ hl
  have hx := X.1.1; have hb := X.1.2.1; have hown := X.1.2.2.2.1
  have hl : lv_has ls 1 [(0, .ref (ad 2 n))] := hl
  refine lv_aload_n hx hb dJx4a65c_size_8abf5_0 rfl (lv_at hl 0 rfl) ?_
  refine r_get X hw 2 n 2 hn rfl rfl k_J (by decide) fl_J_48 dJx4a65c_size_8abf5_1 ?_
  exact r_iret X hw hr rfl hlk (Nat.le_refl _) (Nat.le_refl _) ⟨rfl, rfl⟩ dJx4a65c_size_8abf5_4
set_option maxHeartbeats 4000000 in
theorem c_chk3 (l : Launch) (i n : Int32) (h1 : ¬ i < 0) (h2 : i < n) : gMp l yJ3_checkIndex_8e157 cJ3_checkIndex_8e157 3 (some .int) (gRm 0 0 0 0) [.int i, .int n, .null] (fun _ => True) (some (.int i)) := by
  refine r_metp (own := RJ3) (by decide) rfl (Nat.le_of_ble_eq_true rfl) ?_
  intro p e s m below meth c ls X0 _ hr hlk hl
  obtain ⟨hx, hb, hml, hown, hts⟩ := X0
  have hl : lv_has ls 3 [(0, .int i), (1, .int n), (2, .null)] := hl
  refine lv_iload_n hx hb dJ3_checkIndex_8e157_0 rfl (lv_at hl 0 rfl) ?_
  refine lv_if_lt (tgt := 9) hx hb dJ3_checkIndex_8e157_1 (by decide) (fun q => absurd q h1) (fun _ => ?_)
  refine lv_iload_n hx hb dJ3_checkIndex_8e157_4 rfl (lv_at hl 0 rfl) ?_
  refine lv_iload_n hx hb dJ3_checkIndex_8e157_5 rfl (lv_at hl 1 rfl) ?_
  refine lv_icmp_lt (tgt := 16) hx hb dJ3_checkIndex_8e157_6 (by decide) (fun _ => ?_) (fun q => absurd h2 q)
  refine lv_iload_n hx hb dJ3_checkIndex_8e157_16 rfl (lv_at hl 0 rfl) ?_
  exact r_piret hx hb hr rfl hlk rfl dJ3_checkIndex_8e157_17
set_option maxHeartbeats 4000000 in
theorem c_chk (l : Launch) (i n : Int32) (h1 : ¬ i < 0) (h2 : i < n) : gMp l yJ15_checkIndex_7cf53 cJ15_checkIndex_7cf53 2 (some .int) (gRm 1 22 0 0) [.int i, .int n] (fun _ => True) (some (.int i)) := by
  refine r_metp (own := RJ15) (by decide) rfl (Nat.le_of_ble_eq_true rfl) ?_
  intro p e s m below meth c ls X0 _ hr hlk hl
  obtain ⟨hx, hb, hml, hown, hts⟩ := id X0
  have hl : lv_has ls 2 [(0, .int i), (1, .int n)] := hl
  refine lv_iload_n hx hb dJ15_checkIndex_7cf53_0 rfl (lv_at hl 0 rfl) ?_
  refine lv_iload_n hx hb dJ15_checkIndex_7cf53_1 rfl (lv_at hl 1 rfl) ?_
  refine lv_null hx hb dJ15_checkIndex_7cf53_2 ?_
  refine r_rp (r_runS1 X0 (c_chk3 l i n h1 h2) cy_J3_checkIndex_8e157 ml_J15_105 ⟨Nat.le_of_ble_eq_true rfl, Nat.le_of_ble_eq_true rfl⟩ gPc_blind (fun _ _ _ => ⟨rfl, trivial⟩) rfl hl.1 rfl (Nat.le_of_ble_eq_true rfl) dJ15_checkIndex_7cf53_3 ⟨Nat.le_of_ble_eq_true rfl, Nat.le_of_ble_eq_true rfl⟩) ?_
  exact r_piret hx hb hr rfl hlk rfl dJ15_checkIndex_7cf53_6
theorem gL_ref {lv : gLv} {C : gCT} {n c cap : Nat} (h : gL lv C n c cap) {i : Int32} (hi : vp_in i c) : ¬ C 2 n 2 = 0 ∧ cap ≠ 0 := by
  obtain ⟨h1, h2, h3, h4, h5, h6⟩ := h
  obtain ⟨j, hj, -⟩ := vp_in_of hi (by omega)
  refine ⟨?_, by omega⟩
  rw [h3]
  exact nI_ne0 (by omega) (by omega)
set_option maxHeartbeats 4000000 in
theorem c_elem (l : Launch) (G : gG) (lv : gLv) (ad : gAd) (C : gCT) (n c cap : Nat) (i : Int32) (hL : gL lv C n c cap) (hi : vp_in i c) : gMr l yJx4a65c_elementData_915e3 cJx4a65c_elementData_915e3 2 (some (.object "java/lang/Object")) (gRm 0 0 0 0) G [.ref (ad 2 n), .int i] lv ad (gF G C ad) (gEr (gElem ad n i.toNatClampNeg) lv ad (gF G C ad)) := by
  obtain ⟨h20, hcap⟩ := gL_ref hL hi
  obtain ⟨l1, l2, l3, l4, l5, l6⟩ := hL
  obtain ⟨l7, l8, l9⟩ := l6 hcap
  obtain ⟨j, hj, rfl⟩ := vp_in_of hi (by omega)
  refine r_met (own := RJx4a65c) (by decide) rfl (Nat.le_of_ble_eq_true rfl) ?_
  intro p e s m below meth c' ls X hw hr hlk _ hl
  have hx := X.1.1; have hb := X.1.2.1; have hown := X.1.2.2.2.1
  have hl : lv_has ls 2 [(0, .ref (ad 2 n)), (1, .int (nI j))] := hl
  refine lv_aload_n hx hb dJx4a65c_elementData_915e3_0 rfl (lv_at hl 0 rfl) ?_
  refine r_get X hw 2 n 1 l1 (v := .ref (ad 3 n)) rfl (by rw [if_neg h20]; rfl) k_J (by decide) fl_J_9 dJx4a65c_elementData_915e3_1 ?_
  refine lv_iload_n hx hb dJx4a65c_elementData_915e3_4 rfl (lv_at hl 1 rfl) ?_
  refine r_qald X hw 3 n l7 rfl (by rw [l8, nI_clamp (by omega)]; exact vp_in_nI (by omega) (by omega)) (v := .ref (gElem ad n (nI j).toNatClampNeg)) (by rw [l9, nI_clamp (by omega), nI_clamp (by omega), if_pos hj]; rfl) dJx4a65c_elementData_915e3_5 ?_
  exact r_aret X hw hr (Or.inl ⟨_, rfl⟩) hlk (Nat.le_refl _) (Nat.le_refl _) ⟨rfl, rfl⟩ dJx4a65c_elementData_915e3_6
set_option maxHeartbeats 4000000 in
/-- list.get(i) -/
theorem c_lget (l : Launch) (G : gG) (lv : gLv) (ad : gAd) (C : gCT) (n c cap : Nat) (i : Int32) (hL : gL lv C n c cap) (hi : vp_in i c) : gMr l yJx4a65c_get_915e3 cJx4a65c_get_915e3 2 (some (.object "java/lang/Object")) (gRm 2 43 0 0) G [.ref (ad 2 n), .int i] lv ad (gF G C ad) (gEr (gElem ad n i.toNatClampNeg) lv ad (gF G C ad)) := by
  have hc : c < 2 ^ 31 := by have := hL.2.2.2.1; have := hL.2.2.2.2.1; omega
  refine r_met (own := RJx4a65c) (by decide) rfl (Nat.le_of_ble_eq_true rfl) ?_
  intro p e s m below meth c' ls X hw hr hlk _ hl
  have hx := X.1.1; have hb := X.1.2.1; have hown := X.1.2.2.2.1
  have hl : lv_has ls 2 [(0, .ref (ad 2 n)), (1, .int i)] := hl
  refine lv_iload_n hx hb dJx4a65c_get_915e3_0 rfl (lv_at hl 1 rfl) ?_
  refine lv_aload_n hx hb dJx4a65c_get_915e3_1 rfl (lv_at hl 0 rfl) ?_
  refine r_get X hw 2 n 2 hL.1 rfl rfl k_J (by decide) fl_J_48 dJx4a65c_get_915e3_2 ?_
  refine r_rp (r_runS X (c_chk l i (C 2 n 1) (fun q => hi (Or.inl q)) (by obtain ⟨j, hj, rfl⟩ := vp_in_of hi hc; rw [hL.2.1]; exact nI_lt hj hc)) cy_J15_checkIndex_7cf53 ml_J_118 ⟨Nat.le_of_ble_eq_true rfl, Nat.le_of_ble_eq_true rfl⟩ gPc_blind (fun _ _ _ => ⟨rfl, trivial⟩) rfl hl.1 rfl (Nat.le_of_ble_eq_true rfl) dJx4a65c_get_915e3_5 ⟨Nat.le_of_ble_eq_true rfl, Nat.le_of_ble_eq_true rfl⟩) ?_
  refine lv_pop hx hb dJx4a65c_get_915e3_8 rfl ?_
  refine lv_aload_n hx hb dJx4a65c_get_915e3_9 rfl (lv_at hl 0 rfl) ?_
  refine lv_iload_n hx hb dJx4a65c_get_915e3_10 rfl (lv_at hl 1 rfl) ?_
  refine r_rrx X hw (r_runV X (c_elem l G lv ad C n c cap i hL hi _) cy_Jx4a65c_elementData_915e3 ml_J_123 ⟨Nat.le_of_ble_eq_true rfl, Nat.le_of_ble_eq_true rfl⟩ gP.blind (g_recv X hw 2 n hL.1 rfl rfl) (gP_call X hw _) rfl hl.1 rfl (Nat.le_of_ble_eq_true rfl) dJx4a65c_get_915e3_11 ⟨Nat.le_of_ble_eq_true rfl, Nat.le_of_ble_eq_true rfl⟩) (fun H locs hw => ?_)
  exact r_aret X hw hr (Or.inl ⟨_, rfl⟩) hlk (Nat.le_of_ble_eq_true rfl) (Nat.le_of_ble_eq_true rfl) ⟨rfl, rfl⟩ dJx4a65c_get_915e3_14
theorem gElem_ne {ad : gAd} {n j : Nat} (h : n ≠ 24) : gElem ad n j = ad 13 (1024 * n + j) := if_neg h
theorem c_lgetA (l : Launch) (G : gG) (lv : gLv) (ad : gAd) (C : gCT) (n c cap : Nat) (i : Int32) (hn : n ≠ 24) (hL : gL lv C n c cap) (hi : vp_in i c) : gMr l yJx4a65c_get_915e3 cJx4a65c_get_915e3 2 (some (.object "java/lang/Object")) (gRm 2 43 0 0) G [.ref (ad 2 n), .int i] lv ad (gF G C ad) (gEr (ad 13 (1024 * n + i.toNatClampNeg)) lv ad (gF G C ad)) := by
  have h := c_lget l G lv ad C n c cap i hL hi
  rwa [gElem_ne hn] at h
theorem c_lgetR (l : Launch) (G : gG) (lv : gLv) (ad : gAd) (C : gCT) (c cap : Nat) (i : Int32) (hL : gL lv C 24 c cap) (hi : vp_in i c) : gMr l yJx4a65c_get_915e3 cJx4a65c_get_915e3 2 (some (.object "java/lang/Object")) (gRm 2 43 0 0) G [.ref (ad 2 24), .int i] lv ad (gF G C ad) (gEr (ad 11 i.toNatClampNeg) lv ad (gF G C ad)) := c_lget l G lv ad C 24 c cap i hL hi
theorem vp_lt {i : Int32} {n : Nat} (h : vp_in i n) : i.toNatClampNeg < n := Nat.not_le.mp (fun q => h (Or.inr q))
theorem vp_in_lt {i x : Int32} {j c : Nat} (ei : i = nI j) (ex : x = nI c) (hj : j < 2 ^ 31) (hc : c < 2 ^ 31) (h : ¬ x ≤ i) : vp_in i c := by
  subst ei ex
  rcases Nat.lt_or_ge j c with q | q
  · exact vp_in_nI q hc
  · exact absurd (nI_le q hj) h
def gRun (lv : gLv) (C : gCT) (r cnt cap : Nat) : Prop := r ≠ 24 ∧ lv 11 r ∧ lv 12 r ∧ gL lv C r cnt cap ∧ ∀ j, j < cnt → lv 13 (1024 * r + j)
theorem gRun.cong {lv : gLv} {C D : gCT} {r cnt cap : Nat} (h : gRun lv C r cnt cap) (h2 : D 2 = C 2) (h3 : D 3 = C 3) : gRun lv D r cnt cap := by
  obtain ⟨a, b, c, d, e⟩ := h
  refine ⟨a, b, c, ?_, e⟩
  unfold gL at d ⊢
  rw [h2, h3]
  exact d

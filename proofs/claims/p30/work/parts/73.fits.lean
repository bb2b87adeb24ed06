/-! ===== fits ===== -/
section FT
variable {p : Program} {l : Launch} {e : Env} {s : State} {m : MethodId} {args : Array Value} {below : List Frame} {meth : Method} {c : Code} {Q : State → Prop} {G : gG} {A : Nat → Prop} {a0 : Nat} {bb : Nat → Nat} {n r : Nat} {fd : Int32} {C0 : gCT}
/-- the same, but for the spare machine -/
def kP (C D : gCT) : Prop := ∃ z : aM, D = aPut C 24 z
theorem kP.rf {C : gCT} : kP C C := ⟨aGet C 24, (aPut_aGet C 24).symm⟩
theorem kP.put {C D : gCT} (h : kP C D) (z : aM) : kP C (aPut D 24 z) := by
  obtain ⟨y, rfl⟩ := h
  exact ⟨z, aPut_aPut _ _ _ _⟩
theorem kP.rc {C D : gCT} (h : kP C D) : gRc D = gRc C := by
  obtain ⟨y, rfl⟩ := h
  exact (sp_x C y).rc
/-- where it ends, with 1 -/
def fX (p : Program) (l : Launch) (e : Env) (s : State) (m : MethodId) (args : Array Value) (below : List Frame) (meth : Method) (c : Code) (Q : State → Prop) (G : gG) (A : Nat → Prop) (a0 : Nat) (bb : Nat → Nat) (n : Nat) (fd : Int32) (C0 : gCT) : Prop := ∀ (D : gCT) (H : Heap) (locs : List Loc) (cells slots : Nat) (ls : Array Slot), kP C0 D → cells ≤ 1100 → slots ≤ 6600 → tW G A s.heap H locs D a0 bb → W p l e (gRm 10 227 1100 6600) s m args below meth c H locs cells slots Q (F0 m 279 ls [.int 1])
set_option maxHeartbeats 4000000 in
set_option maxRecDepth 100000 in
theorem fits_end (hstk : l.stackTraces = false) (X : gX p s m args c cL_fits RL 9 G A) (hex : fX p l e s m args below meth c Q G A a0 bb n fd C0) (hn : n ≤ 700) {D : gCT} {H : Heap} {locs : List Loc} {cells slots : Nat} {ls : Array Slot} (hJ : kJ n fd D) (hP : kP C0 D) (hr : r < gRc D) (hw : tW G A s.heap H locs D a0 bb) (hc : cells ≤ 1090) (hs : slots ≤ 6570) (hl : lv_has ls 9 [(6, .int (nI (gCnt D r))), (5, .int 1), (1, .int (nI r)), (0, .ref a0)]) : W p l e (gRm 10 227 1100 6600) s m args below meth c H locs cells slots Q (F0 m 245 ls []) := by
  have hx := X.1.1; have hb := X.1.2.1; have hown := X.1.2.2.2.1; have hts := X.1.2.2.2.2; have hI := hJ.1
  refine lv_iload hx hb dL_fits_245 (lv_at hl 1 rfl) ?_
  refine lv_if_eq (tgt := 278) hx hb dL_fits_247 (by decide) (fun z => False.elim (absurd z (by decide))) (fun _ => ?_)
  refine lv_aload_n hx hb dL_fits_250 rfl (lv_at hl 3 rfl) ?_
  refine lv_iload_n hx hb dL_fits_251 rfl (lv_at hl 2 rfl) ?_
  refine lv_iload hx hb dL_fits_252 (lv_at hl 0 rfl) ?_
  refine t_answerAt hstk X hI hw (rv1 (rd_end hI hr)) (rd1 (rd_end hI hr)) ml_RL_121 ⟨(Nat.le_of_ble_eq_true rfl), (Nat.le_of_ble_eq_true rfl)⟩ hl.1 (Nat.le_of_ble_eq_true rfl) dL_fits_254 (by show _ ≤ 1100; omega) (by show _ ≤ 6600; omega) (fun H locs cells slots ec es hw => ?_)
  refine lv_bipush (v := (-101)) hx hb dL_fits_257 (by decide) ?_
  refine lv_icmp_ne (tgt := 278) hx hb dL_fits_259 (by decide) (fun z => False.elim (z rfl)) (fun _ => ?_)
  refine lv_aload_n hx hb dL_fits_262 rfl (lv_at hl 3 rfl) ?_
  refine lv_iload_n hx hb dL_fits_263 rfl (lv_at hl 2 rfl) ?_
  refine lv_bipush (v := 8) hx hb dL_fits_264 (by decide) ?_
  refine t_slot hstk X hI hw (rs1 (rd_slot8 hI hr)) (rd1 (rd_slot8 hI hr)) ml_RL_114 ⟨(Nat.le_of_ble_eq_true rfl), (Nat.le_of_ble_eq_true rfl)⟩ hl.1 (Nat.le_of_ble_eq_true rfl) dL_fits_266 (by show _ ≤ 1100; omega) (by show _ ≤ 6600; omega) (fun H locs cells slots ec es hw => ?_)
  refine lv_ldc (v := -100001) hx hb hown (hts _ lc_RL_76) dL_fits_269 ?_
  refine lv_icmp_ne (tgt := 278) hx hb dL_fits_271 (by decide) (fun z => False.elim (z rfl)) (fun _ => ?_)
  refine lv_iconst (v := 1) hx hb dL_fits_274 (by decide) ?_
  refine lv_goto (tgt := 279) hx hb dL_fits_275 (by decide) ?_
  exact hex D _ _ _ _ _ hP (by omega) (by omega) hw
set_option maxHeartbeats 4000000 in
set_option maxRecDepth 100000 in
theorem fits_ans (hstk : l.stackTraces = false) (X : gX p s m args c cL_fits RL 9 G A) (hex : fX p l e s m args below meth c Q G A a0 bb n fd C0) (hn : n ≤ 700) {D : gCT} (hJ : kJ n fd D) (hP : kP C0 D) (hr : r < gRc D) : ∀ (j k : Nat) (H : Heap) (locs : List Loc) (cells slots : Nat) (ls : Array Slot), k + j = gCnt D r → tW G A s.heap H locs D a0 bb → cells ≤ 60 + 2 * k → slots ≤ 400 + 12 * k → lv_has ls 9 [(7, .int (nI k)), (6, .int (nI (gCnt D r))), (5, .int 1), (1, .int (nI r)), (0, .ref a0)] → W p l e (gRm 10 227 1100 6600) s m args below meth c H locs cells slots Q (F0 m 193 ls []) := by
  have hx := X.1.1; have hb := X.1.2.1; have hown := X.1.2.2.2.1; have hts := X.1.2.2.2.2; have hI := hJ.1
  have h512 := (hI.cnt (Or.inl hr)).2.2.2.2.1
  intro j
  induction j with
  | zero =>
    intro k H locs cells slots ls hk hw hc hs hl
    refine lv_iload hx hb dL_fits_193 (lv_at hl 0 rfl) ?_
    refine lv_iload hx hb dL_fits_195 (lv_at hl 1 rfl) ?_
    refine lv_icmp_ge (tgt := 245) hx hb dL_fits_197 (by decide) (fun _ => ?_) (fun z => False.elim (absurd ((nat_le rfl rfl (by omega) (by omega)).mpr (show gCnt D r ≤ k by omega)) z))
    have hl := lv_sub (l' := [(6, .int (nI (gCnt D r))), (5, .int 1), (1, .int (nI r)), (0, .ref a0)]) hl [1, 2, 3, 4] rfl
    exact fits_end hstk X hex hn hJ hP hr hw (by omega) (by omega) hl
  | succ j ih =>
    intro k H locs cells slots ls hk hw hc hs hl
    refine lv_iload hx hb dL_fits_193 (lv_at hl 0 rfl) ?_
    refine lv_iload hx hb dL_fits_195 (lv_at hl 1 rfl) ?_
    refine lv_icmp_ge (tgt := 245) hx hb dL_fits_197 (by decide) (fun z => False.elim (absurd ((nat_le rfl rfl (by omega) (by omega)).mp z) (by omega))) (fun _ => ?_)
    refine lv_iload hx hb dL_fits_200 (lv_at hl 2 rfl) ?_
    refine lv_if_eq (tgt := 245) hx hb dL_fits_202 (by decide) (fun z => False.elim (absurd z (by decide))) (fun _ => ?_)
    obtain ⟨q, w, v, hq, hw1, hv, hT⟩ := (hJ.2.2.2.1 r hr).1.2.2.2.1 k (by omega)
    have eA := rd_at hI hr (show k < gCnt D r by omega) (show n ≤ 2000 by omega) hq hw1 hv hT
    refine lv_aload_n hx hb dL_fits_205 rfl (lv_at hl 4 rfl) ?_
    refine lv_iload_n hx hb dL_fits_206 rfl (lv_at hl 3 rfl) ?_
    refine lv_iload hx hb dL_fits_207 (lv_at hl 0 rfl) ?_
    refine t_answerAt hstk X hI hw (rv0 eA) (rd0 eA) ml_RL_121 ⟨(Nat.le_of_ble_eq_true rfl), (Nat.le_of_ble_eq_true rfl)⟩ hl.1 (Nat.le_of_ble_eq_true rfl) dL_fits_209 (by show _ ≤ 1100; omega) (by show _ ≤ 6600; omega) (fun H locs cells slots ec es hw => ?_)
    refine lv_istore (lv' := [(8, .int (nI (1000 * w + 10 * q + v))), (7, .int (nI k)), (6, .int (nI (gCnt D r))), (5, .int 1), (1, .int (nI r)), (0, .ref a0)]) hx hb dL_fits_212 hl (by decide) rfl (fun ls hl => ?_)
    refine lv_iload hx hb dL_fits_214 (lv_at hl 0 rfl) ?_
    refine lv_if_lt (tgt := 236) hx hb dL_fits_216 (by decide) (fun z => False.elim (absurd z (nI_pos (by omega)))) (fun _ => ?_)
    refine lv_iload hx hb dL_fits_219 (lv_at hl 0 rfl) ?_
    refine lv_bipush (v := 10) hx hb dL_fits_221 (by decide) ?_
    refine lv_idiv hx hb dL_fits_223 (by decide) ?_
    rw [show ((nI (1000 * w + 10 * q + v)) / 10 : Int32) = nI ((1000 * w + 10 * q + v) / 10) from pk_div (by omega) (by decide) (by decide)]
    refine lv_bipush (v := 100) hx hb dL_fits_224 (by decide) ?_
    refine lv_irem hx hb dL_fits_226 (by decide) ?_
    rw [show ((nI ((1000 * w + 10 * q + v) / 10)) - (nI ((1000 * w + 10 * q + v) / 10)) / 100 * 100 : Int32) = nI ((1000 * w + 10 * q + v) / 10 % 100) from pk_rem (by omega) (by decide) (by decide)]
    refine lv_bipush (v := 16) hx hb dL_fits_227 (by decide) ?_
    refine lv_icmp_ge (tgt := 236) hx hb dL_fits_229 (by decide) (fun z => False.elim (absurd ((nat_le (show (16 : Int32) = nI 16 from rfl) rfl (by decide) (by omega)).mp z) (by omega))) (fun _ => ?_)
    refine lv_iconst (v := 1) hx hb dL_fits_232 (by decide) ?_
    refine lv_goto (tgt := 237) hx hb dL_fits_233 (by decide) ?_
    refine lv_istore (lv' := [(5, .int 1), (8, .int (nI (1000 * w + 10 * q + v))), (7, .int (nI k)), (6, .int (nI (gCnt D r))), (1, .int (nI r)), (0, .ref a0)]) hx hb dL_fits_237 hl (by decide) rfl (fun ls hl => ?_)
    have hl := lv_sub (l' := [(7, .int (nI k)), (6, .int (nI (gCnt D r))), (5, .int 1), (1, .int (nI r)), (0, .ref a0)]) hl [2, 3, 0, 4, 5] rfl
    refine lv_iinc (v := nI (k + 1)) (lv' := [(7, .int (nI (k + 1))), (6, .int (nI (gCnt D r))), (5, .int 1), (1, .int (nI r)), (0, .ref a0)]) hx hb dL_fits_239 hl (k := 0) rfl (nI_1 k) (by decide) rfl (fun ls hl => ?_)
    refine lv_goto (tgt := 193) hx hb dL_fits_242 (by decide) ?_
    exact ih (k + 1) _ _ _ _ _ (by omega) hw (by omega) (by omega) hl
set_option maxHeartbeats 4000000 in
set_option maxRecDepth 100000 in
theorem fits_slots (hstk : l.stackTraces = false) (X : gX p s m args c cL_fits RL 9 G A) (hex : fX p l e s m args below meth c Q G A a0 bb n fd C0) (hn : n ≤ 700) : ∀ (j k : Nat) (D : gCT) (H : Heap) (locs : List Loc) (cells slots : Nat) (ls : Array Slot), k + j = 8 → kJ n fd D → kP C0 D → r < gRc D → tW G A s.heap H locs D a0 bb → cells ≤ 20 + 4 * k → slots ≤ 120 + 24 * k → lv_has ls 9 [(6, .int (nI k)), (5, .int 1), (1, .int (nI r)), (0, .ref a0)] → W p l e (gRm 10 227 1100 6600) s m args below meth c H locs cells slots Q (F0 m 121 ls []) := by
  have hx := X.1.1; have hb := X.1.2.1
  intro j
  induction j with
  | zero =>
    intro k D H locs cells slots ls hk hJ hP hr hw hc hs hl
    have hI := hJ.1
    obtain rfl : k = 8 := by omega
    refine lv_iload hx hb dL_fits_121 (lv_at hl 0 rfl) ?_
    refine lv_bipush (v := 8) hx hb dL_fits_123 (by decide) ?_
    refine lv_icmp_ge (tgt := 183) hx hb dL_fits_125 (by decide) (fun _ => ?_) (fun z => False.elim (absurd (show (8 : Int32) ≤ nI 8 by decide) z))
    refine lv_aload_n hx hb dL_fits_183 rfl (lv_at hl 3 rfl) ?_
    refine lv_iload_n hx hb dL_fits_184 rfl (lv_at hl 2 rfl) ?_
    refine t_answers hstk X hI hw (rv0 (rd_answers hI hr)) (rd0 (rd_answers hI hr)) ml_RL_119 ⟨(Nat.le_of_ble_eq_true rfl), (Nat.le_of_ble_eq_true rfl)⟩ hl.1 (Nat.le_of_ble_eq_true rfl) dL_fits_185 (by show _ ≤ 1100; omega) (by show _ ≤ 6600; omega) (fun H locs cells slots ec es hw => ?_)
    refine lv_istore (lv' := [(6, .int (nI (gCnt D r))), (5, .int 1), (1, .int (nI r)), (0, .ref a0)]) hx hb dL_fits_188 hl (by decide) rfl (fun ls hl => ?_)
    refine lv_iconst (v := 0) hx hb dL_fits_190 (by decide) ?_
    refine lv_istore (lv' := [(7, .int 0), (6, .int (nI (gCnt D r))), (5, .int 1), (1, .int (nI r)), (0, .ref a0)]) hx hb dL_fits_191 hl (by decide) rfl (fun ls hl => ?_)
    exact fits_ans hstk X hex hn hJ hP hr (gCnt D r) 0 _ _ _ _ _ (Nat.zero_add _) hw (by omega) (by omega) (lv_sub hl [0, 1, 2, 3, 4] rfl)
  | succ j ih =>
    intro k D H locs cells slots ls hk hJ hP hr hw hc hs hl
    have hI := hJ.1
    obtain ⟨h9a, h9b⟩ := (hJ.2.2.2.1 r hr).2.2.1.2.2.1 k (by omega)
    have h9a : -9999 ≤ D 9 r k := h9a
    have h9b : D 9 r k ≤ 9999 := h9b
    obtain ⟨z, eS⟩ := rd_slotAgain hJ hr (show k < 8 by omega)
    refine lv_iload hx hb dL_fits_121 (lv_at hl 0 rfl) ?_
    refine lv_bipush (v := 8) hx hb dL_fits_123 (by decide) ?_
    refine lv_icmp_ge (tgt := 183) hx hb dL_fits_125 (by decide) (fun z => False.elim (absurd ((nat_le (show (8 : Int32) = nI 8 from rfl) rfl (by decide) (by omega)).mp z) (by omega))) (fun _ => ?_)
    refine lv_iload hx hb dL_fits_128 (lv_at hl 1 rfl) ?_
    refine lv_if_eq (tgt := 183) hx hb dL_fits_130 (by decide) (fun z => False.elim (absurd z (by decide))) (fun _ => ?_)
    refine lv_aload_n hx hb dL_fits_133 rfl (lv_at hl 3 rfl) ?_
    refine lv_iload_n hx hb dL_fits_134 rfl (lv_at hl 2 rfl) ?_
    refine lv_iload hx hb dL_fits_135 (lv_at hl 0 rfl) ?_
    refine t_slot hstk X hI hw (rs0 (rd_slot hI hr (show k < 8 by omega))) (rd0 (rd_slot hI hr (show k < 8 by omega))) ml_RL_114 ⟨(Nat.le_of_ble_eq_true rfl), (Nat.le_of_ble_eq_true rfl)⟩ hl.1 (Nat.le_of_ble_eq_true rfl) dL_fits_137 (by show _ ≤ 1100; omega) (by show _ ≤ 6600; omega) (fun H locs cells slots ec es hw => ?_)
    refine lv_istore (lv' := [(7, .int (D 9 r k)), (6, .int (nI k)), (5, .int 1), (1, .int (nI r)), (0, .ref a0)]) hx hb dL_fits_140 hl (by decide) rfl (fun ls hl => ?_)
    refine lv_iload hx hb dL_fits_142 (lv_at hl 0 rfl) ?_
    refine lv_aload_n hx hb dL_fits_144 rfl (lv_at hl 4 rfl) ?_
    refine lv_iload_n hx hb dL_fits_145 rfl (lv_at hl 3 rfl) ?_
    refine lv_iload hx hb dL_fits_146 (lv_at hl 1 rfl) ?_
    refine t_slotAgain hstk X hI hw (rs0 eS) (rd0 eS) ml_RL_117 ⟨(Nat.le_of_ble_eq_true rfl), (Nat.le_of_ble_eq_true rfl)⟩ hl.1 (Nat.le_of_ble_eq_true rfl) dL_fits_148 (by show _ ≤ 1100; omega) (by show _ ≤ 6600; omega) (fun H locs cells slots ec es hw => ?_)
    refine lv_icmp_ne (tgt := 174) hx hb dL_fits_151 (by decide) (fun z => False.elim (z rfl)) (fun _ => ?_)
    refine lv_iload hx hb dL_fits_154 (lv_at hl 0 rfl) ?_
    refine lv_sipush (v := (-9999)) hx hb dL_fits_156 (by decide) ?_
    refine lv_icmp_lt (tgt := 174) hx hb dL_fits_159 (by decide) (fun z => False.elim (absurd z (Int32.not_lt.mpr h9a))) (fun _ => ?_)
    refine lv_iload hx hb dL_fits_162 (lv_at hl 0 rfl) ?_
    refine lv_sipush (v := 9999) hx hb dL_fits_164 (by decide) ?_
    refine lv_icmp_gt (tgt := 174) hx hb dL_fits_167 (by decide) (fun z => False.elim (absurd z (Int32.not_lt.mpr h9b))) (fun _ => ?_)
    refine lv_iconst (v := 1) hx hb dL_fits_170 (by decide) ?_
    refine lv_goto (tgt := 175) hx hb dL_fits_171 (by decide) ?_
    refine lv_istore (lv' := [(5, .int 1), (7, .int (D 9 r k)), (6, .int (nI k)), (1, .int (nI r)), (0, .ref a0)]) hx hb dL_fits_175 hl (by decide) rfl (fun ls hl => ?_)
    have hl := lv_sub (l' := [(6, .int (nI k)), (5, .int 1), (1, .int (nI r)), (0, .ref a0)]) hl [2, 0, 3, 4] rfl
    refine lv_iinc (v := nI (k + 1)) (lv' := [(6, .int (nI (k + 1))), (5, .int 1), (1, .int (nI r)), (0, .ref a0)]) hx hb dL_fits_177 hl (k := 0) rfl (nI_1 k) (by decide) rfl (fun ls hl => ?_)
    refine lv_goto (tgt := 121) hx hb dL_fits_180 (by decide) ?_
    exact ih (k + 1) _ _ _ _ _ _ (by omega) (sp_J z hJ) (hP.put z) (by rw [(sp_x D z).rc]; exact hr) hw (by omega) (by omega) hl
set_option maxHeartbeats 4000000 in
set_option maxRecDepth 100000 in
theorem fits_mida (hstk : l.stackTraces = false) (X : gX p s m args c cL_fits RL 9 G A) (hex : fX p l e s m args below meth c Q G A a0 bb n fd C0) (hn : n ≤ 700) {D : gCT} {H : Heap} {locs : List Loc} {cells slots : Nat} {ls : Array Slot} (hJ : kJ n fd D) (hP : kP C0 D) (hr : r < gRc D) (hw : tW G A s.heap H locs D a0 bb) (hs4 : D 11 r 4 = 0 ∨ D 11 r 4 = 1 ∨ D 11 r 4 = 6) {q : Nat} (hq : q < 16) (hc : cells ≤ 4) (hs : slots ≤ 24) (hl : lv_has ls 9 [(4, .int 1), (3, .int (nI q)), (2, .int (D 11 r 4)), (0, .ref a0), (1, .int (nI r))]) : W p l e (gRm 10 227 1100 6600) s m args below meth c H locs cells slots Q (F0 m 34 ls []) := by
  have hx := X.1.1; have hb := X.1.2.1; have hown := X.1.2.2.2.1; have hts := X.1.2.2.2.2; have hI := hJ.1
  obtain ⟨⟨f, v, k1, k2, k3, k4, k5⟩, -⟩ := (hJ.2.2.2.1 r hr).1
  obtain ⟨⟨hh, hh8, eh⟩, -, fu, hfu, ef⟩ := (hJ.2.2.2.1 r hr).2.2.1.1
  have eh : D 7 r 0 = nI hh := eh
  have ef : D 7 r 2 = nI fu := ef
  have hv6 := (hI.vn k1).1
  obtain ⟨z, eS⟩ := rd_again hJ hr
  refine lv_iload_n hx hb dL_fits_34 rfl (lv_at hl 2 rfl) ?_
  refine lv_if_lt (tgt := 115) hx hb dL_fits_35 (by decide) (fun z => False.elim (by rcases hs4 with h | h | h <;> rw [h] at z <;> exact absurd z (by decide))) (fun _ => ?_)
  refine lv_iload_n hx hb dL_fits_38 rfl (lv_at hl 2 rfl) ?_
  refine lv_bipush (v := 6) hx hb dL_fits_39 (by decide) ?_
  refine lv_icmp_gt (tgt := 115) hx hb dL_fits_41 (by decide) (fun z => False.elim (by rcases hs4 with h | h | h <;> rw [h] at z <;> exact absurd z (by decide))) (fun _ => ?_)
  refine lv_iload hx hb dL_fits_44 (lv_at hl 0 rfl) ?_
  refine lv_iload_n hx hb dL_fits_46 rfl (lv_at hl 1 rfl) ?_
  refine lv_if_lt (tgt := 54) hx hb dL_fits_47 (by decide) (fun z => False.elim (absurd z (nI_pos (by omega)))) (fun _ => ?_)
  refine lv_iconst (v := 1) hx hb dL_fits_50 (by decide) ?_
  refine lv_goto (tgt := 55) hx hb dL_fits_51 (by decide) ?_
  refine lv_icmp_ne (tgt := 115) hx hb dL_fits_55 (by decide) (fun z => False.elim (z rfl)) (fun _ => ?_)
  refine lv_iload_n hx hb dL_fits_58 rfl (lv_at hl 1 rfl) ?_
  refine lv_bipush (v := 16) hx hb dL_fits_59 (by decide) ?_
  refine lv_icmp_ge (tgt := 115) hx hb dL_fits_61 (by decide) (fun z => False.elim (absurd ((nat_le (show (16 : Int32) = nI 16 from rfl) rfl (by decide) (by omega)).mp z) (by omega))) (fun _ => ?_)
  refine lv_aload_n hx hb dL_fits_64 rfl (lv_at hl 3 rfl) ?_
  refine lv_iload_n hx hb dL_fits_65 rfl (lv_at hl 4 rfl) ?_
  refine t_fuel hstk X hI hw (rv0 (rd_fuel hI hr)) (rd0 (rd_fuel hI hr)) ml_RL_105 ⟨(Nat.le_of_ble_eq_true rfl), (Nat.le_of_ble_eq_true rfl)⟩ hl.1 (Nat.le_of_ble_eq_true rfl) dL_fits_66 (by show _ ≤ 1100; omega) (by show _ ≤ 6600; omega) (fun H locs cells slots ec es hw => ?_)
  refine lv_if_lt (tgt := 115) hx hb dL_fits_69 (by decide) (fun z => False.elim (absurd z (by rw [ef]; exact nI_pos (by omega)))) (fun _ => ?_)
  refine lv_aload_n hx hb dL_fits_72 rfl (lv_at hl 3 rfl) ?_
  refine lv_iload_n hx hb dL_fits_73 rfl (lv_at hl 4 rfl) ?_
  refine t_fuel hstk X hI hw (rv0 (rd_fuel hI hr)) (rd0 (rd_fuel hI hr)) ml_RL_105 ⟨(Nat.le_of_ble_eq_true rfl), (Nat.le_of_ble_eq_true rfl)⟩ hl.1 (Nat.le_of_ble_eq_true rfl) dL_fits_74 (by show _ ≤ 1100; omega) (by show _ ≤ 6600; omega) (fun H locs cells slots ec es hw => ?_)
  refine lv_aload_n hx hb dL_fits_77 rfl (lv_at hl 3 rfl) ?_
  refine lv_iload_n hx hb dL_fits_78 rfl (lv_at hl 4 rfl) ?_
  refine t_fuelAgain hstk X hI hw (rv0 eS) (rd0 eS) ml_RL_107 ⟨(Nat.le_of_ble_eq_true rfl), (Nat.le_of_ble_eq_true rfl)⟩ hl.1 (Nat.le_of_ble_eq_true rfl) dL_fits_79 (by show _ ≤ 1100; omega) (by show _ ≤ 6600; omega) (fun H locs cells slots ec es hw => ?_)
  refine lv_icmp_ne (tgt := 115) hx hb dL_fits_82 (by decide) (fun z => False.elim (z rfl)) (fun _ => ?_)
  have hJ2 := sp_J z hJ
  have hr2 : r < gRc (aPut D 24 z) := by rw [(sp_x D z).rc]; exact hr
  have hr24 : r ≠ 24 := by have := hI.1; omega
  have e7 : aPut D 24 z 7 r = D 7 r := aPut_n D 24 z hr24 7
  have e11 : aPut D 24 z 11 r 2 = D 11 r 2 := by rw [aPut_k D 24 z (by decide)]
  have hI := hJ2.1
  refine lv_aload_n hx hb dL_fits_85 rfl (lv_at hl 3 rfl) ?_
  refine lv_iload_n hx hb dL_fits_86 rfl (lv_at hl 4 rfl) ?_
  refine t_depth hstk X hI hw (rv0 ((rd_depth hI hr2).trans (by rw [e7, eh]))) (rd0 (rd_depth hI hr2)) ml_RL_110 ⟨(Nat.le_of_ble_eq_true rfl), (Nat.le_of_ble_eq_true rfl)⟩ hl.1 (Nat.le_of_ble_eq_true rfl) dL_fits_87 (by show _ ≤ 1100; omega) (by show _ ≤ 6600; omega) (fun H locs cells slots ec es hw => ?_)
  refine lv_if_lt (tgt := 115) hx hb dL_fits_90 (by decide) (fun z => False.elim (absurd z (nI_pos (by omega)))) (fun _ => ?_)
  refine lv_aload_n hx hb dL_fits_93 rfl (lv_at hl 3 rfl) ?_
  refine lv_iload_n hx hb dL_fits_94 rfl (lv_at hl 4 rfl) ?_
  refine t_depth hstk X hI hw (rv0 ((rd_depth hI hr2).trans (by rw [e7, eh]))) (rd0 (rd_depth hI hr2)) ml_RL_110 ⟨(Nat.le_of_ble_eq_true rfl), (Nat.le_of_ble_eq_true rfl)⟩ hl.1 (Nat.le_of_ble_eq_true rfl) dL_fits_95 (by show _ ≤ 1100; omega) (by show _ ≤ 6600; omega) (fun H locs cells slots ec es hw => ?_)
  refine lv_bipush (v := 8) hx hb dL_fits_98 (by decide) ?_
  refine lv_icmp_gt (tgt := 115) hx hb dL_fits_100 (by decide) (fun z => False.elim (absurd ((nat_lt (show (8 : Int32) = nI 8 from rfl) rfl (by decide) (by omega)).mp z) (by omega))) (fun _ => ?_)
  refine lv_aload_n hx hb dL_fits_103 rfl (lv_at hl 3 rfl) ?_
  refine lv_iload_n hx hb dL_fits_104 rfl (lv_at hl 4 rfl) ?_
  refine t_version hstk X hI hw (rv0 ((rd_version hI hr2).trans (by rw [e11, k4]))) (rd0 (rd_version hI hr2)) ml_RL_112 ⟨(Nat.le_of_ble_eq_true rfl), (Nat.le_of_ble_eq_true rfl)⟩ hl.1 (Nat.le_of_ble_eq_true rfl) dL_fits_105 (by show _ ≤ 1100; omega) (by show _ ≤ 6600; omega) (fun H locs cells slots ec es hw => ?_)
  refine lv_if_lt (tgt := 115) hx hb dL_fits_108 (by decide) (fun z => False.elim (absurd z (nI_pos (by omega)))) (fun _ => ?_)
  refine lv_iconst (v := 1) hx hb dL_fits_111 (by decide) ?_
  refine lv_goto (tgt := 116) hx hb dL_fits_112 (by decide) ?_
  refine lv_istore (lv' := [(5, .int 1), (4, .int 1), (3, .int (nI q)), (2, .int (D 11 r 4)), (0, .ref a0), (1, .int (nI r))]) hx hb dL_fits_116 hl (by decide) rfl (fun ls hl => ?_)
  refine lv_iconst (v := 0) hx hb dL_fits_118 (by decide) ?_
  refine lv_istore (lv' := [(6, .int 0), (5, .int 1), (4, .int 1), (3, .int (nI q)), (2, .int (D 11 r 4)), (0, .ref a0), (1, .int (nI r))]) hx hb dL_fits_119 hl (by decide) rfl (fun ls hl => ?_)
  exact fits_slots hstk X hex hn 8 0 _ _ _ _ _ _ rfl hJ2 (hP.put z) hr2 hw (by omega) (by omega) (lv_sub hl [0, 1, 6, 5] rfl)
set_option maxHeartbeats 4000000 in
set_option maxRecDepth 100000 in
theorem fits_midb (hstk : l.stackTraces = false) (X : gX p s m args c cL_fits RL 9 G A) (hex : fX p l e s m args below meth c Q G A a0 bb n fd C0) (hn : n ≤ 700) {D : gCT} {H : Heap} {locs : List Loc} {cells slots : Nat} {ls : Array Slot} (hJ : kJ n fd D) (hP : kP C0 D) (hr : r < gRc D) (hw : tW G A s.heap H locs D a0 bb) (hs4 : D 11 r 4 = 2 ∨ D 11 r 4 = 3 ∨ D 11 r 4 = 4 ∨ D 11 r 4 = 5) (hc : cells ≤ 4) (hs : slots ≤ 24) (hl : lv_has ls 9 [(4, .int 0), (3, .int (-1)), (2, .int (D 11 r 4)), (0, .ref a0), (1, .int (nI r))]) : W p l e (gRm 10 227 1100 6600) s m args below meth c H locs cells slots Q (F0 m 34 ls []) := by
  have hx := X.1.1; have hb := X.1.2.1; have hown := X.1.2.2.2.1; have hts := X.1.2.2.2.2; have hI := hJ.1
  obtain ⟨⟨f, v, k1, k2, k3, k4, k5⟩, -⟩ := (hJ.2.2.2.1 r hr).1
  obtain ⟨⟨hh, hh8, eh⟩, -, fu, hfu, ef⟩ := (hJ.2.2.2.1 r hr).2.2.1.1
  have eh : D 7 r 0 = nI hh := eh
  have ef : D 7 r 2 = nI fu := ef
  have hv6 := (hI.vn k1).1
  obtain ⟨z, eS⟩ := rd_again hJ hr
  refine lv_iload_n hx hb dL_fits_34 rfl (lv_at hl 2 rfl) ?_
  refine lv_if_lt (tgt := 115) hx hb dL_fits_35 (by decide) (fun z => False.elim (by rcases hs4 with h | h | h | h <;> rw [h] at z <;> exact absurd z (by decide))) (fun _ => ?_)
  refine lv_iload_n hx hb dL_fits_38 rfl (lv_at hl 2 rfl) ?_
  refine lv_bipush (v := 6) hx hb dL_fits_39 (by decide) ?_
  refine lv_icmp_gt (tgt := 115) hx hb dL_fits_41 (by decide) (fun z => False.elim (by rcases hs4 with h | h | h | h <;> rw [h] at z <;> exact absurd z (by decide))) (fun _ => ?_)
  refine lv_iload hx hb dL_fits_44 (lv_at hl 0 rfl) ?_
  refine lv_iload_n hx hb dL_fits_46 rfl (lv_at hl 1 rfl) ?_
  refine lv_if_lt (tgt := 54) hx hb dL_fits_47 (by decide) (fun _ => ?_) (fun z => False.elim (absurd (show (-1 : Int32) < 0 by decide) z))
  refine lv_iconst (v := 0) hx hb dL_fits_54 (by decide) ?_
  refine lv_icmp_ne (tgt := 115) hx hb dL_fits_55 (by decide) (fun z => False.elim (z rfl)) (fun _ => ?_)
  refine lv_iload_n hx hb dL_fits_58 rfl (lv_at hl 1 rfl) ?_
  refine lv_bipush (v := 16) hx hb dL_fits_59 (by decide) ?_
  refine lv_icmp_ge (tgt := 115) hx hb dL_fits_61 (by decide) (fun z => False.elim (absurd z (by decide))) (fun _ => ?_)
  refine lv_aload_n hx hb dL_fits_64 rfl (lv_at hl 3 rfl) ?_
  refine lv_iload_n hx hb dL_fits_65 rfl (lv_at hl 4 rfl) ?_
  refine t_fuel hstk X hI hw (rv0 (rd_fuel hI hr)) (rd0 (rd_fuel hI hr)) ml_RL_105 ⟨(Nat.le_of_ble_eq_true rfl), (Nat.le_of_ble_eq_true rfl)⟩ hl.1 (Nat.le_of_ble_eq_true rfl) dL_fits_66 (by show _ ≤ 1100; omega) (by show _ ≤ 6600; omega) (fun H locs cells slots ec es hw => ?_)
  refine lv_if_lt (tgt := 115) hx hb dL_fits_69 (by decide) (fun z => False.elim (absurd z (by rw [ef]; exact nI_pos (by omega)))) (fun _ => ?_)
  refine lv_aload_n hx hb dL_fits_72 rfl (lv_at hl 3 rfl) ?_
  refine lv_iload_n hx hb dL_fits_73 rfl (lv_at hl 4 rfl) ?_
  refine t_fuel hstk X hI hw (rv0 (rd_fuel hI hr)) (rd0 (rd_fuel hI hr)) ml_RL_105 ⟨(Nat.le_of_ble_eq_true rfl), (Nat.le_of_ble_eq_true rfl)⟩ hl.1 (Nat.le_of_ble_eq_true rfl) dL_fits_74 (by show _ ≤ 1100; omega) (by show _ ≤ 6600; omega) (fun H locs cells slots ec es hw => ?_)
  refine lv_aload_n hx hb dL_fits_77 rfl (lv_at hl 3 rfl) ?_
  refine lv_iload_n hx hb dL_fits_78 rfl (lv_at hl 4 rfl) ?_
  refine t_fuelAgain hstk X hI hw (rv0 eS) (rd0 eS) ml_RL_107 ⟨(Nat.le_of_ble_eq_true rfl), (Nat.le_of_ble_eq_true rfl)⟩ hl.1 (Nat.le_of_ble_eq_true rfl) dL_fits_79 (by show _ ≤ 1100; omega) (by show _ ≤ 6600; omega) (fun H locs cells slots ec es hw => ?_)
  refine lv_icmp_ne (tgt := 115) hx hb dL_fits_82 (by decide) (fun z => False.elim (z rfl)) (fun _ => ?_)
  have hJ2 := sp_J z hJ
  have hr2 : r < gRc (aPut D 24 z) := by rw [(sp_x D z).rc]; exact hr
  have hr24 : r ≠ 24 := by have := hI.1; omega
  have e7 : aPut D 24 z 7 r = D 7 r := aPut_n D 24 z hr24 7
  have e11 : aPut D 24 z 11 r 2 = D 11 r 2 := by rw [aPut_k D 24 z (by decide)]
  have hI := hJ2.1
  refine lv_aload_n hx hb dL_fits_85 rfl (lv_at hl 3 rfl) ?_
  refine lv_iload_n hx hb dL_fits_86 rfl (lv_at hl 4 rfl) ?_
  refine t_depth hstk X hI hw (rv0 ((rd_depth hI hr2).trans (by rw [e7, eh]))) (rd0 (rd_depth hI hr2)) ml_RL_110 ⟨(Nat.le_of_ble_eq_true rfl), (Nat.le_of_ble_eq_true rfl)⟩ hl.1 (Nat.le_of_ble_eq_true rfl) dL_fits_87 (by show _ ≤ 1100; omega) (by show _ ≤ 6600; omega) (fun H locs cells slots ec es hw => ?_)
  refine lv_if_lt (tgt := 115) hx hb dL_fits_90 (by decide) (fun z => False.elim (absurd z (nI_pos (by omega)))) (fun _ => ?_)
  refine lv_aload_n hx hb dL_fits_93 rfl (lv_at hl 3 rfl) ?_
  refine lv_iload_n hx hb dL_fits_94 rfl (lv_at hl 4 rfl) ?_
  refine t_depth hstk X hI hw (rv0 ((rd_depth hI hr2).trans (by rw [e7, eh]))) (rd0 (rd_depth hI hr2)) ml_RL_110 ⟨(Nat.le_of_ble_eq_true rfl), (Nat.le_of_ble_eq_true rfl)⟩ hl.1 (Nat.le_of_ble_eq_true rfl) dL_fits_95 (by show _ ≤ 1100; omega) (by show _ ≤ 6600; omega) (fun H locs cells slots ec es hw => ?_)
  refine lv_bipush (v := 8) hx hb dL_fits_98 (by decide) ?_
  refine lv_icmp_gt (tgt := 115) hx hb dL_fits_100 (by decide) (fun z => False.elim (absurd ((nat_lt (show (8 : Int32) = nI 8 from rfl) rfl (by decide) (by omega)).mp z) (by omega))) (fun _ => ?_)
  refine lv_aload_n hx hb dL_fits_103 rfl (lv_at hl 3 rfl) ?_
  refine lv_iload_n hx hb dL_fits_104 rfl (lv_at hl 4 rfl) ?_
  refine t_version hstk X hI hw (rv0 ((rd_version hI hr2).trans (by rw [e11, k4]))) (rd0 (rd_version hI hr2)) ml_RL_112 ⟨(Nat.le_of_ble_eq_true rfl), (Nat.le_of_ble_eq_true rfl)⟩ hl.1 (Nat.le_of_ble_eq_true rfl) dL_fits_105 (by show _ ≤ 1100; omega) (by show _ ≤ 6600; omega) (fun H locs cells slots ec es hw => ?_)
  refine lv_if_lt (tgt := 115) hx hb dL_fits_108 (by decide) (fun z => False.elim (absurd z (nI_pos (by omega)))) (fun _ => ?_)
  refine lv_iconst (v := 1) hx hb dL_fits_111 (by decide) ?_
  refine lv_goto (tgt := 116) hx hb dL_fits_112 (by decide) ?_
  refine lv_istore (lv' := [(5, .int 1), (4, .int 0), (3, .int (-1)), (2, .int (D 11 r 4)), (0, .ref a0), (1, .int (nI r))]) hx hb dL_fits_116 hl (by decide) rfl (fun ls hl => ?_)
  refine lv_iconst (v := 0) hx hb dL_fits_118 (by decide) ?_
  refine lv_istore (lv' := [(6, .int 0), (5, .int 1), (4, .int 0), (3, .int (-1)), (2, .int (D 11 r 4)), (0, .ref a0), (1, .int (nI r))]) hx hb dL_fits_119 hl (by decide) rfl (fun ls hl => ?_)
  exact fits_slots hstk X hex hn 8 0 _ _ _ _ _ _ rfl hJ2 (hP.put z) hr2 hw (by omega) (by omega) (lv_sub hl [0, 1, 6, 5] rfl)
set_option maxHeartbeats 4000000 in
set_option maxRecDepth 100000 in
theorem fits_all (hstk : l.stackTraces = false) (X : gX p s m args c cL_fits RL 9 G A) (hex : fX p l e s m args below meth c Q G A a0 bb n fd C0) (hn : n ≤ 700) {D : gCT} {H : Heap} {locs : List Loc} {cells slots : Nat} {ls : Array Slot} (hJ : kJ n fd D) (hP : kP C0 D) (hr : r < gRc D) (hw : tW G A s.heap H locs D a0 bb) (hc : cells ≤ 0) (hs : slots ≤ 0) (hl : lv_has ls 9 [(0, .ref a0), (1, .int (nI r))]) : W p l e (gRm 10 227 1100 6600) s m args below meth c H locs cells slots Q (F0 m 0 ls []) := by
  have hx := X.1.1; have hb := X.1.2.1; have hown := X.1.2.2.2.1; have hts := X.1.2.2.2.2; have hI := hJ.1
  obtain ⟨-, hS, ⟨-, aK0, -⟩, -⟩ := hJ.2.2.2.1 r hr
  refine lv_aload_n hx hb dL_fits_0 rfl (lv_at hl 0 rfl) ?_
  refine lv_iload_n hx hb dL_fits_1 rfl (lv_at hl 1 rfl) ?_
  refine t_state hstk X hI hw (rv0 (rd_state hI hr)) (rd0 (rd_state hI hr)) ml_RL_98 ⟨(Nat.le_of_ble_eq_true rfl), (Nat.le_of_ble_eq_true rfl)⟩ hl.1 (Nat.le_of_ble_eq_true rfl) dL_fits_2 (by show _ ≤ 1100; omega) (by show _ ≤ 6600; omega) (fun H locs cells slots ec es hw => ?_)
  refine lv_istore_n (lv' := [(2, .int (D 11 r 4)), (0, .ref a0), (1, .int (nI r))]) hx hb dL_fits_5 rfl hl (by decide) rfl (fun ls hl => ?_)
  refine lv_aload_n hx hb dL_fits_6 rfl (lv_at hl 1 rfl) ?_
  refine lv_iload_n hx hb dL_fits_7 rfl (lv_at hl 2 rfl) ?_
  rcases hS with ⟨hs4, h7⟩ | ⟨hs7, h7⟩
  · obtain ⟨q, hq, eq⟩ := aK0.2 h7
    have eq : D 7 r 5 = nI q := eq
    have eQ : m_question D (nI r) = (0, nI q, D) := (rd_question hI hr).trans (by rw [if_pos hs4, eq])
    refine t_question hstk X hI hw (rv0 eQ) (rd0 eQ) ml_RL_103 ⟨(Nat.le_of_ble_eq_true rfl), (Nat.le_of_ble_eq_true rfl)⟩ hl.1 (Nat.le_of_ble_eq_true rfl) dL_fits_8 (by show _ ≤ 1100; omega) (by show _ ≤ 6600; omega) (fun H locs cells slots ec es hw => ?_)
    refine lv_istore_n (lv' := [(3, .int (nI q)), (2, .int (D 11 r 4)), (0, .ref a0), (1, .int (nI r))]) hx hb dL_fits_11 rfl hl (by decide) rfl (fun ls hl => ?_)
    refine lv_iload_n hx hb dL_fits_12 rfl (lv_at hl 1 rfl) ?_
    rcases hs4 with h4 | h4 | h4
    · refine lv_if_eq (tgt := 27) hx hb dL_fits_13 (by decide) (fun _ => ?_) (fun z => False.elim (absurd h4 z))
      refine lv_iconst (v := 1) hx hb dL_fits_27 (by decide) ?_
      refine lv_goto (tgt := 32) hx hb dL_fits_28 (by decide) ?_
      refine lv_istore (lv' := [(4, .int 1), (3, .int (nI q)), (2, .int (D 11 r 4)), (0, .ref a0), (1, .int (nI r))]) hx hb dL_fits_32 hl (by decide) rfl (fun ls hl => ?_)
      exact fits_mida hstk X hex hn hJ hP hr hw (Or.inl h4) hq (by omega) (by omega) hl
    · refine lv_if_eq (tgt := 27) hx hb dL_fits_13 (by decide) (fun z => False.elim (by rw [h4] at z; exact absurd z (by decide))) (fun _ => ?_)
      refine lv_iload_n hx hb dL_fits_16 rfl (lv_at hl 1 rfl) ?_
      refine lv_iconst (v := 1) hx hb dL_fits_17 (by decide) ?_
      refine lv_icmp_eq (tgt := 27) hx hb dL_fits_18 (by decide) (fun _ => ?_) (fun z => False.elim (absurd h4 z))
      refine lv_iconst (v := 1) hx hb dL_fits_27 (by decide) ?_
      refine lv_goto (tgt := 32) hx hb dL_fits_28 (by decide) ?_
      refine lv_istore (lv' := [(4, .int 1), (3, .int (nI q)), (2, .int (D 11 r 4)), (0, .ref a0), (1, .int (nI r))]) hx hb dL_fits_32 hl (by decide) rfl (fun ls hl => ?_)
      exact fits_mida hstk X hex hn hJ hP hr hw (Or.inr (Or.inl h4)) hq (by omega) (by omega) hl
    · refine lv_if_eq (tgt := 27) hx hb dL_fits_13 (by decide) (fun z => False.elim (by rw [h4] at z; exact absurd z (by decide))) (fun _ => ?_)
      refine lv_iload_n hx hb dL_fits_16 rfl (lv_at hl 1 rfl) ?_
      refine lv_iconst (v := 1) hx hb dL_fits_17 (by decide) ?_
      refine lv_icmp_eq (tgt := 27) hx hb dL_fits_18 (by decide) (fun z => False.elim (by rw [h4] at z; exact absurd z (by decide))) (fun _ => ?_)
      refine lv_iload_n hx hb dL_fits_21 rfl (lv_at hl 1 rfl) ?_
      refine lv_bipush (v := 6) hx hb dL_fits_22 (by decide) ?_
      refine lv_icmp_ne (tgt := 31) hx hb dL_fits_24 (by decide) (fun z => False.elim (absurd h4 z)) (fun _ => ?_)
      refine lv_iconst (v := 1) hx hb dL_fits_27 (by decide) ?_
      refine lv_goto (tgt := 32) hx hb dL_fits_28 (by decide) ?_
      refine lv_istore (lv' := [(4, .int 1), (3, .int (nI q)), (2, .int (D 11 r 4)), (0, .ref a0), (1, .int (nI r))]) hx hb dL_fits_32 hl (by decide) rfl (fun ls hl => ?_)
      exact fits_mida hstk X hex hn hJ hP hr hw (Or.inr (Or.inr h4)) hq (by omega) (by omega) hl
  · have hs4 : D 11 r 4 = 2 ∨ D 11 r 4 = 3 ∨ D 11 r 4 = 4 ∨ D 11 r 4 = 5 := by rw [hs7]; exact h7
    have eQ : m_question D (nI r) = (0, -1, D) := (rd_question hI hr).trans (by rw [if_neg (by rcases hs4 with h | h | h | h <;> rw [h] <;> decide)])
    refine t_question hstk X hI hw (rv0 eQ) (rd0 eQ) ml_RL_103 ⟨(Nat.le_of_ble_eq_true rfl), (Nat.le_of_ble_eq_true rfl)⟩ hl.1 (Nat.le_of_ble_eq_true rfl) dL_fits_8 (by show _ ≤ 1100; omega) (by show _ ≤ 6600; omega) (fun H locs cells slots ec es hw => ?_)
    refine lv_istore_n (lv' := [(3, .int (-1)), (2, .int (D 11 r 4)), (0, .ref a0), (1, .int (nI r))]) hx hb dL_fits_11 rfl hl (by decide) rfl (fun ls hl => ?_)
    refine lv_iload_n hx hb dL_fits_12 rfl (lv_at hl 1 rfl) ?_
    refine lv_if_eq (tgt := 27) hx hb dL_fits_13 (by decide) (fun z => False.elim (by rcases hs4 with h | h | h | h <;> rw [h] at z <;> exact absurd z (by decide))) (fun _ => ?_)
    refine lv_iload_n hx hb dL_fits_16 rfl (lv_at hl 1 rfl) ?_
    refine lv_iconst (v := 1) hx hb dL_fits_17 (by decide) ?_
    refine lv_icmp_eq (tgt := 27) hx hb dL_fits_18 (by decide) (fun z => False.elim (by rcases hs4 with h | h | h | h <;> rw [h] at z <;> exact absurd z (by decide))) (fun _ => ?_)
    refine lv_iload_n hx hb dL_fits_21 rfl (lv_at hl 1 rfl) ?_
    refine lv_bipush (v := 6) hx hb dL_fits_22 (by decide) ?_
    refine lv_icmp_ne (tgt := 31) hx hb dL_fits_24 (by decide) (fun _ => ?_) (fun z => False.elim (by rcases hs4 with h | h | h | h <;> rw [h] at z <;> exact absurd z (by decide)))
    refine lv_iconst (v := 0) hx hb dL_fits_31 (by decide) ?_
    refine lv_istore (lv' := [(4, .int 0), (3, .int (-1)), (2, .int (D 11 r 4)), (0, .ref a0), (1, .int (nI r))]) hx hb dL_fits_32 hl (by decide) rfl (fun ls hl => ?_)
    exact fits_midb hstk X hex hn hJ hP hr hw hs4 (by omega) (by omega) hl
end FT
set_option maxHeartbeats 4000000 in
set_option maxRecDepth 100000 in
theorem c_fits (l : Launch) (hstk : l.stackTraces = false) (G : gG) {C : gCT} {n r : Nat} {fd : Int32} (ad : gAd) (hn : n ≤ 700) (hJ : kJ n fd C) (hr : r < gRc C) : gMi l yL_fits cL_fits 9 (some .boolean) (gRm 10 227 1100 6600) G [.ref (ad 0 0), .int (nI r)] (gLvO C) ad (gF G C ad) (fun v u => v = 1 ∧ ∃ (z : aM) (ad' : gAd), u = (gLvO C, ad', gF G (aPut C 24 z) ad') ∧ gAdK ad ad') := by
  refine r_met (own := RL) (by decide) rfl (Nat.le_of_ble_eq_true rfl) ?_
  intro p e s m below meth c ls X hw hr0 hlk hnm hl
  have hl : lv_has ls 9 [(0, .ref (ad 0 0)), (1, .int (nI r))] := hl
  refine fits_all (C0 := C) (a0 := ad 0 0) (bb := fun k => ad 22 k) hstk X ?_ hn hJ kP.rf hr ⟨ad, rfl, fun _ _ => rfl, hw⟩ (Nat.le_refl _) (Nat.le_refl _) hl
  intro D H locs cells slots ls hP hc hs hw
  obtain ⟨z, rfl⟩ := hP
  obtain ⟨ad', h0, h1, hw⟩ := hw
  rw [(sp_x C z).lv] at hw
  exact r_iret X hw hr0 nar_b1 hlk hc hs ⟨rfl, z, ad', rfl, h0, h1⟩ dL_fits_279

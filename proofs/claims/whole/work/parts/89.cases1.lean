/-! ===== the law: cases ===== -/
section LC
variable {p : Program} {l : Launch} {e : Env} {s : State} {m : MethodId} {below : List Frame} {meth : Method} {c : Code} {H : Heap} {locs : List Loc} {cells slots : Nat} {Q : State → Prop}
variable {ls : Array Slot} {G : gG} {A : Nat → Prop} {adC adM : gAd} {b i n : Nat}
set_option maxHeartbeats 2000000 in
set_option maxRecDepth 100000 in
theorem law_c0 (hst : l.stackTraces = false) {C M : gCT} (X : gX p s m #[.ref b] c cL_law RL 7 G A) (hw : gT2 G A s.heap H locs (gLvO C) adC (gF G C adC) (gLvR 34) adM (gF G M adM)) (hI : gInv C) (hB : MBI M) (hR : sRel n C M) (hn : n < 512) {L : Nat} {xs : Nat → Int32} (hX : va_X b L xs s s.heap) (hbl : b < s.heap.size) (hbA : ¬ A b) (h1 : vp_in (nI i + 1) L) (h2 : vp_in (nI i + 2) L) (h3 : vp_in (nI i + 3) L) (hc : cells + 16 ≤ 601024) (hs : slots + 4096 ≤ 7293033)
    (hl : lv_has ls 7 [(4, .int (nI i)), (0, .ref b), (1, .ref (adC 0 0)), (2, .ref (adM 20 0)), (3, .ref (adC 22 0))]) (kk : lawK p l e s m below meth c Q G A b adM i n cells slots) : W p l e room_1 s m #[.ref b] below meth c H locs cells slots Q (F0 m 160 ls []) := by
  have hx := X.1.1
  have hb := X.1.2.1
  refine lv_aload_n hx hb dL_law_160 rfl (lv_at hl 2 rfl) ?_
  refine lv_aload_n hx hb dL_law_161 rfl (lv_at hl 1 rfl) ?_
  refine lv_iload hx hb dL_law_162 (lv_at hl 0 rfl) ?_
  refine lv_iconst (v := 1) hx hb dL_law_164 (by decide) ?_
  refine lv_iadd hx hb dL_law_165 ?_
  refine va_sld hx hb hX hbl hbA hw.2.2.2 h1 dL_law_166 ?_
  refine lv_aload_n hx hb dL_law_167 rfl (lv_at hl 1 rfl) ?_
  refine lv_iload hx hb dL_law_168 (lv_at hl 0 rfl) ?_
  refine lv_iconst (v := 2) hx hb dL_law_170 (by decide) ?_
  refine lv_iadd hx hb dL_law_171 ?_
  refine va_sld hx hb hX hbl hbA hw.2.2.2 h2 dL_law_172 ?_
  refine lv_aload_n hx hb dL_law_173 rfl (lv_at hl 1 rfl) ?_
  refine lv_iload hx hb dL_law_174 (lv_at hl 0 rfl) ?_
  refine lv_iconst (v := 3) hx hb dL_law_176 (by decide) ?_
  refine lv_iadd hx hb dL_law_177 ?_
  refine va_sld hx hb hX hbl hbA hw.2.2.2 h3 dL_law_178 ?_
  refine lv_aload_n hx hb dL_law_179 rfl (lv_at hl 4 rfl) ?_
  refine t_w X hw (r_runSW X (c_w_write l hst G C adC (xs (nI i + 1).toNatClampNeg) (xs (nI i + 2).toNatClampNeg) (xs (nI i + 3).toNatClampNeg) hI _) cw_write ini_RL dd_write ml_RL_99 ⟨(Nat.le_of_ble_eq_true rfl), (Nat.le_of_ble_eq_true rfl)⟩ gP.blind (gP_call X hw.wc _) rfl hl.1 rfl (Nat.le_of_ble_eq_true rfl) dL_law_180 ⟨show cells + 2 ≤ 601024 by omega, show slots + 12 ≤ 7293033 by omega⟩) (fun H locs adD hK hw => ?_)
  rw [← hK.1, ← hK.2] at hl
  refine lv_istore (lv' := [(5, .int (nI (m_write C (xs (nI i + 1).toNatClampNeg) (xs (nI i + 2).toNatClampNeg) (xs (nI i + 3).toNatClampNeg)).1)), (4, .int (nI i)), (0, .ref b), (1, .ref (adD 0 0)), (2, .ref (adM 20 0)), (3, .ref (adD 22 0))]) hx hb dL_law_183 hl (by decide) rfl (fun ls hl => ?_)
  refine lv_aload_n hx hb dL_law_185 rfl (lv_at hl 4 rfl) ?_
  refine lv_aload_n hx hb dL_law_186 rfl (lv_at hl 2 rfl) ?_
  refine lv_iload hx hb dL_law_187 (lv_at hl 1 rfl) ?_
  refine lv_iconst (v := 1) hx hb dL_law_189 (by decide) ?_
  refine lv_iadd hx hb dL_law_190 ?_
  refine va_sld hx hb hX hbl hbA hw.2.2.2 h1 dL_law_191 ?_
  refine lv_aload_n hx hb dL_law_192 rfl (lv_at hl 2 rfl) ?_
  refine lv_iload hx hb dL_law_193 (lv_at hl 1 rfl) ?_
  refine lv_iconst (v := 2) hx hb dL_law_195 (by decide) ?_
  refine lv_iadd hx hb dL_law_196 ?_
  refine va_sld hx hb hX hbl hbA hw.2.2.2 h2 dL_law_197 ?_
  refine lv_aload_n hx hb dL_law_198 rfl (lv_at hl 2 rfl) ?_
  refine lv_iload hx hb dL_law_199 (lv_at hl 1 rfl) ?_
  refine lv_iconst (v := 3) hx hb dL_law_201 (by decide) ?_
  refine lv_iadd hx hb dL_law_202 ?_
  refine va_sld hx hb hX hbl hbA hw.2.2.2 h3 dL_law_203 ?_
  refine t_q X hw (r_runV X (c_q_write l G _ adM M (xs (nI i + 1).toNatClampNeg) (xs (nI i + 2).toNatClampNeg) (xs (nI i + 3).toNatClampNeg) gLM_R hB _) cy_X6_write ml_RL_104 ⟨(Nat.le_of_ble_eq_true rfl), (Nat.le_of_ble_eq_true rfl)⟩ gP.blind (g_recv X hw.wm 20 0 gLM_R.1 rfl rfl) (gP_call X hw.wm _) rfl hl.1 rfl (Nat.le_of_ble_eq_true rfl) dL_law_204 ⟨show cells + 2 + 0 ≤ 601024 by omega, show slots + 12 + 0 ≤ 7293033 by omega⟩) (fun H locs hB1 hw => ?_)
  have hO := s_write hI hB hR (xs (nI i + 1).toNatClampNeg) (xs (nI i + 2).toNatClampNeg) (xs (nI i + 3).toNatClampNeg)
  have hI1 := w_out_inv (r := m_write C (xs (nI i + 1).toNatClampNeg) (xs (nI i + 2).toNatClampNeg) (xs (nI i + 3).toNatClampNeg)) hI (m_write_inv hI).1
  refine lv_istore (lv' := [(6, .int (q_write M (xs (nI i + 1).toNatClampNeg) (xs (nI i + 2).toNatClampNeg) (xs (nI i + 3).toNatClampNeg)).1), (5, .int (nI (m_write C (xs (nI i + 1).toNatClampNeg) (xs (nI i + 2).toNatClampNeg) (xs (nI i + 3).toNatClampNeg)).1)), (4, .int (nI i)), (0, .ref b), (1, .ref (adD 0 0)), (2, .ref (adM 20 0)), (3, .ref (adD 22 0))]) hx hb dL_law_207 hl (by decide) rfl (fun ls hl => ?_)
  refine law_tail (t0 := 209) X hw hI1 hB1 (m_write_lt C (xs (nI i + 1).toNatClampNeg) (xs (nI i + 2).toNatClampNeg) (xs (nI i + 3).toNatClampNeg)) hO.1 hO.2.1 (show cells + 2 + 0 ≤ 601024 by omega) (show slots + 12 + 0 ≤ 7293033 by omega) dL_law_209 dL_law_210 dL_law_213 dL_law_215 dL_law_220 dL_law_222 dL_law_225 dL_law_226 dL_law_227 dL_law_228 dL_law_230 dL_law_231 dL_law_232 hl (fun H locs hw => ?_)
  refine lv_goto (tgt := 1729) hx hb dL_law_237 (by decide) ?_
  exact kk _ _ _ _ _ _ _ _ (by show cells + 2 + 0 ≤ cells + 16; omega) (by show slots + 12 + 0 ≤ slots + 4096; omega) hI1 hB1 hO.2.2 hw (lv_sub hl [2, 3, 4, 5, 6] rfl)
set_option maxHeartbeats 2000000 in
set_option maxRecDepth 100000 in
theorem law_c1 (hst : l.stackTraces = false) {C M : gCT} (X : gX p s m #[.ref b] c cL_law RL 7 G A) (hw : gT2 G A s.heap H locs (gLvO C) adC (gF G C adC) (gLvR 34) adM (gF G M adM)) (hI : gInv C) (hB : MBI M) (hR : sRel n C M) (hn : n < 512) {L : Nat} {xs : Nat → Int32} (hX : va_X b L xs s s.heap) (hbl : b < s.heap.size) (hbA : ¬ A b) (h1 : vp_in (nI i + 1) L) (h2 : vp_in (nI i + 2) L) (h3 : vp_in (nI i + 3) L) (hc : cells + 16 ≤ 601024) (hs : slots + 4096 ≤ 7293033)
    (hl : lv_has ls 7 [(4, .int (nI i)), (0, .ref b), (1, .ref (adC 0 0)), (2, .ref (adM 20 0)), (3, .ref (adC 22 0))]) (kk : lawK p l e s m below meth c Q G A b adM i n cells slots) : W p l e room_1 s m #[.ref b] below meth c H locs cells slots Q (F0 m 240 ls []) := by
  have hx := X.1.1
  have hb := X.1.2.1
  refine lv_aload_n hx hb dL_law_240 rfl (lv_at hl 2 rfl) ?_
  refine lv_aload_n hx hb dL_law_241 rfl (lv_at hl 1 rfl) ?_
  refine lv_iload hx hb dL_law_242 (lv_at hl 0 rfl) ?_
  refine lv_iconst (v := 1) hx hb dL_law_244 (by decide) ?_
  refine lv_iadd hx hb dL_law_245 ?_
  refine va_sld hx hb hX hbl hbA hw.2.2.2 h1 dL_law_246 ?_
  refine lv_aload_n hx hb dL_law_247 rfl (lv_at hl 4 rfl) ?_
  refine t_w X hw (r_runSW X (c_w_publish l hst G C adC (xs (nI i + 1).toNatClampNeg) hI _) cw_publish ini_RL dd_publish ml_RL_109 ⟨(Nat.le_of_ble_eq_true rfl), (Nat.le_of_ble_eq_true rfl)⟩ gP.blind (gP_call X hw.wc _) rfl hl.1 rfl (Nat.le_of_ble_eq_true rfl) dL_law_248 ⟨show cells + 6 ≤ 601024 by omega, show slots + 80 ≤ 7293033 by omega⟩) (fun H locs adD hK hw => ?_)
  rw [← hK.1, ← hK.2] at hl
  refine lv_istore (lv' := [(5, .int (nI (w_two (m_publish C (xs (nI i + 1).toNatClampNeg)).1))), (4, .int (nI i)), (0, .ref b), (1, .ref (adD 0 0)), (2, .ref (adM 20 0)), (3, .ref (adD 22 0))]) hx hb dL_law_251 hl (by decide) rfl (fun ls hl => ?_)
  refine lv_aload_n hx hb dL_law_253 rfl (lv_at hl 4 rfl) ?_
  refine lv_aload_n hx hb dL_law_254 rfl (lv_at hl 2 rfl) ?_
  refine lv_iload hx hb dL_law_255 (lv_at hl 1 rfl) ?_
  refine lv_iconst (v := 1) hx hb dL_law_257 (by decide) ?_
  refine lv_iadd hx hb dL_law_258 ?_
  refine va_sld hx hb hX hbl hbA hw.2.2.2 h1 dL_law_259 ?_
  refine t_q X hw (r_runV X (c_q_publish l G _ adM M (xs (nI i + 1).toNatClampNeg) gLM_R hB _) cy_X6_publish ml_RL_112 ⟨(Nat.le_of_ble_eq_true rfl), (Nat.le_of_ble_eq_true rfl)⟩ gP.blind (g_recv X hw.wm 20 0 gLM_R.1 rfl rfl) (gP_call X hw.wm _) rfl hl.1 rfl (Nat.le_of_ble_eq_true rfl) dL_law_260 ⟨show cells + 6 + 0 ≤ 601024 by omega, show slots + 80 + 0 ≤ 7293033 by omega⟩) (fun H locs hB1 hw => ?_)
  have hO := s_publish hI hB hR (xs (nI i + 1).toNatClampNeg)
  have hI1 := w_out_inv (r := m_publish C (xs (nI i + 1).toNatClampNeg)) hI (m_publish_inv hI (xs (nI i + 1).toNatClampNeg))
  refine lv_istore (lv' := [(6, .int (q_publish M (xs (nI i + 1).toNatClampNeg)).1), (5, .int (nI (w_two (m_publish C (xs (nI i + 1).toNatClampNeg)).1))), (4, .int (nI i)), (0, .ref b), (1, .ref (adD 0 0)), (2, .ref (adM 20 0)), (3, .ref (adD 22 0))]) hx hb dL_law_263 hl (by decide) rfl (fun ls hl => ?_)
  refine law_tail (t0 := 265) X hw hI1 hB1 (w_two_lt (m_publish_lt C (xs (nI i + 1).toNatClampNeg))) hO.1 hO.2.1 (show cells + 6 + 0 ≤ 601024 by omega) (show slots + 80 + 0 ≤ 7293033 by omega) dL_law_265 dL_law_266 dL_law_269 dL_law_271 dL_law_276 dL_law_278 dL_law_281 dL_law_282 dL_law_283 dL_law_284 dL_law_286 dL_law_287 dL_law_288 hl (fun H locs hw => ?_)
  refine lv_goto (tgt := 1729) hx hb dL_law_293 (by decide) ?_
  exact kk _ _ _ _ _ _ _ _ (by show cells + 6 + 0 ≤ cells + 16; omega) (by show slots + 80 + 0 ≤ slots + 4096; omega) hI1 hB1 hO.2.2 hw (lv_sub hl [2, 3, 4, 5, 6] rfl)
end LC

/-! ===== the law's loop ===== -/
section LL
variable {p : Program} {l : Launch} {e : Env} {s : State} {m : MethodId} {below : List Frame} {meth : Method} {c : Code} {Q : State → Prop}
variable {G : gG} {A : Nat → Prop} {adM : gAd} {b : Nat}
set_option maxHeartbeats 4000000 in
set_option maxRecDepth 100000 in
theorem law_loop (hst : l.stackTraces = false) {L : Nat} {xs : Nat → Int32} (hL : L ≤ 2048) (X : gX p s m #[.ref b] c cL_law RL 7 G A) (hX : va_X b L xs s s.heap) (hbl : b < s.heap.size) (hbA : ¬ A b) (hexit : ∀ (H : Heap) (locs : List Loc) (cells slots : Nat) (ls : Array Slot), va_S A s.heap H locs → cells ≤ 601024 → slots ≤ 7293033 → W p l e room_1 s m #[.ref b] below meth c H locs cells slots Q (F0 m 1735 ls [])) :
    ∀ (k n : Nat), n + k = 513 → ∀ (C M : gCT) (adC : gAd) (H : Heap) (locs : List Loc) (cells slots : Nat) (ls : Array Slot), n ≤ 512 → cells ≤ 1000 + 16 * n → slots ≤ 20000 + 4096 * n → gInv C → MBI M → sRel n C M → gT2 G A s.heap H locs (gLvO C) adC (gF G C adC) (gLvR 34) adM (gF G M adM) → lv_has ls 7 [(4, .int (nI (4 * n))), (0, .ref b), (1, .ref (adC 0 0)), (2, .ref (adM 20 0)), (3, .ref (adC 22 0))] → W p l e room_1 s m #[.ref b] below meth c H locs cells slots Q (F0 m 23 ls []) := by
  have hx := X.1.1
  have hb := X.1.2.1
  intro k
  induction k with
  | zero => intro n hn C M adC H locs cells slots ls h; omega
  | succ k ih =>
    intro n hnk C M adC H locs cells slots ls hn5 hcl hsl hI hB hR hw hl
    refine lv_iload hx hb dL_law_23 (lv_at hl 0 rfl) ?_
    refine lv_aload_n hx hb dL_law_25 rfl (lv_at hl 1 rfl) ?_
    refine va_slen hx hb hX hbl hbA hw.2.2.2 dL_law_26 ?_
    refine lv_iconst (v := 4) hx hb dL_law_27 (by decide) ?_
    refine lv_isub hx hb dL_law_28 ?_
    refine lv_icmp_gt (tgt := 1735) hx hb dL_law_29 (by decide) (fun _ => hexit _ _ _ _ _ hw.2.2.2 (by omega) (by omega)) (fun hgt => ?_)
    have hle : 4 * n + 4 ≤ L := by
      have e0 : (nI L).toInt = (L : Int) := nI_toInt (by omega)
      have e1 : (nI L - 4).toInt = (nI L).toInt - (4 : Int32).toInt := sub_toInt' (by rw [e0]; simp; omega) (by rw [e0]; simp; omega)
      have e2 : (nI (4 * n)).toInt = ((4 * n : Nat) : Int) := nI_toInt (by omega)
      have h1 : ¬ (nI L - 4).toInt < (nI (4 * n)).toInt := fun z => hgt (Int32.lt_iff_toInt_lt.mpr z)
      rw [e1, e0, e2] at h1
      simp at h1
      omega
    have h0 : vp_in (nI (4 * n)) L := vp_in_nI (by omega) (by omega)
    have h1 : vp_in (nI (4 * n) + 1) L := by rw [nI_1]; exact vp_in_nI (by omega) (by omega)
    have h2 : vp_in (nI (4 * n) + 2) L := by rw [show nI (4 * n) + (2 : Int32) = nI (4 * n + 2) from nI_add _ 2]; exact vp_in_nI (by omega) (by omega)
    have h3 : vp_in (nI (4 * n) + 3) L := by rw [show nI (4 * n) + (3 : Int32) = nI (4 * n + 3) from nI_add _ 3]; exact vp_in_nI (by omega) (by omega)
    have hn : n < 512 := by omega
    have hc : cells + 16 ≤ 601024 := by omega
    have hs : slots + 4096 ≤ 7293033 := by omega
    have kk : lawK p l e s m below meth c Q G A b adM (4 * n) n cells slots := by
      intro H1 locs1 cells1 slots1 C1 M1 adC1 ls1 hc1 hs1 hI1 hB1 hR1 hw1 hl1
      refine lv_iinc (v := nI (4 * (n + 1))) (lv' := [(4, .int (nI (4 * (n + 1)))), (0, .ref b), (1, .ref (adC1 0 0)), (2, .ref (adM 20 0)), (3, .ref (adC1 22 0))]) hx hb dL_law_1729 hl1 (k := 0) rfl (show nI (4 * n) + (4 : Int32) = nI (4 * n + 4) from nI_add _ 4) (by decide) rfl (fun ls hl => ?_)
      refine lv_goto (tgt := 23) hx hb dL_law_1732 (by decide) ?_
      exact ih (n + 1) (by omega) C1 M1 adC1 H1 locs1 cells1 slots1 ls (by omega) (by omega) (by omega) hI1 hB1 hR1 hw1 hl
    refine lv_aload_n hx hb dL_law_32 rfl (lv_at hl 1 rfl) ?_
    refine lv_iload hx hb dL_law_33 (lv_at hl 0 rfl) ?_
    refine va_sld hx hb hX hbl hbA hw.2.2.2 h0 dL_law_35 ?_
    refine lv_bipush (v := 31) hx hb dL_law_36 (by decide) ?_
    refine lv_iand hx hb dL_law_38 ?_
    generalize xs (nI (4 * n)).toNatClampNeg &&& 31 = w
    by_cases w0 : w = 0
    · refine lv_tableIn (tgt := 160) hx hb dL_law_39 (by rw [w0]; decide) (by rw [w0]; decide) (off := 121) (by rw [w0]; rfl) (by decide) ?_
      exact law_c0 hst X hw hI hB hR hn hX hbl hbA h1 h2 h3 hc hs hl kk
    by_cases w1 : w = 1
    · refine lv_tableIn (tgt := 240) hx hb dL_law_39 (by rw [w1]; decide) (by rw [w1]; decide) (off := 201) (by rw [w1]; rfl) (by decide) ?_
      exact law_c1 hst X hw hI hB hR hn hX hbl hbA h1 h2 h3 hc hs hl kk
    by_cases w2 : w = 2
    · refine lv_tableIn (tgt := 296) hx hb dL_law_39 (by rw [w2]; decide) (by rw [w2]; decide) (off := 257) (by rw [w2]; rfl) (by decide) ?_
      exact law_c2 hst X hw hI hB hR hn hX hbl hbA h1 h2 h3 hc hs hl kk
    by_cases w3 : w = 3
    · refine lv_tableIn (tgt := 364) hx hb dL_law_39 (by rw [w3]; decide) (by rw [w3]; decide) (off := 325) (by rw [w3]; rfl) (by decide) ?_
      exact law_c3 hst X hw hI hB hR hn hX hbl hbA h1 h2 h3 hc hs hl kk
    by_cases w4 : w = 4
    · refine lv_tableIn (tgt := 432) hx hb dL_law_39 (by rw [w4]; decide) (by rw [w4]; decide) (off := 393) (by rw [w4]; rfl) (by decide) ?_
      exact law_c4 hst X hw hI hB hR hn hX hbl hbA h1 h2 h3 hc hs hl kk
    by_cases w5 : w = 5
    · refine lv_tableIn (tgt := 512) hx hb dL_law_39 (by rw [w5]; decide) (by rw [w5]; decide) (off := 473) (by rw [w5]; rfl) (by decide) ?_
      exact law_c5 hst X hw hI hB hR hn hX hbl hbA h1 h2 h3 hc hs hl kk
    by_cases w6 : w = 6
    · refine lv_tableIn (tgt := 580) hx hb dL_law_39 (by rw [w6]; decide) (by rw [w6]; decide) (off := 541) (by rw [w6]; rfl) (by decide) ?_
      exact law_c6 hst X hw hI hB hR hn hX hbl hbA h1 h2 h3 hc hs hl kk
    by_cases w7 : w = 7
    · refine lv_tableIn (tgt := 636) hx hb dL_law_39 (by rw [w7]; decide) (by rw [w7]; decide) (off := 597) (by rw [w7]; rfl) (by decide) ?_
      exact law_c7 hst X hw hI hB hR hn hX hbl hbA h1 h2 h3 hc hs hl kk
    by_cases w8 : w = 8
    · refine lv_tableIn (tgt := 704) hx hb dL_law_39 (by rw [w8]; decide) (by rw [w8]; decide) (off := 665) (by rw [w8]; rfl) (by decide) ?_
      exact law_c8 hst X hw hI hB hR hn hX hbl hbA h1 h2 h3 hc hs hl kk
    by_cases w9 : w = 9
    · refine lv_tableIn (tgt := 772) hx hb dL_law_39 (by rw [w9]; decide) (by rw [w9]; decide) (off := 733) (by rw [w9]; rfl) (by decide) ?_
      exact law_c9 hst X hw hI hB hR hn hX hbl hbA h1 h2 h3 hc hs hl kk
    by_cases w10 : w = 10
    · refine lv_tableIn (tgt := 808) hx hb dL_law_39 (by rw [w10]; decide) (by rw [w10]; decide) (off := 769) (by rw [w10]; rfl) (by decide) ?_
      exact law_c10 hst X hw hI hB hR hn hX hbl hbA h1 h2 h3 hc hs hl kk
    by_cases w11 : w = 11
    · refine lv_tableIn (tgt := 871) hx hb dL_law_39 (by rw [w11]; decide) (by rw [w11]; decide) (off := 832) (by rw [w11]; rfl) (by decide) ?_
      exact law_c11 hst X hw hI hB hR hn hX hbl hbA h1 h2 h3 hc hs hl kk
    by_cases w12 : w = 12
    · refine lv_tableIn (tgt := 927) hx hb dL_law_39 (by rw [w12]; decide) (by rw [w12]; decide) (off := 888) (by rw [w12]; rfl) (by decide) ?_
      exact law_c12 X hw hI hB hR hc hs hl kk
    by_cases w13 : w = 13
    · refine lv_tableIn (tgt := 940) hx hb dL_law_39 (by rw [w13]; decide) (by rw [w13]; decide) (off := 901) (by rw [w13]; rfl) (by decide) ?_
      exact law_c13 hst X hw hI hB hR hn hX hbl hbA h1 h2 h3 hc hs hl kk
    by_cases w14 : w = 14
    · refine lv_tableIn (tgt := 996) hx hb dL_law_39 (by rw [w14]; decide) (by rw [w14]; decide) (off := 957) (by rw [w14]; rfl) (by decide) ?_
      exact law_c14 hst X hw hI hB hR hn hX hbl hbA h1 h2 h3 hc hs hl kk
    by_cases w15 : w = 15
    · refine lv_tableIn (tgt := 1052) hx hb dL_law_39 (by rw [w15]; decide) (by rw [w15]; decide) (off := 1013) (by rw [w15]; rfl) (by decide) ?_
      exact law_c15 hst X hw hI hB hR hn hX hbl hbA h1 h2 h3 hc hs hl kk
    by_cases w16 : w = 16
    · refine lv_tableIn (tgt := 1108) hx hb dL_law_39 (by rw [w16]; decide) (by rw [w16]; decide) (off := 1069) (by rw [w16]; rfl) (by decide) ?_
      exact law_c16 hst X hw hI hB hR hn hX hbl hbA h1 h2 h3 hc hs hl kk
    by_cases w17 : w = 17
    · refine lv_tableIn (tgt := 1164) hx hb dL_law_39 (by rw [w17]; decide) (by rw [w17]; decide) (off := 1125) (by rw [w17]; rfl) (by decide) ?_
      exact law_c17 hst X hw hI hB hR hn hX hbl hbA h1 h2 h3 hc hs hl kk
    by_cases w18 : w = 18
    · refine lv_tableIn (tgt := 1220) hx hb dL_law_39 (by rw [w18]; decide) (by rw [w18]; decide) (off := 1181) (by rw [w18]; rfl) (by decide) ?_
      exact law_c18 hst X hw hI hB hR hn hX hbl hbA h1 h2 h3 hc hs hl kk
    by_cases w19 : w = 19
    · refine lv_tableIn (tgt := 1288) hx hb dL_law_39 (by rw [w19]; decide) (by rw [w19]; decide) (off := 1249) (by rw [w19]; rfl) (by decide) ?_
      exact law_c19 hst X hw hI hB hR hn hX hbl hbA h1 h2 h3 hc hs hl kk
    by_cases w20 : w = 20
    · refine lv_tableIn (tgt := 1356) hx hb dL_law_39 (by rw [w20]; decide) (by rw [w20]; decide) (off := 1317) (by rw [w20]; rfl) (by decide) ?_
      exact law_c20 hst X hw hI hB hR hn hX hbl hbA h1 h2 h3 hc hs hl kk
    by_cases w21 : w = 21
    · refine lv_tableIn (tgt := 1412) hx hb dL_law_39 (by rw [w21]; decide) (by rw [w21]; decide) (off := 1373) (by rw [w21]; rfl) (by decide) ?_
      exact law_c21 hst X hw hI hB hR hn hX hbl hbA h1 h2 h3 hc hs hl kk
    by_cases w22 : w = 22
    · refine lv_tableIn (tgt := 1468) hx hb dL_law_39 (by rw [w22]; decide) (by rw [w22]; decide) (off := 1429) (by rw [w22]; rfl) (by decide) ?_
      exact law_c22 hst X hw hI hB hR hn hX hbl hbA h1 h2 h3 hc hs hl kk
    by_cases w23 : w = 23
    · refine lv_tableIn (tgt := 1536) hx hb dL_law_39 (by rw [w23]; decide) (by rw [w23]; decide) (off := 1497) (by rw [w23]; rfl) (by decide) ?_
      exact law_c23 hst X hw hI hB hR hn hX hbl hbA h1 h2 h3 hc hs hl kk
    by_cases w24 : w = 24
    · refine lv_tableIn (tgt := 1592) hx hb dL_law_39 (by rw [w24]; decide) (by rw [w24]; decide) (off := 1553) (by rw [w24]; rfl) (by decide) ?_
      exact law_c24 hst X hw hI hB hR hn hX hbl hbA h1 h2 h3 hc hs hl kk
    by_cases w25 : w = 25
    · refine lv_tableIn (tgt := 1648) hx hb dL_law_39 (by rw [w25]; decide) (by rw [w25]; decide) (off := 1609) (by rw [w25]; rfl) (by decide) ?_
      exact law_c25 X hw hI hB hR hc hs hl kk
    by_cases w26 : w = 26
    · refine lv_tableIn (tgt := 1661) hx hb dL_law_39 (by rw [w26]; decide) (by rw [w26]; decide) (off := 1622) (by rw [w26]; rfl) (by decide) ?_
      exact law_c26 hst X hw hI hB hR hn hX hbl hbA h1 h2 h3 hc hs hl kk
    refine lv_tableOut (tgt := 1729) hx hb dL_law_39 (ts_out_0_26 w0 w1 w2 w3 w4 w5 w6 w7 w8 w9 w10 w11 w12 w13 w14 w15 w16 w17 w18 w19 w20 w21 w22 w23 w24 w25 w26) (by decide) ?_
    exact kk _ _ _ _ C M adC ls (by omega) (by omega) hI hB hR.up hw hl
end LL

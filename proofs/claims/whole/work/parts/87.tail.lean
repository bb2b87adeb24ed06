/-! ===== the law: the end of a case ===== -/
theorem lg_cmp_same {x : Int64} : lg_cmp x x = 0 := by simp [lg_cmp]
theorem gLM_R : gLM (gLvR 34) := gLM_34
section LT
variable {p : Program} {l : Launch} {e : Env} {s : State} {m : MethodId} {below : List Frame} {meth : Method} {c : Code} {H : Heap} {locs : List Loc} {cells slots : Nat} {Q : State → Prop}
variable {ls : Array Slot} {G : gG} {A : Nat → Prop} {adC adM : gAd} {b : Nat}
set_option maxRecDepth 100000 in
theorem law_tail {D N : gCT} {k : Nat} {q : Int32} {t0 i : Nat} (X : gX p s m #[.ref b] c cL_law RL 7 G A) (hw : gT2 G A s.heap H locs (gLvO D) adC (gF G D adC) (gLvR 34) adM (gF G N adM)) (hI : gInv D) (hB : MBI N) (hk31 : k < 4) (h3 : N 20 0 3 = nI k) (h22 : k = 0 → D 22 0 0 = q) (hc : cells ≤ 601024) (hs : slots ≤ 7293033)
    (d0 : decode cL_law t0 = .ok (.aload_n 2, 1)) (d1 : decode cL_law (t0 + 1) = .ok (.invokevirtual 105, 3)) (d4 : decode cL_law (t0 + 4) = .ok (.iload 5, 2)) (d6 : decode cL_law (t0 + 6) = .ok (.if_icmp .eq 5, 3)) (d11 : decode cL_law (t0 + 11) = .ok (.iload 5, 2)) (d13 : decode cL_law (t0 + 13) = .ok (.ifCond .ne 15, 3))
    (d16 : decode cL_law (t0 + 16) = .ok (.aload_n 3, 1)) (d17 : decode cL_law (t0 + 17) = .ok (.iconst 0, 1)) (d18 : decode cL_law (t0 + 18) = .ok (.laload, 1)) (d19 : decode cL_law (t0 + 19) = .ok (.iload 6, 2)) (d21 : decode cL_law (t0 + 21) = .ok (.i2l, 1)) (d22 : decode cL_law (t0 + 22) = .ok (.lcmp, 1)) (d23 : decode cL_law (t0 + 23) = .ok (.ifCond .eq 5, 3))
    (hl : lv_has ls 7 [(6, .int q), (5, .int (nI k)), (4, .int (nI i)), (0, .ref b), (1, .ref (adC 0 0)), (2, .ref (adM 20 0)), (3, .ref (adC 22 0))])
    (kk : ∀ (H1 : Heap) (locs1 : List Loc), gT2 G A s.heap H1 locs1 (gLvO D) adC (gF G D adC) (gLvR 34) adM (gF G N adM) → W p l e room_1 s m #[.ref b] below meth c H1 locs1 cells slots Q (F0 m (t0 + 28) ls [])) :
    W p l e room_1 s m #[.ref b] below meth c H locs cells slots Q (F0 m t0 ls []) := by
  have hx := X.1.1
  have hb := X.1.2.1
  refine lv_aload_n hx hb d0 rfl (lv_at hl 5 rfl) ?_
  refine t_q X hw (r_runV X (c_q_thrown l G _ adM N gLM_R hB _) cy_X6_thrown ml_RL_105 ⟨(Nat.le_of_ble_eq_true rfl), (Nat.le_of_ble_eq_true rfl)⟩ gP.blind (g_recv X hw.wm 20 0 gLM_R.1 rfl rfl) (gP_call X hw.wm _) rfl hl.1 rfl (Nat.le_of_ble_eq_true rfl) d1 ⟨hc, hs⟩) (fun H1 locs1 _ hw => ?_)
  refine lv_iload hx hb d4 (lv_at hl 1 rfl) ?_
  refine lv_icmp_eq (tgt := t0 + 11) hx hb d6 (by omega) (fun _ => ?_) (fun h => absurd h3 h)
  refine lv_iload hx hb d11 (lv_at hl 1 rfl) ?_
  refine lv_if_ne (tgt := t0 + 28) hx hb d13 (by omega) (fun _ => kk _ _ hw) (fun h => ?_)
  have hk0 : k = 0 := (nI_eq (by omega) (by omega)).mp (show nI k = nI 0 from h)
  refine lv_aload_n hx hb d16 rfl (lv_at hl 6 rfl) ?_
  refine lv_iconst (v := 0) hx hb d17 (by decide) ?_
  refine r_lald X hw.wc 22 0 (show gLvO D 22 0 from (rfl : (0 : Nat) = 0)) (N := 1) (f := fun j => (D 22 0 j).toInt64) rfl (show vp_in (nI 0) 1 from vp_in_nI (by decide) (by decide)) d18 ?_
  refine lv_iload hx hb d19 (lv_at hl 0 rfl) ?_
  refine lv_i2l hx hb (v := q.toInt64) d21 rfl ?_
  refine W.lcmp hx hb d22 ?_
  refine lv_if_eq (tgt := t0 + 28) hx hb d23 (by omega) (fun _ => kk _ _ hw) (fun h => absurd ?_ h)
  have e0 : (0 : Int32).toNatClampNeg = 0 := by decide
  rw [e0, h22 hk0]
  exact lg_cmp_same
end LT

/-! ===== the script's numbers ===== -/
def m_cell (xs : Nat → Int32) (L : Nat) (i : Int32) : Int32 := (if i < nI L then xs i.toNatClampNeg else 55001 * (i - i / 6763 * 6763) + 2609) &&& 2147483647
theorem m_cell_nat (xs : Nat → Int32) (L : Nat) (i : Int32) : ∃ Y : Nat, Y < 2 ^ 31 ∧ m_cell xs L i = nI Y := pk_andE _ 31 (by decide)
set_option maxHeartbeats 4000000 in
theorem c_cell (l : Launch) (b L k : Nat) (xs : Nat → Int32) (hL : L < 2 ^ 31) (hk : k < 2 ^ 31) : gMp l yL_cell cL_cell 2 (some .int) (gRm 0 0 0 0) [.ref b, .int (nI k)] (fun U => gArr U U.heap b L xs) (some (.int (m_cell xs L (nI k)))) := by
  refine r_metp (own := RL) (by decide) rfl (Nat.le_of_ble_eq_true rfl) ?_
  intro p e s m below meth c ls X0 hA hr hlk hl
  obtain ⟨hx, hb, hml, hown, hts⟩ := X0
  obtain ⟨cell, a1, a2, a3, a4, a5, a6⟩ := hA
  have hl : lv_has ls 2 [(0, .ref b), (1, .int (nI k))] := hl
  refine lv_iload_n hx hb dL_cell_0 rfl (lv_at hl 1 rfl) ?_
  refine lv_aload_n hx hb dL_cell_1 rfl (lv_at hl 0 rfl) ?_
  refine W.alen (n := Int32.ofNat L) hx hb a1 a2 a5 rfl rfl dL_cell_2 ?_
  refine W.eq (g2 := F0 m 3 ls [.int (Int32.ofNat L), .int (nI k)]) rfl ?_
  refine lv_icmp_ge (tgt := 12) hx hb dL_cell_3 (by decide) (fun h2 => ?_) (fun h2 => ?_)
  · refine lv_ldc (v := 55001) hx hb hown (hts _ lc_RL_7) dL_cell_12 ?_
    refine lv_iload_n hx hb dL_cell_14 rfl (lv_at hl 1 rfl) ?_
    refine lv_sipush (v := 6763) hx hb dL_cell_15 (by decide) ?_
    refine lv_irem hx hb dL_cell_18 (by decide) ?_
    refine lv_imul hx hb dL_cell_19 ?_
    refine lv_sipush (v := 2609) hx hb dL_cell_20 (by decide) ?_
    refine lv_iadd hx hb dL_cell_23 ?_
    refine lv_ldc (v := 2147483647) hx hb hown (hts _ lc_RL_8) dL_cell_24 ?_
    refine lv_iand hx hb dL_cell_26 ?_
    refine r_piret hx hb hr rfl hlk ?_ dL_cell_27
    unfold m_cell
    rw [if_neg (fun z => absurd h2 (fun q => by
      have h3 := (nat_lt rfl rfl hk hL).mp z
      have h4 := (nat_le rfl rfl hL hk).mp q
      omega))]
  · refine lv_aload_n hx hb dL_cell_6 rfl (lv_at hl 0 rfl) ?_
    refine lv_iload_n hx hb dL_cell_7 rfl (lv_at hl 1 rfl) ?_
    have hkL : k < L := Nat.not_le.mp (fun q => h2 ((nat_le rfl rfl hL hk).mpr q))
    refine W.iald (v := .int (xs k)) hx hb a1 a2 a3 (by rw [nI_clamp hk]; exact fun q => q.elim (nI_pos hk) (fun q => absurd (Nat.le_trans a4 q) (Nat.not_le.mpr hkL))) (by rw [nI_clamp hk]; exact a6 k hkL) rfl rfl dL_cell_8 ?_
    refine W.eq (g2 := F0 m 9 ls [.int (xs k)]) rfl ?_
    refine lv_goto (tgt := 24) hx hb dL_cell_9 (by decide) ?_
    refine lv_ldc (v := 2147483647) hx hb hown (hts _ lc_RL_8) dL_cell_24 ?_
    refine lv_iand hx hb dL_cell_26 ?_
    refine r_piret hx hb hr rfl hlk ?_ dL_cell_27
    unfold m_cell
    rw [if_pos ((nat_lt rfl rfl hk hL).mpr hkL), nI_clamp hk]
section GT
variable {p : Program} {l : Launch} {e : Env} {R : Room} {s : State} {m : MethodId} {args : Array Value} {below : List Frame} {meth : Method} {c : Code} {H : Heap} {locs : List Loc} {cells slots : Nat} {Q : State → Prop}
variable {cc : ByteArray} {nL pc idx : Nat} {ls : Array Slot} {rest : List Value} {G : gG} {A : Nat → Prop} {a0 : Nat} {bb : Nat → Nat}
theorem t_cell {C : gCT} {b L k : Nat} {xs : Nat → Int32} (X : gX p s m args c cc RL nL G A) (hX : va_X b L xs s s.heap) (hbl : b < s.heap.size) (hbA : ¬ A b) (hL : L < 2 ^ 31) (hk : k < 2 ^ 31) (hw : tW G A s.heap H locs C a0 bb) (hml : Cond.methodLink RL idx yL_cell ∈ gwl) (hR : 1 ≤ R.frames ∧ 21 ≤ R.locals) (hsz : ls.size = nL) (hW : (rest.map fun v => v.category).sum ≤ 8) (hdg : decode cc pc = .ok (.invokestatic idx, 3)) (hc : cells ≤ R.cells) (hs : slots ≤ R.slots)
    (kk : ∀ Y : Nat, Y < 2 ^ 31 → W p l e R s m args below meth c H locs cells slots Q (F0 m (pc + 3) ls (.int (nI Y) :: rest))) : W p l e R s m args below meth c H locs cells slots Q (F0 m pc ls (.int (nI k) :: .ref b :: rest)) := by
  obtain ⟨Y, hY, eY⟩ := m_cell_nat xs L (nI k)
  obtain ⟨ad, h0, h1, hw⟩ := hw
  refine r_rp (r_runS X (c_cell l b L k xs hL hk) cy_L_cell hml ⟨hR.1, hR.2⟩ gArr_blind (fun U hU hW => ⟨rfl, ?_⟩) rfl hsz rfl hW hdg ⟨hc, hs⟩) ?_
  · obtain ⟨scr, g1, g2, g3, g4, g5⟩ := hX
    rw [hU]
    have hg : gArr s H b L xs := ⟨scr, (hw.2.2.1 b hbl hbA).trans g1, g2, g3, Nat.le_of_eq g4.symm, congrArg Nat.toInt32 g4, g5⟩
    exact hg.warm hW
  · rw [eY]; exact kk Y hY
end GT

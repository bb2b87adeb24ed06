/-! ===== System.arraycopy between two rows of ints of the world ===== -/
theorem ac_nat : Cond.native arraycopyName ∈ gwl := gwl_of (by decide +kernel) rfl
theorem ac_st : Cond.static arraycopyName ∈ gwl := gwl_of (by decide +kernel) rfl
theorem ac_ini : Cond.initialized "java/lang/System" ∈ gwl := gwl_of (by decide +kernel) rfl
theorem ml_RX4_62 : Cond.methodLink RX4 62 arraycopyName ∈ gwl := gwl_of (by decide +kernel) rfl
theorem nn_I (z : Int32) (hz : ¬ z < 0) : z.toInt = (z.toNatClampNeg : Int) := by
  have hz0 : (0 : Int) ≤ z.toInt := by
    have := Int32.not_lt.mp hz
    simpa using Int32.le_iff_toInt_le.mp this
  show z.toInt = ((z.toInt.toNat : Nat) : Int)
  omega
section GCP
variable {p : Program} {l : Launch} {e : Env} {R : Room} {s : State} {m : MethodId} {args : Array Value} {below : List Frame} {meth : Method} {c : Code} {H : Heap} {locs : List Loc} {cells slots : Nat} {Q : State → Prop}
variable {cc : ByteArray} {own : String} {nL pc : Nat} {ls : Array Slot} {rest : List Value} {G : gG} {A : Nat → Prop} {lv : gLv} {ad : gAd} {con : gCn}
theorem r_copyi (X : gX p s m args c cc own nL G A) (hw : gW G A s.heap H locs lv ad con) (κ0 k0 κ1 k1 : Nat) (hl0 : lv κ0 k0) (hl1 : lv κ1 k1) {n0 n1 : Nat} {f g : Nat → Int32} (he0 : con κ0 k0 = .inl (G.2.1, n0, .inl f)) (he1 : con κ1 k1 = .inl (G.2.1, n1, .inl g)) {idx : Nat} (hlink : Cond.methodLink own idx arraycopyName ∈ gwl) (hml : nL = ls.size)
    {sp dp n : Int32} (h1 : ¬ sp < 0) (h2 : ¬ dp < 0) (h3 : ¬ n < 0) (h4 : sp.toNatClampNeg + n.toNatClampNeg ≤ n0) (h5 : dp.toNatClampNeg + n.toNatClampNeg ≤ n1)
    (hframes : 1 ≤ R.frames) (hlocals : (rest.map fun v => v.category).sum + (nativeFrameWords "java/lang/System" "arraycopy" 5 + 11) ≤ R.locals) (hdg : decode cc pc = .ok (.invokestatic idx, 3))
    (kk : ∀ (H : Heap) (locs : List Loc), gW G A s.heap H locs lv ad (g2 con κ1 k1 (.inl (G.2.1, n1, .inl (va_cpy f g sp.toNatClampNeg dp.toNatClampNeg n.toNatClampNeg)))) → W p l e R s m args below meth c H locs cells slots Q (F0 m (pc + 3) ls rest)) : W p l e R s m args below meth c H locs cells slots Q (F0 m pc ls (.int n :: .int dp :: .ref (ad κ1 k1) :: .int sp :: .ref (ad κ0 k0) :: rest)) := by
  have hts := X.1.2.2.2.2
  have hc0 : H[ad κ0 k0]? = some (vp_cell G.2.1 (n0, .inl f)) := hw.1.one hl0 he0 0 _ rfl
  have hc1 : H[ad κ1 k1]? = some (vp_cell G.2.1 (n1, .inl g)) := hw.1.one hl1 he1 0 _ rfl
  intro T hT X0
  obtain ⟨-, q0, hq0, cm0, hkk0⟩ := (X.2.1.2 0 _ rfl).1 n0 (fun j => .int (f j))
  obtain ⟨-, q1, hq1, cm1, hkk1⟩ := (X.2.1.2 0 _ rfl).1 n1 (fun j => .int (g j))
  obtain ⟨vm', X', step⟩ := X0.arraycopy X.1.1 X.1.2.2.2.1 (hts _ hlink) (hts _ ac_nat) (hts _ ac_st) (hts _ ac_ini) (src := ad κ0 k0) (dst := ad κ1 k1) (cs := vp_cell G.2.1 (n0, .inl f)) (cd := vp_cell G.2.1 (n1, .inl g)) (srcPos := sp) (destPos := dp) (n := n) (by rw [hT]; exact hc0) (by rw [hT]; exact hc1)
    (fun _ h => by cases h) (fun _ h => by cases h) (fun h => by cases h) (fun h => by cases h) hq0 hq1 hkk0 hkk1 (by simp [gT, refKind]) h1 h2 h3
    (by rw [nn_I sp h1, nn_I n h3]; show ¬ _ > ((arrV G.2.1 n0 (fun j => .int (f j))).slots.size : Int); rw [arrV_size]; omega)
    (by rw [nn_I dp h2, nn_I n h3]; show ¬ _ > ((arrV G.2.1 n1 (fun j => .int (g j))).slots.size : Int); rw [arrV_size]; omega)
    (fun vm₁ _ i hi => by
      have e : (vp_cell G.2.1 (n0, .inl f)).slots.getD (sp.toNatClampNeg + i) .null = .int (f (sp.toNatClampNeg + i)) := by
        show (arrV G.2.1 n0 (fun j => .int (f j))).slots.getD _ _ = _
        rw [Array.getD_eq_getD_getElem?, arrV_read _ _ (by omega)]
        rfl
      refine ⟨?_, ?_⟩
      · rw [e]; rfl
      · rw [e]; exact trivial)
    (g := F0 m pc ls (.int n :: .int dp :: .ref (ad κ1 k1) :: .int sp :: .ref (ad κ0 k0) :: rest)) rfl (by rw [X.1.2.2.1]; exact hml.symm) (rest := rest) rfl (by rw [X.1.2.1]; exact hdg) hframes (by show 2 * 0 + _ + _ ≤ _; omega)
  have e1 : copied (vp_cell G.2.1 (n0, .inl f)) (vp_cell G.2.1 (n1, .inl g)) sp dp n = vp_cell G.2.1 (n1, .inl (va_cpy f g sp.toNatClampNeg dp.toNatClampNeg n.toNatClampNeg)) := va_copied (fun z => .int z) G.2.1 G.2.1 f g h4
  rw [e1] at X' step
  have hl : ad κ1 k1 < H.size := hw.1.lt hl1
  have hheap : ((T.setVm vm').setCell (ad κ1 k1) (vp_cell G.2.1 (n1, .inl (va_cpy f g sp.toNatClampNeg dp.toNatClampNeg n.toNatClampNeg)))).heap = H.setIfInBounds (ad κ1 k1) (vp_cell G.2.1 (n1, .inl (va_cpy f g sp.toNatClampNeg dp.toNatClampNeg n.toNatClampNeg))) := by rw [← hT]; rfl
  have oq : ∀ q : Nat, q ≠ ad κ1 k1 → (H.setIfInBounds (ad κ1 k1) (vp_cell G.2.1 (n1, .inl (va_cpy f g sp.toNatClampNeg dp.toNatClampNeg n.toNatClampNeg))))[q]? = H[q]? := fun q hq => by simp [Array.getElem?_setIfInBounds, Ne.symm hq]
  obtain ⟨t, a1, b1⟩ := kk _ _ ⟨hw.1.set hl1 (e := .inl (G.2.1, n1, .inl (va_cpy f g sp.toNatClampNeg dp.toNatClampNeg n.toNatClampNeg))) (show (H.setIfInBounds (ad κ1 k1) _)[ad κ1 k1]? = some _ by simp [Array.getElem?_setIfInBounds, hl]) oq, by simp; exact hw.2.1, fun q g1 g2 => by
      rw [oq q (fun e => g2 (by rw [e]; exact hw.1.2.2 κ1 k1 hl1))]
      exact hw.2.2.1 q g1 g2, fun q hq => by
      rcases List.mem_append.mp hq with h | h
      · exact hw.2.2.2 q h
      · obtain ⟨z, -, hz⟩ := List.mem_map.mp h
        rw [← hz]
        exact hw.1.2.2 κ1 k1 hl1⟩ _ hheap X'
  exact ⟨t, step t a1, b1⟩
theorem s_copyi {C : gCT} (X : gX p s m args c cc own nL G A) (hw : gW G A s.heap H locs lv ad (gF G C ad)) (κ0 k0 κ1 k1 : Nat) (hl0 : lv κ0 k0) (hl1 : lv κ1 k1) {n0 n1 : Nat} (he0 : gF G C ad κ0 k0 = .inl (G.2.1, n0, .inl (C κ0 k0))) (hB1 : ∀ y, gB G κ1 k1 y ad = .inl (G.2.1, n1, .inl y)) {idx : Nat} (hlink : Cond.methodLink own idx arraycopyName ∈ gwl) (hml : nL = ls.size)
    {sp dp n : Int32} (h1 : ¬ sp < 0) (h2 : ¬ dp < 0) (h3 : ¬ n < 0) (h4 : sp.toNatClampNeg + n.toNatClampNeg ≤ n0) (h5 : dp.toNatClampNeg + n.toNatClampNeg ≤ n1)
    (hframes : 1 ≤ R.frames) (hlocals : (rest.map fun v => v.category).sum + (nativeFrameWords "java/lang/System" "arraycopy" 5 + 11) ≤ R.locals) (hdg : decode cc pc = .ok (.invokestatic idx, 3))
    (kk : ∀ (H : Heap) (locs : List Loc), gW G A s.heap H locs lv ad (gF G (g2 C κ1 k1 (va_cpy (C κ0 k0) (C κ1 k1) sp.toNatClampNeg dp.toNatClampNeg n.toNatClampNeg)) ad) → W p l e R s m args below meth c H locs cells slots Q (F0 m (pc + 3) ls rest)) : W p l e R s m args below meth c H locs cells slots Q (F0 m pc ls (.int n :: .int dp :: .ref (ad κ1 k1) :: .int sp :: .ref (ad κ0 k0) :: rest)) :=
  r_copyi X hw κ0 k0 κ1 k1 hl0 hl1 he0 (hB1 (C κ1 k1)) hlink hml h1 h2 h3 h4 h5 hframes hlocals hdg (fun H locs h => kk H locs (by rw [gF_set (hB1 _)] at h; exact h))
/-- a reference field of the state, told by a number -/
theorem s_putr {C : gCT} (X : gX p s m args c cc own nL G A) (hw : gW G A s.heap H locs lv ad (gF G C ad)) (κ n k j : Nat) (hl : lv κ n) {ci idx N : Nat} {C0 : String} {T : u_T} {ty : Nat → FieldType} {fs : List Value} {v : Int32} {a : Nat} (he : gF G C ad κ n = .inr (ci, fs)) (hv : gB G κ n (upd (C κ n) j v) ad = .inr (ci, fs.set k (.ref a))) (hc : gcl ci C0 T N ty) (hk : k < N) (hlen : k < fs.length)
    (hlink : Cond.fieldLink own idx (T k).1 (T k).2.1 (T k).2.2.1 ∈ gwl) (hfin : (T k).2.2.2 = false) (hty : narrow (ty k) (.ref a) = .ref a) (hfit : fits (ty k) (.ref a) = true) (hdg : decode cc pc = .ok (.putfield idx, 3))
    (kk : ∀ (H : Heap) (locs : List Loc), gW G A s.heap H locs lv ad (gF G (cs C κ n j v) ad) → W p l e R s m args below meth c H locs cells slots Q (F0 m (pc + 3) ls rest)) : W p l e R s m args below meth c H locs cells slots Q (F0 m pc ls (.ref a :: .ref (ad κ n) :: rest)) :=
  r_put X hw κ n k hl he rfl hc hk hlen hlink hfin hty hfit hdg (fun H locs h => kk H locs (by rw [gF_set hv] at h; exact h))
end GCP
theorem cs_o (C : gCT) (κ n : Nat) {j j' : Nat} (v : Int32) (h : j' ≠ j) : cs C κ n j v κ n j' = C κ n j' := by simp [cs, g2, upd, h]
theorem m_goOn_11 (C : gCT) (k r : Nat) (g : Int32) : m_goOn C k r g 11 = C 11 := m_goOn_keep C k r g 11 (by decide) (by decide) (by decide) (by decide)
theorem m_goOn_4 (C : gCT) (k r : Nat) (g : Int32) : m_goOn C k r g 4 = C 4 := m_goOn_keep C k r g 4 (by decide) (by decide) (by decide) (by decide)

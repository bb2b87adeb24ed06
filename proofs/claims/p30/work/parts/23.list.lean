/-! ===== rows of arrays of references; ArrayList.add ===== -/
abbrev gGC : MethodName := ⟨"java/lang/Object", "getClass", "()Ljava/lang/Class;"⟩
theorem fl_J_63 : Cond.fieldLink RJx4a65c 63 RJx4a65c "modCount" "I" ∈ gwl := gwl_of (by decide +kernel) rfl
theorem sf_J : Cond.sameField RJx4a65c "java/util/AbstractList" "modCount" "I" ∈ gwl := gwl_of (by decide +kernel) rfl
theorem fl_J_39 : Cond.fieldLink RJx4a65c 39 RJx4a65c "DEFAULTCAPACITY_EMPTY_ELEMENTDATA" "[Ljava/lang/Object;" ∈ gwl := gwl_of (by decide +kernel) rfl
theorem ml_J_131 : Cond.methodLink RJx4a65c 131 yJx4a65c_add_72be8 ∈ gwl := gwl_of (by decide +kernel) rfl
theorem ml_J_129 : Cond.methodLink RJx4a65c 129 yJx4a65c_grow_d5877 ∈ gwl := gwl_of (by decide +kernel) rfl
theorem ml_J_69 : Cond.methodLink RJx4a65c 69 yJx4a65c_grow_92f84 ∈ gwl := gwl_of (by decide +kernel) rfl
theorem ml_J_73 : Cond.methodLink RJx4a65c 73 yJ8_newLength_cabcc ∈ gwl := gwl_of (by decide +kernel) rfl
theorem ml_J_66 : Cond.methodLink RJx4a65c 66 yJ7_copyOf_1904c ∈ gwl := gwl_of (by decide +kernel) rfl
theorem ml_J_79 : Cond.methodLink RJx4a65c 79 Lib.Math.max.name ∈ gwl := gwl_of (by decide +kernel) rfl
theorem ml_RJ8_194 : Cond.methodLink RJ8 194 Lib.Math.max.name ∈ gwl := gwl_of (by decide +kernel) rfl
theorem lc_RJ8_200 : Cond.constant RJ8 200 2147483639 ∈ gwl := gwl_of (by decide +kernel) rfl
theorem ml_RJ7_300 : Cond.methodLink RJ7 300 yJ7_copyOf_6403c ∈ gwl := gwl_of (by decide +kernel) rfl
theorem ml_RJ7_304 : Cond.methodLink RJ7 304 Lib.Math.min.name ∈ gwl := gwl_of (by decide +kernel) rfl
theorem ml_RJ7_150 : Cond.methodLink RJ7 150 arraycopyName ∈ gwl := gwl_of (by decide +kernel) rfl
theorem ml_RJ7_86 : Cond.methodLink RJ7 86 gGC ∈ gwl := gwl_of (by decide +kernel) rfl
theorem cl_RJ7_110 : Cond.classLink RJ7 110 "[Ljava/lang/Object;" ∈ gwl := gwl_of (by decide +kernel) rfl
theorem cl_RJ7_2 : Cond.classLink RJ7 2 "java/lang/Object" ∈ gwl := gwl_of (by decide +kernel) rfl
theorem cl_J_7 : Cond.classLink RJx4a65c 7 "java/lang/Object" ∈ gwl := gwl_of (by decide +kernel) rfl
theorem gc_sel : Cond.selects "[Ljava/lang/Object;" gGC gGC ∈ gwl := gwl_of (by decide +kernel) rfl
theorem gc_inst : Cond.instanceMethod gGC ∈ gwl := gwl_of (by decide +kernel) rfl
theorem gc_nat : Cond.native gGC ∈ gwl := gwl_of (by decide +kernel) rfl
theorem lNxt_of : ∀ cap : Nat, cap < 1400 → 0 < cap → nI cap + (if (1 : Int32) < nI cap >>> ((1 : Int32) &&& 31) then nI cap >>> ((1 : Int32) &&& 31) else 1) = nI (if cap = 0 then 10 else cap + max 1 (cap / 2)) := by decide +kernel
def lNxt (cap : Nat) : Nat := if cap = 0 then 10 else cap + max 1 (cap / 2)
theorem lNxt_le {cap : Nat} (h : cap < 1400) : cap < lNxt cap ∧ lNxt cap ≤ 2100 := by
  unfold lNxt
  split <;> omega
theorem g2_g2 {α : Type} (f : Nat → Nat → α) (κ n : Nat) (x y : α) : g2 (g2 f κ n x) κ n y = g2 f κ n y := by
  funext a b
  by_cases h : a = κ ∧ b = n
  · simp [g2, h]
  · simp [g2, h]
section GQR
variable {p : Program} {l : Launch} {e : Env} {R : Room} {s : State} {m : MethodId} {args : Array Value} {below : List Frame} {meth : Method} {c : Code} {H : Heap} {locs : List Loc} {cells slots : Nat} {Q : State → Prop}
variable {cc : ByteArray} {own : String} {nL pc : Nat} {ls : Array Slot} {rest : List Value} {G : gG} {A : Nat → Prop} {lv : gLv} {ad : gAd} {con : gCn}
/-- a field told under a heir's name -/
theorem r_get2 (X : gX p s m args c cc own nL G A) (hw : gW G A s.heap H locs lv ad con) (κ n k : Nat) (hl : lv κ n) {ci idx N : Nat} {C ref : String} {T : u_T} {ty : Nat → FieldType} {fs : List Value} {v : Value} (he : con κ n = .inr (ci, fs)) (hv : fs[k]? = some v) (hc : gcl ci C T N ty) (hk : k < N)
    (hlink : Cond.fieldLink own idx ref (T k).2.1 (T k).2.2.1 ∈ gwl) (hsame : Cond.sameField ref (T k).1 (T k).2.1 (T k).2.2.1 ∈ gwl) (hdg : decode cc pc = .ok (.getfield idx, 3))
    (kk : W p l e R s m args below meth c H locs cells slots Q (F0 m (pc + 3) ls (v :: rest))) : W p l e R s m args below meth c H locs cells slots Q (F0 m pc ls (.ref (ad κ n) :: rest)) :=
  va_get (Ts := gwl) X.1.1 X.1.2.1 X.1.2.2.2.2 hc.2.1 X.1.2.2.2.1 X.2.1 (hw.1.one hl he) 0 rfl hc.1 k hk (X.1.2.2.2.2 _ hlink) (fun x h => u_same (X.1.2.2.2.2 _ hsame) x h) hv hdg kk
theorem r_put2 (X : gX p s m args c cc own nL G A) (hw : gW G A s.heap H locs lv ad con) (κ n k : Nat) (hl : lv κ n) {ci idx N : Nat} {C ref : String} {T : u_T} {ty : Nat → FieldType} {fs fs' : List Value} {v : Value} (he : con κ n = .inr (ci, fs)) (hv : fs.set k v = fs') (hc : gcl ci C T N ty) (hk : k < N) (hlen : k < fs.length)
    (hlink : Cond.fieldLink own idx ref (T k).2.1 (T k).2.2.1 ∈ gwl) (hsame : Cond.sameField ref (T k).1 (T k).2.1 (T k).2.2.1 ∈ gwl) (hfin : (T k).2.2.2 = false) (hn : narrow (ty k) v = v) (hfit : fits (ty k) v = true) (hdg : decode cc pc = .ok (.putfield idx, 3))
    (kk : ∀ (H : Heap) (locs : List Loc), gW G A s.heap H locs lv ad (g2 con κ n (.inr (ci, fs'))) → W p l e R s m args below meth c H locs cells slots Q (F0 m (pc + 3) ls rest)) : W p l e R s m args below meth c H locs cells slots Q (F0 m pc ls (v :: .ref (ad κ n) :: rest)) := by
  subst hv
  have hts := X.1.2.2.2.2
  have hap := va_apart (own := own) hts hc.2.1 ty hc.2.2.1 hc.2.2.2 X.2.1 hc.1
  obtain ⟨r, h1, cell, q1, q2, q3, q4⟩ := (hw.1.one hl he) 0 _ rfl
  have hr : r = (C, T, N) := Option.some.inj (h1.symm.trans hc.1)
  subst hr
  obtain ⟨hS, hfc, kC, hkC, hkind⟩ := X.2.1.1 ci _ hc.1
  obtain ⟨cf, kf, fi, f, hi, hsl⟩ := hS k hk
  have hlay := hts _ (hc.2.1 _ (u_in_lay hk))
  unfold u_lay at hlay
  rw [if_neg (by rw [hfin]; decide)] at hlay
  have hst := (u_facts hfc hkC (u_lays hts hc.2.1 hk) hi).1
  have h6 := u_store hfc hkC hkind hlay hi (hc.2.2.1 k hk) hn hfit
  refine W.putK X.1.1 X.1.2.1 (f := f) ⟨X.1.2.2.2.1, hts _ hlink, ⟨_, _, _, u_same (hts _ hsame) _ hi⟩, hst⟩ (by rw [q2]; exact h6) q1 q3 (by rw [hsl]; exact k2_hasslot (q4 k hk)) rfl rfl hdg fun H' e1 e2 e3 => ?_
  rw [hsl] at e1 ⊢
  exact kk H' _ ⟨hw.1.set hl ⟨_, hc.1, t_OB.to (V := updV (vp_V fs) k v) ⟨_, e1, q2, q3, t_set q4 hap hk v⟩ (fun j _ => vp_updV_set hlen v j)⟩ e3, hw.2.put e2 e3 (hw.1.2.2 κ n hl)⟩
/-- a new array of references -/
theorem r_newq (X : gX p s m args c cc own nL G A) (hw : gW G A s.heap H locs lv ad con) (κ n : Nat) (hl : ¬ lv κ n) (t0 : Nat) {cA : ClassId} {E : String} (ht : (gT G)[t0]? = some (cA, .object E)) (hover : va_AO E s) {z : Int32} {N idx : Nat} (hn : ¬ z < 0) (hN : z.toNatClampNeg = N) (hbytes : N * 4 ≤ 536870912)
    (h1 : Cond.classLink own idx E ∈ gwl) (hcells : cells + 1 ≤ R.cells) (hslots : slots + N ≤ R.slots) (hdg : decode cc pc = .ok (.anewarray idx, 3))
    (kk : ∀ (q : Nat) (H1 : Heap), s.heap.size ≤ q → gW G A s.heap H1 locs (g2 lv κ n True) (g2 ad κ n q) (g2 con κ n (.inl (cA, N, .inr (.inr (.inr (.inr (fun _ => none))))))) → W p l e R s m args below meth c H1 locs (cells + 1) (slots + N) Q (F0 m (pc + 3) ls (.ref q :: rest))) : W p l e R s m args below meth c H locs cells slots Q (F0 m pc ls (.int z :: rest)) := by
  subst hN
  refine W.anew X.1.1 X.1.2.1 X.1.2.2.2.1 (X.1.2.2.2.2 _ h1) (va_AO.use hover) rfl hdg rfl hn hbytes hcells hslots fun cA' kA comp f1 f2 f3 f4 => ?_
  obtain ⟨kA', comp', k1, k2, k3, k4⟩ := (X.2.1.2 t0 _ ht).2
  have hcA : cA' = cA := Option.some.inj (f1.symm.trans k4)
  subst hcA
  have hb : s.heap.size ≤ H.size := hw.2.1
  have o1 : ∀ x : Nat, x < H.size → (H.push ({ cls := cA', slots := Array.replicate z.toNatClampNeg .null, vm := .none } : Cell))[x]? = H[x]? := fun x hx => by rw [Array.getElem?_push, if_neg (Nat.ne_of_lt hx)]
  refine kk H.size _ hb ⟨hw.1.push hl (Nat.le_refl _) ?_ o1 (X.2.2.2.2 _ hb), by rw [Array.size_push]; omega, fun x h1 h2 => (o1 x (Nat.lt_of_lt_of_le h1 hb)).trans (hw.2.2.1 x h1 h2), hw.2.2.2⟩
  show (H.push _)[H.size]? = some (vp_cell _ _)
  rw [vp_cell_q, Array.getElem?_push_size, arrV_new]
  rfl
/-- a reference is stored into an array of references -/
theorem r_astq (X : gX p s m args c cc own nL G A) (hw : gW G A s.heap H locs lv ad con) (κ n : Nat) (hl : lv κ n) (t0 : Nat) {cA : ClassId} {E : String} (ht : (gT G)[t0]? = some (cA, .object E)) {N : Nat} {f : Nat → Option Nat} (he : con κ n = .inl (cA, N, .inr (.inr (.inr (.inr f))))) (κv nv : Nat) (hlv : lv κv nv) {ci : Nat} {fs : List Value} {r : vw_C} (hev : con κv nv = .inr (ci, fs)) (hc : vwCl[ci]? = some r)
    (hasg : ∀ comp c0 : ClassId, s.vm.findClass E = some comp → s.vm.findClass r.1 = some c0 → s.vm.assignable c0 comp = true) {i : Int32} (hin : vp_in i N) (hdg : decode cc pc = .ok (.aastore, 1))
    (kk : ∀ (H : Heap) (locs : List Loc), gW G A s.heap H locs lv ad (g2 con κ n (.inl (cA, N, .inr (.inr (.inr (.inr (va_up f i.toNatClampNeg (some (ad κv nv)))))))))  → W p l e R s m args below meth c H locs cells slots Q (F0 m (pc + 1) ls rest)) : W p l e R s m args below meth c H locs cells slots Q (F0 m pc ls (.ref (ad κv nv) :: .int i :: .ref (ad κ n) :: rest)) := by
  have hlt : i.toNatClampNeg < N := Nat.not_le.mp fun q => hin (Or.inr q)
  have h0 : ¬ i < 0 := fun q => hin (Or.inl q)
  obtain ⟨r', hr', cellV, g1, g2', g3, -⟩ := (hw.1.one hlv hev) 0 _ rfl
  have hcls := (X.2.1.1 ci r hc).2
  obtain ⟨kA, comp, k1, k2, k3, -⟩ := (X.2.1.2 t0 _ ht).2
  obtain ⟨kE, hkE, -⟩ := Vm.findClass_spec k3
  obtain ⟨kC, hkC, -⟩ := hcls.2
  refine W.aast X.1.1 X.1.2.1 ((hw.1.one hl he) 0 _ rfl) (fun q h => by cases h) (fun h => by cases h) k1 k2 rfl hkE ⟨h0, by show _ < (arrV _ _ _).slots.size; rw [arrV_size]; exact hlt⟩ g1 (fun q h => by rw [g3] at h; cases h) (by rw [g2']; exact hkC) (by rw [g2']; exact hasg _ _ k3 hcls.1) rfl rfl hdg fun H1 e z oq => ?_
  refine kk H1 _ ⟨hw.1.set hl ?_ oq, hw.2.put z oq (hw.1.2.2 κ n hl)⟩
  show H1[ad κ n]? = some (vp_cell _ _)
  rw [e]
  show some ((vp_cell _ _).setSlot _ _) = _
  rw [vp_cell_q, vp_cell_q, arrV_store]
  congr 2
  funext q
  by_cases hq : q = i.toNatClampNeg
  · subst hq
    simp [updV, va_up, va_rf]
  · simp [updV, va_up, hq]
/-- every one that is told is of a class that is Object's heir -/
def gHeir (lv : gLv) (ad : gAd) (con : gCn) (f : Nat → Option Nat) (n : Nat) : Prop := ∀ i : Nat, i < n → ∀ y : Nat, f i = some y → ∃ (κ m ci : Nat) (fs : List Value) (r : vw_C), lv κ m ∧ y = ad κ m ∧ con κ m = .inr (ci, fs) ∧ vwCl[ci]? = some r ∧ (r.1, "java/lang/Object") ∈ gCast
theorem r_copyq (X : gX p s m args c cc own nL G A) (hw : gW G A s.heap H locs lv ad con) (κ0 k0 κ1 k1 : Nat) (hl0 : lv κ0 k0) (hl1 : lv κ1 k1) {n0 n1 : Nat} {f g : Nat → Option Nat} (he0 : con κ0 k0 = .inl (G.2.2.2.2.1, n0, .inr (.inr (.inr (.inr f))))) (he1 : con κ1 k1 = .inl (G.2.2.2.2.1, n1, .inr (.inr (.inr (.inr g))))) {idx : Nat} (hlink : Cond.methodLink own idx arraycopyName ∈ gwl) (hml : nL = ls.size)
    {sp dp n : Int32} (h1 : ¬ sp < 0) (h2 : ¬ dp < 0) (h3 : ¬ n < 0) (h4 : sp.toNatClampNeg + n.toNatClampNeg ≤ n0) (h5 : dp.toNatClampNeg + n.toNatClampNeg ≤ n1) (hel : gHeir lv ad con (fun i => f (sp.toNatClampNeg + i)) n.toNatClampNeg)
    (hframes : 1 ≤ R.frames) (hlocals : (rest.map fun v => v.category).sum + (nativeFrameWords "java/lang/System" "arraycopy" 5 + 11) ≤ R.locals) (hdg : decode cc pc = .ok (.invokestatic idx, 3))
    (kk : ∀ (H : Heap) (locs : List Loc), gW G A s.heap H locs lv ad (g2 con κ1 k1 (.inl (G.2.2.2.2.1, n1, .inr (.inr (.inr (.inr (va_cpy f g sp.toNatClampNeg dp.toNatClampNeg n.toNatClampNeg))))))) → W p l e R s m args below meth c H locs cells slots Q (F0 m (pc + 3) ls rest)) : W p l e R s m args below meth c H locs cells slots Q (F0 m pc ls (.int n :: .int dp :: .ref (ad κ1 k1) :: .int sp :: .ref (ad κ0 k0) :: rest)) := by
  have hts := X.1.2.2.2.2
  have hc0 : H[ad κ0 k0]? = some (vp_cell G.2.2.2.2.1 (n0, .inr (.inr (.inr (.inr f))))) := hw.1.one hl0 he0 0 _ rfl
  have hc1 : H[ad κ1 k1]? = some (vp_cell G.2.2.2.2.1 (n1, .inr (.inr (.inr (.inr g))))) := hw.1.one hl1 he1 0 _ rfl
  intro T hT X0
  obtain ⟨-, q0, hq0, cm0, hkk0⟩ := (X.2.1.2 3 _ rfl).1 n0 (fun j => va_rf (f j))
  obtain ⟨-, q1, hq1, cm1, hkk1⟩ := (X.2.1.2 3 _ rfl).1 n1 (fun j => va_rf (g j))
  obtain ⟨vm', X', step⟩ := X0.arraycopy X.1.1 X.1.2.2.2.1 (hts _ hlink) (hts _ ac_nat) (hts _ ac_st) (hts _ ac_ini) (src := ad κ0 k0) (dst := ad κ1 k1) (cs := vp_cell G.2.2.2.2.1 (n0, .inr (.inr (.inr (.inr f))))) (cd := vp_cell G.2.2.2.2.1 (n1, .inr (.inr (.inr (.inr g))))) (srcPos := sp) (destPos := dp) (n := n) (by rw [hT]; exact hc0) (by rw [hT]; exact hc1)
    (fun _ h => by cases h) (fun _ h => by cases h) (fun h => by cases h) (fun h => by cases h) hq0 hq1 hkk0 hkk1 rfl h1 h2 h3
    (by rw [nn_I sp h1, nn_I n h3]; show ¬ _ > ((arrV G.2.2.2.2.1 n0 (fun j => va_rf (f j))).slots.size : Int); rw [arrV_size]; omega)
    (by rw [nn_I dp h2, nn_I n h3]; show ¬ _ > ((arrV G.2.2.2.2.1 n1 (fun j => va_rf (g j))).slots.size : Int); rw [arrV_size]; omega)
    (fun vm₁ hal i hi => by
      have e : (vp_cell G.2.2.2.2.1 (n0, .inr (.inr (.inr (.inr f))))).slots.getD (sp.toNatClampNeg + i) .null = va_rf (f (sp.toNatClampNeg + i)) := by
        show (arrV G.2.2.2.2.1 n0 (fun j => va_rf (f j))).slots.getD _ _ = _
        rw [Array.getD_eq_getD_getElem?, arrV_read _ _ (by omega)]
        rfl
      rw [e]
      cases hy : f (sp.toNatClampNeg + i) with
      | none => exact ⟨rfl, trivial⟩
      | some y =>
        obtain ⟨κ, mm, ci, fs, r, z1, z2, z3, z4, z5⟩ := hel i hi y hy
        obtain ⟨r', hr', cellV, g1, g2', g3, -⟩ := (hw.1.one z1 z3) 0 _ rfl
        have hcls := (X.2.1.1 ci r z4).2
        obtain ⟨kA, comp, r1, r2, r3, -⟩ := (X.2.1.2 3 _ rfl).2
        cases hq1.symm.trans r1
        cases hkk1.symm.trans r2
        obtain ⟨kC, hkC, -⟩ := hcls.2
        obtain ⟨kE, hkE, -⟩ := Vm.findClass_spec r3
        obtain ⟨kC', hkC', -⟩ := hal.2.2 _ _ hkC
        obtain ⟨kE', hkE', -⟩ := hal.2.2 _ _ hkE
        obtain ⟨c0, t1, f1, f2, f3⟩ := Cond.castable_spec (va_Nw.use (A := args) rfl (X.2.2.1.2.1 _ z5))
        cases hcls.1.symm.trans f1
        cases r3.symm.trans f2
        refine ⟨rfl, cellV, (show T.heap[y]? = some cellV by rw [hT, z2]; exact g1), (fun q h => by rw [g3] at h; cases h), ⟨kC', by rw [g2']; exact hkC'⟩, ?_, ?_⟩
        · exact ⟨kE', hkE'⟩
        · show vm₁.assignable _ _ = true
          rw [hal.assignable, g2']
          exact f3)
    (g := F0 m pc ls (.int n :: .int dp :: .ref (ad κ1 k1) :: .int sp :: .ref (ad κ0 k0) :: rest)) rfl (by rw [X.1.2.2.1]; exact hml.symm) (rest := rest) rfl (by rw [X.1.2.1]; exact hdg) hframes (by show 2 * 0 + _ + _ ≤ _; omega)
  have e1 : copied (vp_cell G.2.2.2.2.1 (n0, .inr (.inr (.inr (.inr f))))) (vp_cell G.2.2.2.2.1 (n1, .inr (.inr (.inr (.inr g))))) sp dp n = vp_cell G.2.2.2.2.1 (n1, .inr (.inr (.inr (.inr (va_cpy f g sp.toNatClampNeg dp.toNatClampNeg n.toNatClampNeg))))) := by
    rw [vp_cell_q, vp_cell_q, vp_cell_q]
    exact va_copied (fun z => va_rf z) G.2.2.2.2.1 G.2.2.2.2.1 f g h4
  rw [e1] at X' step
  have hl : ad κ1 k1 < H.size := hw.1.lt hl1
  have hheap : ((T.setVm vm').setCell (ad κ1 k1) (vp_cell G.2.2.2.2.1 (n1, .inr (.inr (.inr (.inr (va_cpy f g sp.toNatClampNeg dp.toNatClampNeg n.toNatClampNeg))))))).heap = H.setIfInBounds (ad κ1 k1) (vp_cell G.2.2.2.2.1 (n1, .inr (.inr (.inr (.inr (va_cpy f g sp.toNatClampNeg dp.toNatClampNeg n.toNatClampNeg)))))) := by rw [← hT]; rfl
  have oq : ∀ q : Nat, q ≠ ad κ1 k1 → (H.setIfInBounds (ad κ1 k1) (vp_cell G.2.2.2.2.1 (n1, .inr (.inr (.inr (.inr (va_cpy f g sp.toNatClampNeg dp.toNatClampNeg n.toNatClampNeg)))))))[q]? = H[q]? := fun q hq => by simp [Array.getElem?_setIfInBounds, Ne.symm hq]
  obtain ⟨t, a1, b1⟩ := kk _ _ ⟨hw.1.set hl1 (e := .inl (G.2.2.2.2.1, n1, .inr (.inr (.inr (.inr (va_cpy f g sp.toNatClampNeg dp.toNatClampNeg n.toNatClampNeg)))))) (show (H.setIfInBounds (ad κ1 k1) _)[ad κ1 k1]? = some _ by simp [Array.getElem?_setIfInBounds, hl]) oq, by simp; exact hw.2.1, fun q g1 g2 => by
      rw [oq q (fun e => g2 (by rw [e]; exact hw.1.2.2 κ1 k1 hl1))]
      exact hw.2.2.1 q g1 g2, fun q hq => by
      rcases List.mem_append.mp hq with h | h
      · exact hw.2.2.2 q h
      · obtain ⟨z, -, hz⟩ := List.mem_map.mp h
        rw [← hz]
        exact hw.1.2.2 κ1 k1 hl1⟩ _ hheap X'
  exact ⟨t, step t a1, b1⟩
end GQR

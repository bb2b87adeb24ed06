/-! ===== the world that the law begins in ===== -/
theorem P_T {s : State} {args : Array Value} {A : Nat → Prop} (hA : ∀ a : Nat, a < s.heap.size → ¬ A a) {nm : String} {ty : FieldType} {d : String} {C : String} {N : Nat} {f : Nat → Value} (hN : N < 2 ^ 31) (hl : (Cond.laysStatic C nm d).before args s = true) (hi : (Cond.initialized C).before args s = true) (harr : (Cond.arrayOf (.static C nm d) ty).before args s = true) (hlen : (Cond.eq (.length (.static C nm d)) (.int (Int32.ofNat N))).before args s = true) (hel : ∀ j : Nat, j < N → (Term.elem (.static C nm d) (.int (Int32.ofNat j))).eval args s none [] s = some (f j)) : ∃ t : Nat, va_Z C nm d (.ref t) A s s.heap ∧ va_T ty t N f A s s.heap := by
  obtain ⟨t, h1, h2⟩ := va_Tof hN harr (va_eqt hlen) hel hA
  exact ⟨t, va_Zof hl hi h1 hA, h2⟩
theorem P_gS {s : State} {args : Array Value} {A : Nat → Prop} (hA : ∀ a : Nat, a < s.heap.size → ¬ A a) (hts : ∀ w ∈ lw_tbl, w.before args s = true) (hgv : (Jvm.Cond.and given_1 narrow_1).before args s = true) (hR : gR s) (G0 : va_G) (c1 c2 c3 c4 : ClassId) : ∃ ad : Nat → Nat, gS (G0, c1, c2, c3, c4, ad) A s s.heap := by
  have hs := flat_of_before _ hgv
  have e1 : ∀ j, j < 13 → Cond.eq (.elem (.static RX5 "LEAST_ARGUMENT" "[I") (.int (Int32.ofNat j))) (.int (gLeast j)) ∈ flatC (Jvm.Cond.and given_1 narrow_1) := by decide +kernel
  have e2 : ∀ j, j < 13 → Cond.eq (.elem (.static RX5 "MOST_ARGUMENT" "[I") (.int (Int32.ofNat j))) (.int (gMost j)) ∈ flatC (Jvm.Cond.and given_1 narrow_1) := by decide +kernel
  obtain ⟨t0, a0, b0⟩ := P_T (N := 13) (f := fun i => .int (gLeast i)) (ty := .int) hA (by decide) (hts (.laysStatic RX5 "LEAST_ARGUMENT" "[I") (by decide +kernel)) (hts (.initialized RX5) (by decide +kernel)) (hs _ (by decide +kernel)) (hs _ (by decide +kernel)) (fun j hj => va_eqt (hs _ (e1 j hj)))
  obtain ⟨t1, a1, b1⟩ := P_T (N := 13) (f := fun i => .int (gMost i)) (ty := .int) hA (by decide) (hts (.laysStatic RX5 "MOST_ARGUMENT" "[I") (by decide +kernel)) (hts (.initialized RX5) (by decide +kernel)) (hs _ (by decide +kernel)) (hs _ (by decide +kernel)) (fun j hj => va_eqt (hs _ (e2 j hj)))
  obtain ⟨t2, a2, b2⟩ := P_T (N := 0) (f := fun _ => .null) (ty := .object "java/lang/Object") hA (by decide) (hts (.laysStatic RJx4a65c "DEFAULTCAPACITY_EMPTY_ELEMENTDATA" "[Ljava/lang/Object;") (by decide +kernel)) (hts (.initialized RJx4a65c) (by decide +kernel)) (hs _ (by decide +kernel)) (hs _ (by decide +kernel)) (fun j hj => absurd hj (Nat.not_lt_zero j))
  obtain ⟨mi, hmi⟩ := va_Mi.of (C := "[Ljava/lang/Object;") (hs _ (by decide +kernel))
  refine ⟨fun k => match k with | 0 => t0 | 1 => t1 | 2 => t2 | _ => mi, ⟨a0, b0⟩, ⟨a1, b1⟩, ⟨⟨a2, b2⟩, hmi⟩, ⟨?_, ?_⟩, hR⟩
  · exact vx_Zqof (hts _ (by decide +kernel)) (hts _ (by decide +kernel)) (hs _ (by decide +kernel)) hA
  · exact vx_Zqof (hts _ (by decide +kernel)) (hts _ (by decide +kernel)) (hs _ (by decide +kernel)) hA
theorem P_K {s : State} {args : Array Value} (hg : ∀ w ∈ gwl, w.before args s = true) : ∃ G0 : va_G, ∀ (c : Nat) (q : vw_C), vwCl[c]? = some q → u_Kn s q.1 q.2.1 q.2.2 (G0.1 c) (G0.2 c) := by
  obtain ⟨c0, i0, h0⟩ := u_known hg k_J.2.1 (hg _ ins_RJx4a65c)
  obtain ⟨c1, i1, h1⟩ := u_known hg k_X0.2.1 (hg _ ins_RX0)
  obtain ⟨c2, i2, h2⟩ := u_known hg k_X1.2.1 (hg _ ins_RX1)
  obtain ⟨c3, i3, h3⟩ := u_known hg k_X2.2.1 (hg _ ins_RX2)
  obtain ⟨c4, i4, h4⟩ := u_known hg k_X3.2.1 (hg _ ins_RX3)
  obtain ⟨c5, i5, h5⟩ := u_known hg k_X4.2.1 (hg _ ins_RX4)
  obtain ⟨c6, i6, h6⟩ := u_known hg k_X5.2.1 (hg _ ins_RX5)
  refine ⟨(fun k => match k with | 0 => c0 | 1 => c1 | 2 => c2 | 3 => c3 | 4 => c4 | 5 => c5 | _ => c6, fun k => match k with | 0 => i0 | 1 => i1 | 2 => i2 | 3 => i3 | 4 => i4 | 5 => i5 | _ => i6), ?_⟩
  intro k q hq
  match k, hq with
  | 0, hq => cases hq; exact h0
  | 1, hq => cases hq; exact h1
  | 2, hq => cases hq; exact h2
  | 3, hq => cases hq; exact h3
  | 4, hq => cases hq; exact h4
  | 5, hq => cases hq; exact h5
  | 6, hq => cases hq; exact h6
  | k + 7, hq => simp [vwCl] at hq
theorem P_X {p : Program} {s : State} {m : MethodId} {args : Array Value} {c : Code} (hx : p.tables.exec = Jvm.exec) (hb : c.code = cL_law) (hml : c.maxLocals = 22) (hown : s.vm.findClass RL = some m.cls) (hts : ∀ w ∈ lw_tbl, w.before args s = true) (hgv : (Jvm.Cond.and given_1 narrow_1).before args s = true) : ∃ G : gG, gX p s m args c cL_law RL 22 G (fun q => s.heap.size ≤ q) := by
  have hg : ∀ w ∈ gwl, w.before args s = true := fun w hw => hts w (List.mem_filter.mp hw).1
  have hN := P_gN hts hgv
  obtain ⟨G0, hK⟩ := P_K hg
  obtain ⟨cC, kC, hfc, -⟩ := Cond.instantiable_spec (hg _ ins_RX5)
  have hR := P_gR hts hfc
  obtain ⟨cI, kI, pI, x1, x2, x3⟩ := Cond.arrayClass_spec (hts (.arrayClass .int) (by decide +kernel))
  obtain ⟨pF, cF, kF, f1, f2, f3, f4, f5⟩ := Cond.arrayOver_spec hN.2.2.2.2.1
  obtain ⟨pO, cO, kO, o1, o2, o3, o4, o5⟩ := Cond.arrayOver_spec hN.2.2.2.2.2
  obtain ⟨ad, hS⟩ := P_gS (A := fun q => s.heap.size ≤ q) (fun a h => Nat.not_le.mpr h) hts hgv hR G0 cI cI cF cO
  refine ⟨(G0, cI, cI, cF, cO, ad), ⟨hx, hb, hml, hown, hg⟩, ⟨hK, ?_⟩, hN, hS, fun q h => h⟩
  intro k q hq
  match k, hq with
  | 0, hq => cases hq; exact ⟨fun n z => ⟨fun k h => (by cases h), kI, x2, pI, x3⟩, x1⟩
  | 1, hq => cases hq; exact ⟨fun n z => ⟨fun k h => (by cases h), kI, x2, pI, x3⟩, x1⟩
  | 2, hq => cases hq; exact ⟨fun n z => ⟨fun k h => (by cases h), kF, f3, pF, f4⟩, kF, pF, f3, f4, f1, f5⟩
  | 3, hq => cases hq; exact ⟨fun n z => ⟨fun k h => (by cases h), kO, o3, pO, o4⟩, kO, pO, o3, o4, o1, o5⟩
  | k + 4, hq => simp [gT] at hq

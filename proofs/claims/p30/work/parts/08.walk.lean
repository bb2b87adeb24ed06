/-! ===== what the laid rows stand on ===== -/
theorem gE_of {f : Int32 × gCT} {v : Int32} {C : gCT} {G : gG} {lv : gLv} {ad : gAd} (h : f = (v, C)) : gE f.1 lv ad (gF G f.2 ad) v (lv, ad, gF G C ad) := by subst h; exact ⟨rfl, rfl⟩
theorem gEv_of {f : gCT} {C : gCT} {G : gG} {lv : gLv} {ad : gAd} (h : f = C) : gEv lv ad (gF G f ad) (lv, ad, gF G C ad) := by subst h; rfl
theorem nar_z {v : Int32} (h : v = 0 ∨ v = 1) : narrow .boolean (.int v) = .int v := by rcases h with rfl | rfl <;> decide
section GJ
variable {p : Program} {l : Launch} {e : Env} {R : Room} {s : State} {m : MethodId} {args : Array Value} {below : List Frame} {meth : Method} {c : Code} {H : Heap} {locs : List Loc} {cells slots : Nat} {Q : State → Prop}
theorem r_J {pc J nL : Nat} {ls : Array Slot} {st rest : List Value} {L : List (Nat × Value)} (T : Int32) (k : ∀ x, x = T → ∀ ls', lv_has ls' nL L → W p l e R s m args below meth c H locs cells slots Q (F0 m J ls' (.int x :: rest)))
    (b : (∀ x, x = T → ∀ ls', lv_has ls' nL L → W p l e R s m args below meth c H locs cells slots Q (F0 m J ls' (.int x :: rest))) → W p l e R s m args below meth c H locs cells slots Q (F0 m pc ls st)) : W p l e R s m args below meth c H locs cells slots Q (F0 m pc ls st) := b k
theorem r_JC {G : gG} {lv : gLv} {ad : gAd} {pc J nL : Nat} {ls : Array Slot} {st rest : List Value} {L : List (Nat × Value)} (T : gCT) (k : ∀ C', C' = T → ∀ H locs, gW G (gA lv ad s.heap.size) s.heap H locs lv ad (gF G C' ad) → ∀ ls', lv_has ls' nL L → W p l e R s m args below meth c H locs cells slots Q (F0 m J ls' rest))
    (b : (∀ C', C' = T → ∀ H locs, gW G (gA lv ad s.heap.size) s.heap H locs lv ad (gF G C' ad) → ∀ ls', lv_has ls' nL L → W p l e R s m args below meth c H locs cells slots Q (F0 m J ls' rest)) → W p l e R s m args below meth c H locs cells slots Q (F0 m pc ls st)) : W p l e R s m args below meth c H locs cells slots Q (F0 m pc ls st) := b k
theorem r_toV {G : gG} {A A1 : Nat → Prop} {lv : gLv} {ad : gAd} {mc ms : Nat} {f g : gCT} {fr : JFrame} (k : W p l e R s m args below meth c H locs cells slots (MQ below (gQv G A (gEv lv ad (gF G g ad))) args s mc ms A1) fr) (h : f = g) : W p l e R s m args below meth c H locs cells slots (MQ below (gQv G A (gEv lv ad (gF G f ad))) args s mc ms A1) fr := by subst h; exact k
theorem r_toI {G : gG} {A A1 : Nat → Prop} {lv : gLv} {ad : gAd} {mc ms : Nat} {f g : Int32 × gCT} {fr : JFrame} (k : W p l e R s m args below meth c H locs cells slots (MQ below (gQi G A (gE g.1 lv ad (gF G g.2 ad))) args s mc ms A1) fr) (h : f = g) : W p l e R s m args below meth c H locs cells slots (MQ below (gQi G A (gE f.1 lv ad (gF G f.2 ad))) args s mc ms A1) fr := by subst h; exact k
end GJ
theorem ts_out_4_6 {x : Int32} (h4 : ¬ x = 4) (h5 : ¬ x = 5) (h6 : ¬ x = 6) : x.toInt < 4 ∨ 6 < x.toInt := by
  have f : ∀ k : Int32, ¬ x = k → x.toInt ≠ k.toInt := fun k h q => h (Int32.toInt_inj.mp q)
  have g4 : x.toInt ≠ 4 := f 4 h4
  have g5 : x.toInt ≠ 5 := f 5 h5
  have g6 : x.toInt ≠ 6 := f 6 h6
  omega
theorem ts_out_0_12 {x : Int32} (h0 : ¬ x = 0) (h1 : ¬ x = 1) (h2 : ¬ x = 2) (h3 : ¬ x = 3) (h4 : ¬ x = 4) (h5 : ¬ x = 5) (h6 : ¬ x = 6) (h7 : ¬ x = 7) (h8 : ¬ x = 8) (h9 : ¬ x = 9) (h10 : ¬ x = 10) (h11 : ¬ x = 11) (h12 : ¬ x = 12) : x.toInt < 0 ∨ 12 < x.toInt := by
  have f : ∀ k : Int32, ¬ x = k → x.toInt ≠ k.toInt := fun k h q => h (Int32.toInt_inj.mp q)
  have g0 : x.toInt ≠ 0 := f 0 h0
  have g1 : x.toInt ≠ 1 := f 1 h1
  have g2 : x.toInt ≠ 2 := f 2 h2
  have g3 : x.toInt ≠ 3 := f 3 h3
  have g4 : x.toInt ≠ 4 := f 4 h4
  have g5 : x.toInt ≠ 5 := f 5 h5
  have g6 : x.toInt ≠ 6 := f 6 h6
  have g7 : x.toInt ≠ 7 := f 7 h7
  have g8 : x.toInt ≠ 8 := f 8 h8
  have g9 : x.toInt ≠ 9 := f 9 h9
  have g10 : x.toInt ≠ 10 := f 10 h10
  have g11 : x.toInt ≠ 11 := f 11 h11
  have g12 : x.toInt ≠ 12 := f 12 h12
  omega
theorem ts_out_0_26 {x : Int32} (h0 : ¬ x = 0) (h1 : ¬ x = 1) (h2 : ¬ x = 2) (h3 : ¬ x = 3) (h4 : ¬ x = 4) (h5 : ¬ x = 5) (h6 : ¬ x = 6) (h7 : ¬ x = 7) (h8 : ¬ x = 8) (h9 : ¬ x = 9) (h10 : ¬ x = 10) (h11 : ¬ x = 11) (h12 : ¬ x = 12) (h13 : ¬ x = 13) (h14 : ¬ x = 14) (h15 : ¬ x = 15) (h16 : ¬ x = 16) (h17 : ¬ x = 17) (h18 : ¬ x = 18) (h19 : ¬ x = 19) (h20 : ¬ x = 20) (h21 : ¬ x = 21) (h22 : ¬ x = 22) (h23 : ¬ x = 23) (h24 : ¬ x = 24) (h25 : ¬ x = 25) (h26 : ¬ x = 26) : x.toInt < 0 ∨ 26 < x.toInt := by
  have f : ∀ k : Int32, ¬ x = k → x.toInt ≠ k.toInt := fun k h q => h (Int32.toInt_inj.mp q)
  have g0 : x.toInt ≠ 0 := f 0 h0
  have g1 : x.toInt ≠ 1 := f 1 h1
  have g2 : x.toInt ≠ 2 := f 2 h2
  have g3 : x.toInt ≠ 3 := f 3 h3
  have g4 : x.toInt ≠ 4 := f 4 h4
  have g5 : x.toInt ≠ 5 := f 5 h5
  have g6 : x.toInt ≠ 6 := f 6 h6
  have g7 : x.toInt ≠ 7 := f 7 h7
  have g8 : x.toInt ≠ 8 := f 8 h8
  have g9 : x.toInt ≠ 9 := f 9 h9
  have g10 : x.toInt ≠ 10 := f 10 h10
  have g11 : x.toInt ≠ 11 := f 11 h11
  have g12 : x.toInt ≠ 12 := f 12 h12
  have g13 : x.toInt ≠ 13 := f 13 h13
  have g14 : x.toInt ≠ 14 := f 14 h14
  have g15 : x.toInt ≠ 15 := f 15 h15
  have g16 : x.toInt ≠ 16 := f 16 h16
  have g17 : x.toInt ≠ 17 := f 17 h17
  have g18 : x.toInt ≠ 18 := f 18 h18
  have g19 : x.toInt ≠ 19 := f 19 h19
  have g20 : x.toInt ≠ 20 := f 20 h20
  have g21 : x.toInt ≠ 21 := f 21 h21
  have g22 : x.toInt ≠ 22 := f 22 h22
  have g23 : x.toInt ≠ 23 := f 23 h23
  have g24 : x.toInt ≠ 24 := f 24 h24
  have g25 : x.toInt ≠ 25 := f 25 h25
  have g26 : x.toInt ≠ 26 := f 26 h26
  omega
/-- an int array's cell, wherever it lies -/
def gArr (U : State) (H : Heap) (a N : Nat) (f : Nat → Int32) : Prop := ∃ cell : Cell, H[a]? = some cell ∧ U.isArrayOf cell .int ∧ cell.vm ≠ .unknown ∧ N ≤ cell.slots.size ∧ cell.slots.size.toInt32 = Int32.ofNat N ∧ ∀ j : Nat, j < N → cell.slots[j]? = some (.int (f j))
theorem gArr.same {u U : State} {H : Heap} {a N : Nat} {f : Nat → Int32} (hv : U.vm = u.vm) (h : gArr u H a N f) : gArr U H a N f := by
  obtain ⟨cell, h1, h2, h3⟩ := h
  exact ⟨cell, h1, State.isArrayOf_alike (by rw [hv]; exact Vm.Alike.refl _) h2, h3⟩
theorem gArr.warm {u U : State} {H : Heap} {a N : Nat} {f : Nat → Int32} (hW : u.WarmedH U.vm) (h : gArr u H a N f) : gArr U H a N f := by
  obtain ⟨cell, h1, h2, h3⟩ := h
  exact ⟨cell, h1, State.isArrayOf_alike hW.alike h2, h3⟩

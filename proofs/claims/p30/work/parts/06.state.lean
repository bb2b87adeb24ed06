/-! ===== what the cells hold: kinds 0 to 19 are the class's, 20 and 21 the reference's, 22 the law's own row =====
0 the tool, 1 its row of forms, 2 lists (24: the runs; n: run n's answers), 3 their rows, 4 forms, 5 quotas, 6 counts of DONE, 7 machines (24: the spare one), 8 stacks, 9 slots, 10 times asked, 11 runs, 12 their wordings, 13 answers (1024 n + j: the j-th of run n), 14 codes (8 f + v: the newest of form f with v versions, 8 f + v + 1: its draft), 15 instructions, 16 arguments, 17 prices, 18 wordings, 19 rewards -/
abbrev gCT : Type := Nat → Nat → Nat → Int32
def gLen (n : Nat) : Nat := match n with
  | 0 => 96
  | 1 => 96
  | 2 => 4
  | 3 => 576
  | 4 => 576
  | 5 => 24
  | 6 => 4
  | 7 => 4
  | 8 => 4
  | 9 => 16
  | 10 => 16
  | 11 => 16
  | 12 => 16
  | 13 => 16
  | 15 => 24
  | 16 => 24
  | 17 => 24
  | 18 => 24
  | 19 => 192
  | 20 => 24
  | 21 => 192
  | 22 => 24
  | 23 => 24
  | 24 => 24
  | 25 => 24
  | 26 => 24
  | 27 => 384
  | 28 => 384
  | 30 => 1024
  | 31 => 1024
  | 32 => 1024
  | 33 => 1024
  | _ => 0
/-- the law's own rows: drafts, versions, ended -/
def gLw (n : Nat) : Nat := match n with
  | 2 => 24
  | _ => 4
def gElem (ad : gAd) (n j : Nat) : Nat := if n = 24 then ad 11 j else ad 13 (1024 * n + j)
def gB (G : gG) (κ n : Nat) (x : Nat → Int32) (ad : gAd) : va_E := match κ with
  | 0 => .inr (6, [.ref (ad 1 0), .ref (ad 2 24), .ref (ad 17 0), .ref (ad 18 0), .ref (ad 19 0), .ref (ad 7 24), .int (x 0)])
  | 1 => .inl (G.2.2.2.1, 4, .inr (.inr (.inr (.inr (fun j => if j < 4 then some (ad 4 j) else none)))))
  | 2 => .inr (0, [.int (x 0), .ref (if x 2 = 0 then G.2.2.2.2.2 2 else ad 3 n), .int (x 1)])
  | 3 => .inl (G.2.2.2.2.1, (x 0).toNatClampNeg, .inr (.inr (.inr (.inr (fun j => if j < (x 1).toNatClampNeg then some (gElem ad n j) else none)))))
  | 4 => .inr (3, [.ref (ad 14 (8 * n + (x 0).toNatClampNeg + 1)), .ref (ad 14 (8 * n + (x 0).toNatClampNeg)), .int (x 0), .int (x 1), .int (x 2), .ref (ad 5 n), .ref (ad 6 n)])
  | 5 => .inl (G.2.1, 4, .inl x)
  | 6 => .inl (G.2.1, 4, .inl x)
  | 7 => .inr (4, [.ref (ad 8 n), .ref (ad 9 n), .ref (ad 10 n), .int (x 0), .int (x 1), .int (x 2), .int (x 3), .int (x 4), .int (x 5), .int (x 6), .int (x 7)])
  | 8 => .inl (G.2.1, 8, .inl x)
  | 9 => .inl (G.2.1, 8, .inl x)
  | 10 => .inl (G.2.1, 16, .inl x)
  | 11 => .inr (5, [.int (x 0), .int (x 1), .ref (ad 4 (x 6).toNatClampNeg), .ref (ad 7 n), .ref (ad 2 n), .ref (ad 12 n), .ref (ad 14 (x 7).toNatClampNeg), .int (x 2), .int (x 3), .int (x 4), .int (x 5)])
  | 12 => .inl (G.2.1, 16, .inl x)
  | 13 => .inr (1, [.int (x 0), .int (x 1), .int (x 2)])
  | 14 => .inr (2, [.ref (ad 15 n), .ref (ad 16 n), .int (x 0)])
  | 15 => .inl (G.2.1, 24, .inl x)
  | 16 => .inl (G.2.1, 24, .inl x)
  | 17 => .inl (G.2.1, 16, .inl x)
  | 18 => .inl (G.2.1, 16, .inl x)
  | 19 => .inl (G.2.1, 16, .inl x)
  | 20 => .inr (7, [.ref (ad 21 0), .ref (ad 21 1), .ref (ad 21 2), .ref (ad 21 3), .ref (ad 21 4), .ref (ad 21 5), .ref (ad 21 6), .ref (ad 21 7), .ref (ad 21 8), .ref (ad 21 9), .ref (ad 21 10), .ref (ad 21 11), .ref (ad 21 12), .ref (ad 21 13), .int (x 0), .ref (ad 21 15), .ref (ad 21 16), .ref (ad 21 17), .ref (ad 21 18), .ref (ad 21 19), .ref (ad 21 20), .ref (ad 21 21), .ref (ad 21 22), .ref (ad 21 23), .ref (ad 21 24), .ref (ad 21 25), .ref (ad 21 26), .ref (ad 21 27), .ref (ad 21 28), .int (x 1), .ref (ad 21 30), .ref (ad 21 31), .ref (ad 21 32), .ref (ad 21 33), .int (x 2), .int (x 3)])
  | 21 => .inl (G.2.1, gLen n, .inl x)
  | _ => .inl (G.2.1, gLw n, .inl x)
def gF (G : gG) (C : gCT) (ad : gAd) : gCn := fun κ n => gB G κ n (C κ n) ad
def cs (C : gCT) (κ n j : Nat) (v : Int32) : gCT := g2 C κ n (upd (C κ n) j v)
theorem gF_set {G : gG} {C : gCT} {ad : gAd} {κ n : Nat} {x : Nat → Int32} {e : va_E} (h : gB G κ n x ad = e) : g2 (gF G C ad) κ n e = gF G (g2 C κ n x) ad := by
  subst h
  funext a b
  by_cases hc : a = κ ∧ b = n
  · obtain ⟨rfl, rfl⟩ := hc
    simp only [gF, g2_s]
  · rw [g2_n _ _ hc]
    simp only [gF]
    rw [g2_n _ _ hc]
section GS
variable {p : Program} {l : Launch} {e : Env} {R : Room} {s : State} {m : MethodId} {args : Array Value} {below : List Frame} {meth : Method} {c : Code} {H : Heap} {locs : List Loc} {cells slots : Nat} {Q : State → Prop}
variable {cc : ByteArray} {own : String} {nL pc : Nat} {ls : Array Slot} {rest : List Value} {G : gG} {A : Nat → Prop} {lv : gLv} {ad : gAd} {C : gCT}
theorem s_put (X : gX p s m args c cc own nL G A) (hw : gW G A s.heap H locs lv ad (gF G C ad)) (κ n k j : Nat) (hl : lv κ n) {ci idx N : Nat} {C0 : String} {T : u_T} {ty : Nat → FieldType} {fs : List Value} {v : Int32} (he : gF G C ad κ n = .inr (ci, fs)) (hv : gB G κ n (upd (C κ n) j v) ad = .inr (ci, fs.set k (.int v))) (hc : gcl ci C0 T N ty) (hk : k < N) (hlen : k < fs.length)
    (hlink : Cond.fieldLink own idx (T k).1 (T k).2.1 (T k).2.2.1 ∈ gwl) (hfin : (T k).2.2.2 = false) (hty : ty k = .int) (hdg : decode cc pc = .ok (.putfield idx, 3))
    (kk : ∀ (H : Heap) (locs : List Loc), gW G A s.heap H locs lv ad (gF G (cs C κ n j v) ad) → W p l e R s m args below meth c H locs cells slots Q (F0 m (pc + 3) ls rest)) : W p l e R s m args below meth c H locs cells slots Q (F0 m pc ls (.int v :: .ref (ad κ n) :: rest)) :=
  r_put X hw κ n k hl he rfl hc hk hlen hlink hfin (by rw [hty]; rfl) (by rw [hty]; rfl) hdg (fun H locs h => kk H locs (by rw [gF_set hv] at h; exact h))
theorem s_iast (X : gX p s m args c cc own nL G A) (hw : gW G A s.heap H locs lv ad (gF G C ad)) (κ n : Nat) (hl : lv κ n) {N : Nat} {i x : Int32} (he : gF G C ad κ n = .inl (G.2.1, N, .inl (C κ n))) (hv : ∀ y, gB G κ n y ad = .inl (G.2.1, N, .inl y)) (hin : vp_in i N) (hdg : decode cc pc = .ok (.iastore, 1))
    (kk : ∀ (H : Heap) (locs : List Loc), gW G A s.heap H locs lv ad (gF G (cs C κ n i.toNatClampNeg x) ad) → W p l e R s m args below meth c H locs cells slots Q (F0 m (pc + 1) ls rest)) : W p l e R s m args below meth c H locs cells slots Q (F0 m pc ls (.int x :: .int i :: .ref (ad κ n) :: rest)) :=
  r_iast X hw κ n hl he hin hdg (fun H locs h => kk H locs (by rw [gF_set (hv _)] at h; exact h))
end GS
theorem vp_in_le {x : Int32} {n : Nat} (h0 : 0 ≤ x) {k : Int32} (h : x ≤ k) (hk : k.toInt < n) : vp_in x n := by
  rw [vp_in_iff]
  exact ⟨by simpa using Int32.le_iff_toInt_le.mp h0, Int.lt_of_le_of_lt (Int32.le_iff_toInt_le.mp h) hk⟩
theorem nar_b0 : narrow .boolean (.int 0) = .int 0 := by decide
theorem nar_b1 : narrow .boolean (.int 1) = .int 1 := by decide

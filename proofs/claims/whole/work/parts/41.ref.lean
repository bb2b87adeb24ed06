/-! ===== the reference: bounds, rows ===== -/
def gBnd (k : Nat) : Nat := match k with
  | 2 => 25
  | 5 => 25
  | 6 => 7
  | 7 => 201
  | 15 => 16
  | 16 => 4
  | 17 => 6
  | 18 => 25
  | 20 => 9
  | 23 => 201
  | 31 => 16
  | _ => 0
def gFit (w a : Int32) : Prop := (∃ i, i < 13 ∧ w = nI i) ∧ (w = 0 → ∃ j, j < 16 ∧ a = nI j) ∧ (w = 2 ∨ w = 3 → ∃ j, j < 8 ∧ a = nI j) ∧ (w = 8 ∨ w = 9 → ∃ j, j < 25 ∧ a = nI j)
def MBI (M : gCT) : Prop := (∀ k j, j < gLen k → gBnd k ≠ 0 → ∃ d, d < gBnd k ∧ M 21 k j = nI d) ∧ (∃ d, d < 25 ∧ M 20 0 1 = nI d) ∧ (∃ d, d < 513 ∧ M 20 0 2 = nI d) ∧ (∀ j, j < 96 → gFit (M 21 0 j) (M 21 1 j)) ∧ ∀ j, j < 576 → gFit (M 21 3 j) (M 21 4 j)
theorem gBnd_le (k : Nat) : gBnd k ≤ 201 := by
  unfold gBnd
  split <;> omega
theorem gLen_le (k : Nat) : gLen k ≤ 1024 := by
  unfold gLen
  split <;> omega
theorem MBI.get {M : gCT} (h : MBI M) (k j : Nat) (hj : j < gLen k) (hk : gBnd k ≠ 0) {x : Int32} (ex : x = M 21 k j) : x = nI x.toNatClampNeg ∧ x.toNatClampNeg < gBnd k := by
  obtain ⟨d, h1, h2⟩ := h.1 k j hj hk
  have hb := gBnd_le k
  rw [ex, h2, nI_clamp (by omega)]
  exact ⟨rfl, h1⟩
theorem MBI.runs {M : gCT} (h : MBI M) {x : Int32} (ex : x = M 20 0 1) : x = nI x.toNatClampNeg ∧ x.toNatClampNeg < 25 := by
  obtain ⟨d, h1, h2⟩ := h.2.1
  rw [ex, h2, nI_clamp (by omega)]
  exact ⟨rfl, h1⟩
theorem MBI.answers {M : gCT} (h : MBI M) {x : Int32} (ex : x = M 20 0 2) : x = nI x.toNatClampNeg ∧ x.toNatClampNeg < 513 := by
  obtain ⟨d, h1, h2⟩ := h.2.2.1
  rw [ex, h2, nI_clamp (by omega)]
  exact ⟨rfl, h1⟩
theorem cs_n (C : gCT) (κ : Nat) {n n' : Nat} (j : Nat) (v : Int32) (h : n' ≠ n) : cs C κ n j v κ n' = C κ n' := g2_n _ _ (fun e => h e.2)
def gSafe (k : Nat) : Bool := k != 0 && k != 1 && k != 3 && k != 4
theorem MBI.set {M : gCT} (h : MBI M) {k j : Nat} {v : Int32} (hk : gSafe k = true) (hv : gBnd k ≠ 0 → ∃ d, d < gBnd k ∧ v = nI d) : MBI (cs M 21 k j v) := by
  simp only [gSafe, Bool.and_eq_true, bne_iff_ne, ne_eq] at hk
  obtain ⟨⟨⟨h0, h1⟩, h3⟩, h4⟩ := hk
  refine ⟨fun k' j' hj' hk' => ?_, ?_, ?_, ?_, ?_⟩
  · by_cases e : k' = k
    · subst e
      by_cases e2 : j' = j
      · subst e2
        rw [cs_s]
        exact hv hk'
      · rw [cs_o _ _ _ _ e2]
        exact h.1 k' j' hj' hk'
    · rw [cs_n _ _ _ _ e]
      exact h.1 k' j' hj' hk'
  · rw [cs_k _ _ _ _ (by decide)]; exact h.2.1
  · rw [cs_k _ _ _ _ (by decide)]; exact h.2.2.1
  · rw [cs_n _ _ _ _ (Ne.symm h0), cs_n _ _ _ _ (Ne.symm h1)]; exact h.2.2.2.1
  · rw [cs_n _ _ _ _ (Ne.symm h3), cs_n _ _ _ _ (Ne.symm h4)]; exact h.2.2.2.2
theorem MBI.set0 {M : gCT} (h : MBI M) {j : Nat} {v : Int32} (hj : j ≠ 1 ∧ j ≠ 2) : MBI (cs M 20 0 j v) := by
  unfold MBI
  rw [cs_k _ _ _ _ (by decide), cs_o _ _ _ _ (Ne.symm hj.1), cs_o _ _ _ _ (Ne.symm hj.2)]
  exact h
theorem MBI.setR {M : gCT} (h : MBI M) {v : Int32} (hv : ∃ d, d < 25 ∧ v = nI d) : MBI (cs M 20 0 1 v) := by
  unfold MBI
  rw [cs_k _ _ _ _ (by decide), cs_s, cs_o _ _ _ _ (by decide)]
  exact ⟨h.1, hv, h.2.2⟩
theorem MBI.setA {M : gCT} (h : MBI M) {v : Int32} (hv : ∃ d, d < 513 ∧ v = nI d) : MBI (cs M 20 0 2 v) := by
  unfold MBI
  rw [cs_k _ _ _ _ (by decide), cs_s, cs_o _ _ _ _ (by decide)]
  exact ⟨h.1, h.2.1, hv, h.2.2.2⟩
/-- an instruction and its argument, written together -/
theorem MBI.set2 {M : gCT} (h : MBI M) {k j : Nat} {v w : Int32} (hk : k = 0 ∨ k = 3) (hf : gFit v w) : MBI (cs (cs M 21 k j v) 21 (k + 1) j w) := by
  refine ⟨fun k' j' hj' hk' => ?_, ?_, ?_, fun i hi => ?_, fun i hi => ?_⟩
  · have e1 : k' ≠ k + 1 := by rintro rfl; rcases hk with rfl | rfl <;> exact hk' rfl
    have e2 : k' ≠ k := by rintro rfl; rcases hk with rfl | rfl <;> exact hk' rfl
    rw [cs_n _ _ _ _ e1, cs_n _ _ _ _ e2]
    exact h.1 k' j' hj' hk'
  · rw [cs_k _ _ _ _ (by decide), cs_k _ _ _ _ (by decide)]; exact h.2.1
  · rw [cs_k _ _ _ _ (by decide), cs_k _ _ _ _ (by decide)]; exact h.2.2.1
  · rcases hk with rfl | rfl
    · by_cases e : i = j
      · subst e
        rw [cs_n _ _ _ _ (by decide), cs_s, cs_s]
        exact hf
      · rw [cs_n _ _ _ _ (by decide), cs_o _ _ _ _ e, cs_o _ _ _ _ e, cs_n _ _ _ _ (by decide)]
        exact h.2.2.2.1 i hi
    · rw [cs_n _ _ _ _ (by decide), cs_n _ _ _ _ (by decide), cs_n _ _ _ _ (by decide), cs_n _ _ _ _ (by decide)]
      exact h.2.2.2.1 i hi
  · rcases hk with rfl | rfl
    · rw [cs_n _ _ _ _ (by decide), cs_n _ _ _ _ (by decide), cs_n _ _ _ _ (by decide), cs_n _ _ _ _ (by decide)]
      exact h.2.2.2.2 i hi
    · by_cases e : i = j
      · subst e
        rw [cs_n _ _ _ _ (by decide), cs_s, cs_s]
        exact hf
      · rw [cs_n _ _ _ _ (by decide), cs_o _ _ _ _ e, cs_o _ _ _ _ e, cs_n _ _ _ _ (by decide)]
        exact h.2.2.2.2 i hi
theorem nat_add {x y : Int32} {a b : Nat} (hx : x = nI a) (hy : y = nI b) : x + y = nI (a + b) := by rw [hx, hy, nI_add]
theorem nat_mul {x y : Int32} {a b : Nat} (hx : x = nI a) (hy : y = nI b) : x * y = nI (a * b) := by rw [hx, hy]; exact (Int32.ofNat_mul a b).symm
theorem nat_sub {x y : Int32} {a b : Nat} (hx : x = nI a) (hy : y = nI b) (h : b ≤ a) : x - y = nI (a - b) := by
  have e : nI a = nI (a - b) + nI b := by rw [nI_add]; congr 1; omega
  rw [hx, hy, e, Int32.add_sub_cancel]
theorem nat_eq {x y : Int32} {a b : Nat} (hx : x = nI a) (hy : y = nI b) (ha : a < 2 ^ 31) (hb : b < 2 ^ 31) : x = y ↔ a = b := by rw [hx, hy]; exact nI_eq ha hb
theorem nat_lt {x y : Int32} {a b : Nat} (hx : x = nI a) (hy : y = nI b) (ha : a < 2 ^ 31) (hb : b < 2 ^ 31) : x < y ↔ a < b := by rw [hx, hy]; exact nI_ltI ha hb
theorem nat_le {x y : Int32} {a b : Nat} (hx : x = nI a) (hy : y = nI b) (ha : a < 2 ^ 31) (hb : b < 2 ^ 31) : x ≤ y ↔ a ≤ b := by rw [hx, hy]; exact nI_leI ha hb
def gLM (lv : gLv) : Prop := lv 20 0 ∧ ∀ k, k < 34 → k ≠ 14 → k ≠ 29 → lv 21 k
def gRi (G : gG) (lv : gLv) (ad : gAd) (P : gCT → Prop) (f : Int32 × gCT) : Int32 → gSt → Prop := fun v u => gE f.1 lv ad (gF G f.2 ad) v u ∧ P f.2
def gRv (G : gG) (lv : gLv) (ad : gAd) (P : gCT → Prop) (f : gCT) : gSt → Prop := fun u => gEv lv ad (gF G f ad) u ∧ P f
theorem gRE_of {P : gCT → Prop} {f : Int32 × gCT} {v : Int32} {C : gCT} {G : gG} {lv : gLv} {ad : gAd} (h : f = (v, C)) (hB : P C) : gRi G lv ad P f v (lv, ad, gF G C ad) := by subst h; exact ⟨⟨rfl, rfl⟩, hB⟩
theorem gREv_of {P : gCT → Prop} {f : gCT} {C : gCT} {G : gG} {lv : gLv} {ad : gAd} (h : f = C) (hB : P C) : gRv G lv ad P f (lv, ad, gF G C ad) := by subst h; exact ⟨rfl, hB⟩
section GQR3
variable {p : Program} {l : Launch} {e : Env} {R : Room} {s : State} {m : MethodId} {args : Array Value} {below : List Frame} {meth : Method} {c : Code} {H : Heap} {locs : List Loc} {cells slots : Nat} {Q : State → Prop}
variable {cc : ByteArray} {own : String} {nL pc mc ms : Nat} {ls : Array Slot} {rest st0 : List Value} {G : gG} {A : Nat → Prop} {lv : gLv} {ad : gAd} {C : gCT} {a : Array Value}
theorem q_iald (X : gX p s m args c cc own nL G A) (hw : gW G A s.heap H locs lv ad (gF G C ad)) (k : Nat) (hl : lv 21 k) {i : Int32} {j : Nat} (hi : i = nI j) (hj : j < gLen k) (hdg : decode cc pc = .ok (.iaload, 1))
    (kk : W p l e R s m args below meth c H locs cells slots Q (F0 m (pc + 1) ls (.int (C 21 k j) :: rest))) : W p l e R s m args below meth c H locs cells slots Q (F0 m pc ls (.int i :: .ref (ad 21 k) :: rest)) := by
  subst hi
  have hk := gLen_le k
  have hj31 : j < 2 ^ 31 := by omega
  refine r_iald X hw 21 k hl (N := gLen k) rfl (vp_in_nI hj (by omega)) hdg ?_
  rw [nI_clamp hj31]
  exact kk
theorem q_iast (X : gX p s m args c cc own nL G A) (hw : gW G A s.heap H locs lv ad (gF G C ad)) (k : Nat) (hl : lv 21 k) {i v : Int32} {j : Nat} (hi : i = nI j) (hj : j < gLen k) (hdg : decode cc pc = .ok (.iastore, 1))
    (kk : ∀ (H : Heap) (locs : List Loc), gW G A s.heap H locs lv ad (gF G (cs C 21 k j v) ad) → W p l e R s m args below meth c H locs cells slots Q (F0 m (pc + 1) ls rest)) : W p l e R s m args below meth c H locs cells slots Q (F0 m pc ls (.int v :: .int i :: .ref (ad 21 k) :: rest)) := by
  subst hi
  have hk := gLen_le k
  have hj31 : j < 2 ^ 31 := by omega
  refine s_iast X hw 21 k hl (N := gLen k) rfl (fun _ => rfl) (vp_in_nI hj (by omega)) hdg (fun H locs hw => ?_)
  rw [nI_clamp hj31] at hw
  exact kk H locs hw
theorem r_qi {P : gCT → Prop} {f : Int32 × gCT} (X : gX p s m args c cc own nL G A) {con : gCn} (hw : gW G A s.heap H locs lv ad con) (hr : va_Run p l e R s m args below meth c H locs cells slots mc ms (F0 m pc ls st0) rest (gQi G (gA lv ad H.size) (gRi G lv ad P f) a) (gA lv ad H.size))
    (kk : ∀ (H1 : Heap) (locs1 : List Loc), P f.2 → gW G A s.heap H1 locs1 lv ad (gF G f.2 ad) → W p l e R s m args below meth c H1 locs1 (cells + mc) (slots + ms) Q (F0 m (pc + 3) ls (.int f.1 :: rest))) : W p l e R s m args below meth c H locs cells slots Q (F0 m pc ls st0) :=
  r_ri X hw hr (fun r u H1 locs1 hp hw1 => by obtain ⟨⟨rfl, rfl⟩, hB⟩ := hp; exact kk H1 locs1 hB hw1)
theorem r_qv {P : gCT → Prop} {f : gCT} (X : gX p s m args c cc own nL G A) {con : gCn} (hw : gW G A s.heap H locs lv ad con) (hr : va_Run p l e R s m args below meth c H locs cells slots mc ms (F0 m pc ls st0) rest (gQv G (gA lv ad H.size) (gRv G lv ad P f) a) (gA lv ad H.size))
    (kk : ∀ (H1 : Heap) (locs1 : List Loc), P f → gW G A s.heap H1 locs1 lv ad (gF G f ad) → W p l e R s m args below meth c H1 locs1 (cells + mc) (slots + ms) Q (F0 m (pc + 3) ls rest)) : W p l e R s m args below meth c H locs cells slots Q (F0 m pc ls st0) :=
  r_rv X hw hr (fun u H1 locs1 hp hw1 => by obtain ⟨hu, hB⟩ := hp; cases hu; exact kk H1 locs1 hB hw1)
theorem r_toQI {P : gCT → Prop} {A1 : Nat → Prop} {f g : Int32 × gCT} {fr : JFrame} (k : W p l e R s m args below meth c H locs cells slots (MQ below (gQi G A (gRi G lv ad P g)) args s mc ms A1) fr) (h : f = g) : W p l e R s m args below meth c H locs cells slots (MQ below (gQi G A (gRi G lv ad P f)) args s mc ms A1) fr := by subst h; exact k
theorem r_toQV {P : gCT → Prop} {A1 : Nat → Prop} {f g : gCT} {fr : JFrame} (k : W p l e R s m args below meth c H locs cells slots (MQ below (gQv G A (gRv G lv ad P g)) args s mc ms A1) fr) (h : f = g) : W p l e R s m args below meth c H locs cells slots (MQ below (gQv G A (gRv G lv ad P f)) args s mc ms A1) fr := by subst h; exact k
end GQR3

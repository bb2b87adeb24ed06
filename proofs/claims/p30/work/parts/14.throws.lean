/-! ===== what throws ===== -/
def gExc (k : Nat) (E : String) : Prop := (k = 1 ∧ E = "java/lang/IndexOutOfBoundsException") ∨ (k = 2 ∧ E = "java/lang/IllegalArgumentException") ∨ (k = 3 ∧ E = "java/lang/IllegalStateException")
def gXC (G : gG) (A : Nat → Prop) (lv : gLv) (ad : gAd) (con : gCn) (k : Nat) : String → State → State → Prop := vx_X (fun _ : Unit => True) (fun E _ t => gExc k E ∧ gV G A lv ad con t.heap) A
/-- answers r.2 where r.1 is 0; else throws, and all is as it was -/
abbrev gMxi (l : Launch) (y : MethodName) (cc : ByteArray) (maxL : Nat) (ret : Option FieldType) (rm : Room) (G : gG) (As : List Value) (lv : gLv) (ad : gAd) (C : gCT) (r : Nat × Int32 × gCT) : Prop := ∀ sz, vx_Met l y (.code y cc maxL ret :: gwl) rm (gP G As lv ad (gF G C ad) sz) (gQi G (gA lv ad sz) (fun v u => r.1 = 0 ∧ gE r.2.1 lv ad (gF G r.2.2 ad) v u)) (gXC G (gA lv ad sz) lv ad (gF G C ad) r.1) rm.cells rm.slots (gA lv ad sz)
abbrev gMxv (l : Launch) (y : MethodName) (cc : ByteArray) (maxL : Nat) (rm : Room) (G : gG) (As : List Value) (lv : gLv) (ad : gAd) (C : gCT) (r : Nat × Int32 × gCT) : Prop := ∀ sz, vx_Met l y (.code y cc maxL none :: gwl) rm (gP G As lv ad (gF G C ad) sz) (gQv G (gA lv ad sz) (fun u => r.1 = 0 ∧ gEv lv ad (gF G r.2.2 ad) u)) (gXC G (gA lv ad sz) lv ad (gF G C ad) r.1) rm.cells rm.slots (gA lv ad sz)
abbrev gMxr (l : Launch) (y : MethodName) (cc : ByteArray) (maxL : Nat) (ret : Option FieldType) (rm : Room) (G : gG) (As : List Value) (lv : gLv) (ad : gAd) (C : gCT) (k : Nat) (a : Nat) : Prop := ∀ sz, vx_Met l y (.code y cc maxL ret :: gwl) rm (gP G As lv ad (gF G C ad) sz) (gQr G (gA lv ad sz) (fun v u => k = 0 ∧ gEr a lv ad (gF G C ad) v u)) (gXC G (gA lv ad sz) lv ad (gF G C ad) k) rm.cells rm.slots (gA lv ad sz)
def gXw : List Cond := gCast.map (fun q => .castable q.1 q.2) ++ gDecl.map (fun q => .declares q)
def gNames : List String := ["java/lang/RuntimeException", "java/lang/Exception"]
theorem gXw_all {L : List Cond} (h : L.all (fun w => (decide (w ∈ lw_tbl) && goodWord w) || decide (w ∈ gXw)) = true) : ∀ w ∈ L, w ∈ gwl ∨ w ∈ gXw := fun w hw => by
  have h1 := List.all_eq_true.mp h w hw
  simp only [Bool.or_eq_true, Bool.and_eq_true, decide_eq_true_eq] at h1
  exact h1.elim (fun q => Or.inl (gwl_of q.1 q.2)) Or.inr
set_option maxRecDepth 20000 in
theorem x_at_1 : ∀ w ∈ vx_atS RX5 117 "java/lang/IndexOutOfBoundsException" gNames, w ∈ gwl ∨ w ∈ gXw := gXw_all (by decide +kernel)
set_option maxRecDepth 20000 in
theorem x_at_2 : ∀ w ∈ vx_atS RX5 52 "java/lang/IllegalArgumentException" gNames, w ∈ gwl ∨ w ∈ gXw := gXw_all (by decide +kernel)
set_option maxRecDepth 20000 in
theorem x_at_3 : ∀ w ∈ vx_atS RX5 81 "java/lang/IllegalStateException" gNames, w ∈ gwl ∨ w ∈ gXw := gXw_all (by decide +kernel)
theorem x_good {L : List Cond} (h : L.all vx_ot = true) : ∀ w ∈ L, vx_ot w = true := fun w hw => List.all_eq_true.mp h w hw
section GT
variable {p : Program} {l : Launch} {e : Env} {R : Room} {s : State} {m : MethodId} {args : Array Value} {below : List Frame} {meth : Method} {c : Code} {H : Heap} {locs : List Loc} {cells slots : Nat} {Q : State → Prop}
variable {cc bytes : ByteArray} {own : String} {nL pc maxL n idx mc ms : Nat} {ls : Array Slot} {rest st0 : List Value} {G : gG} {A : Nat → Prop} {lv : gLv} {ad : gAd} {con : gCn} {y : MethodName} {ret : Option FieldType} {rm : Room} {As : List Value} {b : Nat} {a : Array Value}
variable {Pc : Array Value → State → Prop} {Qc : Array Value → State → Outcome → State → Prop} {XC : String → State → State → Prop} {free : Addr → Prop}
theorem gXw_at (X : gX p s m args c cc own nL G A) {w : Cond} (h : w ∈ gwl ∨ w ∈ gXw) : w.before args s = true := by
  rcases h with h | h
  · exact X.1.2.2.2.2 w h
  · rcases List.mem_append.mp h with h | h
    · obtain ⟨q, hq, rfl⟩ := List.mem_map.mp h
      exact va_Nw.use rfl (X.2.2.1.2.1 q hq)
    · obtain ⟨q, hq, rfl⟩ := List.mem_map.mp h
      exact va_Nw.use rfl (X.2.2.1.2.2.1 q hq)
/-- throw new E("text") -/
theorem r_throw (X : gX p s m args c cc own nL G A) (hst : l.stackTraces = false) (hw : gW G A s.heap H locs lv ad con) (k : Nat) {cls text : String} {ik is ic : Nat} (hk0 : gExc k cls) (hcls : Bundle.fit cls = true) (hkl : Cond.classLink own ik cls ∈ gwl) (hini : Cond.initialized cls ∈ gwl) (hstr : (own, is, text) ∈ gStr)
    (hat : ∀ w ∈ vx_atS own ic cls gNames, w ∈ gwl ∨ w ∈ gXw) (hgood : (Cond.classLink own ik cls :: Cond.initialized cls :: vx_atS own ic cls gNames).all vx_ot = true) (hsize : ls.size = nL)
    (d0 : decode cc pc = .ok (.new ik, 3)) (d3 : decode cc (pc + 3) = .ok (.dup, 1)) (d4 : decode cc (pc + 4) = .ok (.ldc is, 2)) (d6 : decode cc (pc + 6) = .ok (.invokespecial ic, 3)) (d9 : decode cc (pc + 9) = .ok (.athrow, 1))
    (ht : ∀ x ∈ c.exceptionTable.toList, False) (hRf : 5 < R.frames) (hRl : (rest.map fun v => v.category).sum + 82 ≤ R.locals) (hRc : cells + 1 ≤ R.cells) (hRs : slots + 6 ≤ R.slots) (hlocks : meth.locks = false) (hc : cells + 1 ≤ mc) (hs : slots + 6 ≤ ms) {k' : Nat} (hk' : k' = k) :
    W p l e R s m args below meth c H locs cells slots (vx_MQ below Qc (gXC G A lv ad con k') args s mc ms A) (F0 m pc ls rest) := by
  subst hk'
  obtain ⟨sa, hsa⟩ := X.2.2.2.1.2.2.2.2 _ hstr
  refine vx_throwS (A := A) (names := gNames) (ik := ik) (is := is) (ic := ic) (cls := cls) (text := text) X.1.1 X.1.2.1 hst X.1.2.2.2.1 hcls (by decide) (X.1.2.2.2.2 _ hkl) (X.1.2.2.2.2 _ hini) hsa (fun w hw => gXw_at X (hat w hw)) (x_good hgood)
    X.2.2.2.1.2.2.2.1.1 X.2.2.2.1.2.2.2.1.2 hw.2 (hsize.trans X.1.2.2.1.symm) d0 d3 d4 d6 d9 (fun x hx => (ht x hx).elim) hRf hRl hRc hRs hlocks ?_ (fun z hz => hw.2.2.2 z hz) hc hs
  intro t ht1 ht2 ht3
  refine ⟨(), trivial, ⟨hk0, hw.1.kept (fun κ n hl => ht3 _ (hw.1.lt hl))⟩, Nat.le_trans hw.2.1 ht2, fun q h1 h2 => ?_⟩
  rw [ht3 q (Nat.lt_of_lt_of_le h1 hw.2.1)]
  exact hw.2.2.1 q h1 h2
theorem x_runV (X : gX p s m args c cc own nL G A) (hM : vx_Met l y (.code y bytes maxL ret :: gwl) rm Pc Qc XC rm.cells rm.slots free) (hy : gyI y bytes maxL ret n) (hml : Cond.methodLink own idx y ∈ gwl) (hR : rm.frames + 1 ≤ R.frames ∧ 8 + (maxL + 11) + rm.locals ≤ R.locals)
    (hb : FrameBlind Pc) (hrec : ∃ cellB : Cell, H[b]? = some cellB ∧ cellB.vm.isStatics = false ∧ s.vm.findClass y.cls = some cellB.cls) (hp : ∀ U : State, U.heap = H → s.WarmedH U.vm → Pc (Value.ref b :: As).toArray U)
    (hn : As.length = n) (hsz : ls.size = nL) (hst : st0 = As.reverse ++ .ref b :: rest) (hW : (rest.map fun v => v.category).sum ≤ 8) (hdg : decode cc pc = .ok (.invokevirtual idx, 3)) (hf : cells + rm.cells ≤ R.cells ∧ slots + rm.slots ≤ R.slots) :
    vx_Run p l e R s m args below meth c H locs cells slots rm.cells rm.slots (F0 m pc ls st0) rest (Qc (Value.ref b :: As).toArray) XC free :=
  vx_runV (C := y.cls) X.1 hM ⟨gwl_callB X hy.2.1 hy.2.2.1 hy.2.2.2 hml hR, X.1.2.2.2.2 _ hy.1.1, X.1.2.2.2.2 _ hy.1.2⟩ ⟨hb, hrec, hp⟩ rfl hn hsz hst (lv_room hW) hdg hf
/-- a throw that goes on to the caller -/
theorem x_on (X : gX p s m args c cc own nL G A) {E : String} {ce : Cell} {q : Addr} (hw : gW G A s.heap H locs lv ad con) {k : Nat} (hE : gExc k E) (ht : ∀ x ∈ c.exceptionTable.toList, False) (hlocks : meth.locks = false) (hcell : H[q]? = some ce) (hv : ce.vm = .none) (hcl : s.vm.findClass E = some ce.cls) (hc : cells ≤ mc) (hs : slots ≤ ms) {k' : Nat} (hk' : k' = k) :
    vx_W p l e R s m args below meth c H locs cells slots (vx_MQ below Qc (gXC G A lv ad con k') args s mc ms A) (F0 m pc ls rest) q := by
  subst hk'
  exact vx_out (fun x hx => (ht x hx).elim) hlocks hcell hv hcl (fun t ht _ => ⟨(), trivial, ⟨hE, by rw [ht]; exact hw.1⟩, hw.2.F ht⟩) (fun z hz => hw.2.2.2 z hz) hc hs
theorem gW_backX (X : gX p s m args c cc own nL G A) (hw : gW G A s.heap H locs lv ad con) {lv' : gLv} {ad' : gAd} {con' : gCn} {H1 : Heap} {locs1 : List Loc} (hb : gV G (gA lv ad H.size) lv' ad' con' H1) (hS : va_S A s.heap H1 locs1) : gW G A s.heap H1 locs1 lv' ad' con' :=
  ⟨hb.weaken (fun κ k h => gA_in X hw _ (hb.2.2 κ k h)), hS⟩
/-- a reference comes back, or a throw -/
theorem x_rr (X : gX p s m args c cc own nL G A) (hw : gW G A s.heap H locs lv ad con) {k ra : Nat} {con1 : gCn} (hr : vx_Run p l e R s m args below meth c H locs cells slots mc ms (F0 m pc ls st0) rest (gQr G (gA lv ad H.size) (fun v u => k = 0 ∧ gEr ra lv ad con1 v u) a) (gXC G (gA lv ad H.size) lv ad con1 k) (gA lv ad H.size))
    (kx : ∀ (E : String) (ce : Cell) (q : Addr) (H1 : Heap) (locs1 : List Loc), gExc k E → gW G A s.heap H1 locs1 lv ad con1 → H1[q]? = some ce → ce.vm = .none → s.vm.findClass E = some ce.cls → vx_W p l e R s m args below meth c H1 locs1 (cells + mc) (slots + ms) Q (F0 m pc ls rest) q)
    (kk : ∀ (H1 : Heap) (locs1 : List Loc), k = 0 → gW G A s.heap H1 locs1 lv ad con1 → W p l e R s m args below meth c H1 locs1 (cells + mc) (slots + ms) Q (F0 m (pc + 3) ls (.ref ra :: rest))) : W p l e R s m args below meth c H locs cells slots Q (F0 m pc ls st0) := by
  intro T hT X1
  rcases hr T hT X1 with ⟨v, st₀, t, T', L, h0, X', hL, e1, e2, ⟨⟨u, a1, hv, _, ⟨hk, ha, hu⟩, hB⟩, hF⟩, st⟩ | ⟨q, st₀, t, T', L, E, ce, h0, X', hL, e1, e2, ⟨_, _, ⟨hE, hB⟩, hF⟩, hce, hcv, hcl, st⟩
  · cases hv
    subst ha
    cases hu
    obtain ⟨k1, k2, k3⟩ := vx_keep h0 e1 hw.2 (fun q _ h => gA_in X hw q h) (gA_in X hw) hL hF
    obtain ⟨t2, a2, b2⟩ := kk T'.heap (locs ++ L) hk (gW_backX X hw (by rw [e1]; exact hB) k3) T' rfl X'
    exact ⟨t2, st t2 a2, b2⟩
  · obtain ⟨k1, k2, k3⟩ := vx_keep h0 e1 hw.2 (fun q _ h => gA_in X hw q h) (gA_in X hw) hL hF
    obtain ⟨t2, a2, b2⟩ := kx E ce q T'.heap (locs ++ L) hE (gW_backX X hw (by rw [e1]; exact hB) k3) (by rw [e1]; exact hce) hcv hcl T' rfl X'
    exact ⟨t2, st.trans a2, b2⟩
/-- an int comes back, or a throw -/
theorem x_ri (X : gX p s m args c cc own nL G A) (hw : gW G A s.heap H locs lv ad con) {r : Nat × Int32 × gCT} {con1 : gCn} (hr : vx_Run p l e R s m args below meth c H locs cells slots mc ms (F0 m pc ls st0) rest (gQi G (gA lv ad H.size) (fun v u => r.1 = 0 ∧ gE r.2.1 lv ad (gF G r.2.2 ad) v u) a) (gXC G (gA lv ad H.size) lv ad con1 r.1) (gA lv ad H.size))
    (kx : ∀ (E : String) (ce : Cell) (q : Addr) (H1 : Heap) (locs1 : List Loc), gExc r.1 E → gW G A s.heap H1 locs1 lv ad con1 → H1[q]? = some ce → ce.vm = .none → s.vm.findClass E = some ce.cls → vx_W p l e R s m args below meth c H1 locs1 (cells + mc) (slots + ms) Q (F0 m pc ls rest) q)
    (kk : ∀ (H1 : Heap) (locs1 : List Loc), r.1 = 0 → gW G A s.heap H1 locs1 lv ad (gF G r.2.2 ad) → W p l e R s m args below meth c H1 locs1 (cells + mc) (slots + ms) Q (F0 m (pc + 3) ls (.int r.2.1 :: rest))) : W p l e R s m args below meth c H locs cells slots Q (F0 m pc ls st0) := by
  intro T hT X1
  rcases hr T hT X1 with ⟨v, st₀, t, T', L, h0, X', hL, e1, e2, ⟨⟨v1, u, hv, ⟨hk, ha, hu⟩, hB⟩, hF⟩, st⟩ | ⟨q, st₀, t, T', L, E, ce, h0, X', hL, e1, e2, ⟨_, _, ⟨hE, hB⟩, hF⟩, hce, hcv, hcl, st⟩
  · cases hv
    subst ha
    cases hu
    obtain ⟨k1, k2, k3⟩ := vx_keep h0 e1 hw.2 (fun q _ h => gA_in X hw q h) (gA_in X hw) hL hF
    obtain ⟨t2, a2, b2⟩ := kk T'.heap (locs ++ L) hk (gW_backX X hw (by rw [e1]; exact hB) k3) T' rfl X'
    exact ⟨t2, st t2 a2, b2⟩
  · obtain ⟨k1, k2, k3⟩ := vx_keep h0 e1 hw.2 (fun q _ h => gA_in X hw q h) (gA_in X hw) hL hF
    obtain ⟨t2, a2, b2⟩ := kx E ce q T'.heap (locs ++ L) hE (gW_backX X hw (by rw [e1]; exact hB) k3) (by rw [e1]; exact hce) hcv hcl T' rfl X'
    exact ⟨t2, st.trans a2, b2⟩
theorem x_rv (X : gX p s m args c cc own nL G A) (hw : gW G A s.heap H locs lv ad con) {r : Nat × Int32 × gCT} {con1 : gCn} (hr : vx_Run p l e R s m args below meth c H locs cells slots mc ms (F0 m pc ls st0) rest (gQv G (gA lv ad H.size) (fun u => r.1 = 0 ∧ gEv lv ad (gF G r.2.2 ad) u) a) (gXC G (gA lv ad H.size) lv ad con1 r.1) (gA lv ad H.size))
    (kx : ∀ (E : String) (ce : Cell) (q : Addr) (H1 : Heap) (locs1 : List Loc), gExc r.1 E → gW G A s.heap H1 locs1 lv ad con1 → H1[q]? = some ce → ce.vm = .none → s.vm.findClass E = some ce.cls → vx_W p l e R s m args below meth c H1 locs1 (cells + mc) (slots + ms) Q (F0 m pc ls rest) q)
    (kk : ∀ (H1 : Heap) (locs1 : List Loc), r.1 = 0 → gW G A s.heap H1 locs1 lv ad (gF G r.2.2 ad) → W p l e R s m args below meth c H1 locs1 (cells + mc) (slots + ms) Q (F0 m (pc + 3) ls rest)) : W p l e R s m args below meth c H locs cells slots Q (F0 m pc ls st0) := by
  intro T hT X1
  rcases hr T hT X1 with ⟨v, st₀, t, T', L, h0, X', hL, e1, e2, ⟨⟨u, hv, ⟨hk, hu⟩, hB⟩, hF⟩, st⟩ | ⟨q, st₀, t, T', L, E, ce, h0, X', hL, e1, e2, ⟨_, _, ⟨hE, hB⟩, hF⟩, hce, hcv, hcl, st⟩
  · cases hv
    cases hu
    obtain ⟨k1, k2, k3⟩ := vx_keep h0 e1 hw.2 (fun q _ h => gA_in X hw q h) (gA_in X hw) hL hF
    obtain ⟨t2, a2, b2⟩ := kk T'.heap (locs ++ L) hk (gW_backX X hw (by rw [e1]; exact hB) k3) T' rfl X'
    exact ⟨t2, st t2 a2, b2⟩
  · obtain ⟨k1, k2, k3⟩ := vx_keep h0 e1 hw.2 (fun q _ h => gA_in X hw q h) (gA_in X hw) hL hF
    obtain ⟨t2, a2, b2⟩ := kx E ce q T'.heap (locs ++ L) hE (gW_backX X hw (by rw [e1]; exact hB) k3) (by rw [e1]; exact hce) hcv hcl T' rfl X'
    exact ⟨t2, st.trans a2, b2⟩
theorem x_met {Qc : Nat → Array Value → State → Outcome → State → Prop} {XC : Nat → String → State → State → Prop} {ret : Option FieldType} (hy : plainName y.cls = true) (hown : y.cls = own) (hent : (lg_sl As).length ≤ maxL)
    (body : ∀ (p : Program) (e : Env) (s : State) (m : MethodId) (below : List Frame) (meth : Method) (c : Code) (ls : Array Slot), gX p s m As.toArray c cc own maxL G (gA lv ad s.heap.size) → gW G (gA lv ad s.heap.size) s.heap s.heap [] lv ad con → meth.sig.returnType = ret → meth.locks = false → (∀ x ∈ c.exceptionTable.toList, False) → lv_has ls maxL (lv_args 0 As) →
      W p l e rm s m As.toArray below meth c s.heap [] 0 0 (vx_MQ below (Qc s.heap.size) (XC s.heap.size) As.toArray s rm.cells rm.slots (gA lv ad s.heap.size)) (F0 m 0 ls [])) :
    ∀ sz, vx_Met l y (.code y cc maxL ret :: gwl) rm (gP G As lv ad con sz) (Qc sz) (XC sz) rm.cells rm.slots (gA lv ad sz) := by
  intro sz
  refine vx_ofW (cc := cc) (maxL := maxL) (ret := ret) hy rfl ?_
  intro p e s m args below meth c s₁ B hml ht hv
  obtain ⟨rfl, hsz, hV, hK, hN, hS⟩ := hv
  subst hsz
  have hts := atoms_spec (ws := .code y cc maxL ret :: gwl) B.pre
  have hfc : s.vm.findClass own = some m.cls := by rw [← hown]; exact findClass_of_methodNamed B.named
  have hl := lv_entry As (n := maxL) hent
  rw [lg_entry_eq]
  exact body p e s m below meth c _ ⟨⟨B.exec, B.bytes, hml, hfc, fun w hw => hts w (List.mem_cons_of_mem _ hw)⟩, hK, hN, hS, fun q h => Or.inr h⟩ ⟨hV.self s.heap.size, va_S.rf⟩ B.returns B.notSynchronized ht hl
theorem x_iret {C : gCT} (X : gX p s m args c cc own nL G A) (hw : gW G A s.heap H locs lv ad (gF G C ad)) {v : Int32} {ty : FieldType} (hr : meth.sig.returnType = some ty) (hn : narrow ty (.int v) = .int v) (hlk : meth.locks = false) (hc : cells ≤ mc) (hs : slots ≤ ms) {r : Nat × Int32 × gCT} (hp : r = (0, v, C)) (hdg : decode cc pc = .ok (.ireturn, 1)) :
    W p l e R s m args below meth c H locs cells slots (vx_MQ below (gQi G A (fun v u => r.1 = 0 ∧ gE r.2.1 lv ad (gF G r.2.2 ad) v u)) XC args s mc ms A) (F0 m pc ls [.int v]) := by
  subst hp
  exact W.widen hc hs (vx_ret (r_iret X hw hr hn hlk (Nat.le_refl _) (Nat.le_refl _) ⟨rfl, rfl, rfl⟩ hdg))
theorem x_vret {C : gCT} (X : gX p s m args c cc own nL G A) (hw : gW G A s.heap H locs lv ad (gF G C ad)) (hr : meth.sig.returnType = none) (hlk : meth.locks = false) (hc : cells ≤ mc) (hs : slots ≤ ms) {r : Nat × Int32 × gCT} (hp : r = (0, 0, C)) (hdg : decode cc pc = .ok (.return_, 1)) :
    W p l e R s m args below meth c H locs cells slots (vx_MQ below (gQv G A (fun u => r.1 = 0 ∧ gEv lv ad (gF G r.2.2 ad) u)) XC args s mc ms A) (F0 m pc ls []) := by
  subst hp
  exact W.widen hc hs (vx_ret (r_vret X hw hr hlk (Nat.le_refl _) (Nat.le_refl _) ⟨rfl, rfl⟩ hdg))
theorem x_aret (X : gX p s m args c cc own nL G A) (hw : gW G A s.heap H locs lv ad con) {v : Nat} {rt : FieldType} (hr : meth.sig.returnType = some rt) (hrt : (∃ n, rt = .object n) ∨ ∃ t, rt = .array t) (hlk : meth.locks = false) (hc : cells ≤ mc) (hs : slots ≤ ms) {k a0 : Nat} (hp : k = 0) (ha : v = a0) (hdg : decode cc pc = .ok (.areturn, 1)) :
    W p l e R s m args below meth c H locs cells slots (vx_MQ below (gQr G A (fun v u => k = 0 ∧ gEr a0 lv ad con v u)) XC args s mc ms A) (F0 m pc ls [.ref v]) := by
  subst ha
  exact W.widen hc hs (vx_ret (r_aret X hw hr hrt hlk (Nat.le_refl _) (Nat.le_refl _) ⟨hp, rfl, rfl⟩ hdg))
theorem r_acmp_ne (X : gX p s m args c cc own nL G A) (hw : gW G A s.heap H locs lv ad con) (κ a1 b1 : Nat) (ha : lv κ a1) (hb1 : lv κ b1) {off : Int} {tgt : Nat} (hdg : decode cc pc = .ok (.if_acmp .ne off, 3)) (ht : (pc : Int) + off = (tgt : Int))
    (kt : ¬ a1 = b1 → W p l e R s m args below meth c H locs cells slots Q (F0 m tgt ls rest)) (kf : a1 = b1 → W p l e R s m args below meth c H locs cells slots Q (F0 m (pc + 3) ls rest)) : W p l e R s m args below meth c H locs cells slots Q (F0 m pc ls (.ref (ad κ b1) :: .ref (ad κ a1) :: rest)) :=
  lv_acmp_ne (rx := some (ad κ a1)) (ry := some (ad κ b1)) X.1.1 X.1.2.1 hdg ht (fun h => kt (fun q => h (by rw [q]))) (fun h => kf (hw.1.2.1 κ a1 κ b1 ha hb1 (Option.some.inj h)).2)
end GT
theorem lc_RX5_107 : Cond.constant RX5 107 100000 ∈ gwl := gwl_of (by decide +kernel) rfl
theorem gExc_ne {k : Nat} {E : String} (h : gExc k E) : ¬ k = 0 := by rcases h with ⟨h, -⟩ | ⟨h, -⟩ | ⟨h, -⟩ <;> omega
theorem sx_238 : (RX5, 238, "no such form") ∈ gStr := List.mem_of_getElem? (i := 0) rfl
theorem sx_50 : (RX5, 50, "no such instruction") ∈ gStr := List.mem_of_getElem? (i := 1) rfl
theorem sx_65 : (RX5, 65, "argument out of range") ∈ gStr := List.mem_of_getElem? (i := 2) rfl
theorem sx_79 : (RX5, 79, "the draft is full") ∈ gStr := List.mem_of_getElem? (i := 3) rfl
theorem sx_93 : (RX5, 93, "an empty draft, or no more versions") ∈ gStr := List.mem_of_getElem? (i := 4) rfl
theorem sx_102 : (RX5, 102, "fuel out of range") ∈ gStr := List.mem_of_getElem? (i := 5) rfl
theorem sx_108 : (RX5, 108, "cents out of range") ∈ gStr := List.mem_of_getElem? (i := 6) rfl
theorem sx_115 : (RX5, 115, "no such panel") ∈ gStr := List.mem_of_getElem? (i := 7) rfl
theorem sx_118 : (RX5, 118, "quota out of range") ∈ gStr := List.mem_of_getElem? (i := 8) rfl
theorem sx_123 : (RX5, 123, "no such question") ∈ gStr := List.mem_of_getElem? (i := 9) rfl
theorem sx_125 : (RX5, 125, "price out of range") ∈ gStr := List.mem_of_getElem? (i := 10) rfl
theorem sx_127 : (RX5, 127, "no such respondent") ∈ gStr := List.mem_of_getElem? (i := 11) rfl
theorem sx_136 : (RX5, 136, "no version, a run already, or no more runs") ∈ gStr := List.mem_of_getElem? (i := 12) rfl
theorem sx_240 : (RX5, 240, "no such run") ∈ gStr := List.mem_of_getElem? (i := 13) rfl
theorem sx_158 : (RX5, 158, "value out of range") ∈ gStr := List.mem_of_getElem? (i := 14) rfl
theorem sx_166 : (RX5, 166, "the run does not ask") ∈ gStr := List.mem_of_getElem? (i := 15) rfl
theorem sx_178 : (RX5, 178, "the budget is less than the price") ∈ gStr := List.mem_of_getElem? (i := 16) rfl
theorem sx_194 : (RX5, 194, "the run is not saved") ∈ gStr := List.mem_of_getElem? (i := 17) rfl
theorem sx_200 : (RX5, 200, "the run has ended") ∈ gStr := List.mem_of_getElem? (i := 18) rfl
theorem sx_209 : (RX5, 209, "no such slot") ∈ gStr := List.mem_of_getElem? (i := 19) rfl
theorem sx_217 : (RX5, 217, "no such answer") ∈ gStr := List.mem_of_getElem? (i := 20) rfl
theorem x_gd_1 : (Cond.classLink RX5 113 "java/lang/IndexOutOfBoundsException" :: Cond.initialized "java/lang/IndexOutOfBoundsException" :: vx_atS RX5 117 "java/lang/IndexOutOfBoundsException" gNames).all vx_ot = true := by decide +kernel
theorem x_gd_2 : (Cond.classLink RX5 48 "java/lang/IllegalArgumentException" :: Cond.initialized "java/lang/IllegalArgumentException" :: vx_atS RX5 52 "java/lang/IllegalArgumentException" gNames).all vx_ot = true := by decide +kernel
theorem x_gd_3 : (Cond.classLink RX5 77 "java/lang/IllegalStateException" :: Cond.initialized "java/lang/IllegalStateException" :: vx_atS RX5 81 "java/lang/IllegalStateException" gNames).all vx_ot = true := by decide +kernel

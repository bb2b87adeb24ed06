/-! ===== contracts over worlds ===== -/
abbrev gSt : Type := gLv × gAd × gCn
def gK (G : gG) (A : Nat → Prop) (U : State) : Prop := va_K G.1 vwCl (gT G) U ∧ gN U ∧ gS G A U U.heap
def gP (G : gG) (As : List Value) (lv : gLv) (ad : gAd) (con : gCn) (sz : Nat) : Array Value → State → Prop := va_Pc As (fun U => U.heap.size = sz ∧ gV G (fun _ => True) lv ad con U.heap ∧ gK G (gA lv ad sz) U)
def gQB (G : gG) (A : Nat → Prop) (u : gSt) (t : State) : Prop := gV G A u.1 u.2.1 u.2.2 t.heap
def gQi (G : gG) (A : Nat → Prop) (post : Int32 → gSt → Prop) : Array Value → State → Outcome → State → Prop := va_Qi post (gQB G A) A
def gQv (G : gG) (A : Nat → Prop) (post : gSt → Prop) : Array Value → State → Outcome → State → Prop := va_Qv post (gQB G A) A
def gQr (G : gG) (A : Nat → Prop) (post : Nat → gSt → Prop) : Array Value → State → Outcome → State → Prop := va_Qr (fun _ : gSt => True) (fun u a t => post a u ∧ gQB G A u t) A
/-- the heap stays as it is -/
def gU (v : Option Value) : Array Value → State → Outcome → State → Prop := fun _ st oc t => oc = .returned v ∧ t.heap = st.heap
/-- an exact answer, an exact world -/
def gE (r : Int32) (lv : gLv) (ad : gAd) (con : gCn) : Int32 → gSt → Prop := fun r' u => r' = r ∧ u = (lv, ad, con)
def gEv (lv : gLv) (ad : gAd) (con : gCn) : gSt → Prop := fun u => u = (lv, ad, con)
def gEr (r : Nat) (lv : gLv) (ad : gAd) (con : gCn) : Nat → gSt → Prop := fun r' u => r' = r ∧ u = (lv, ad, con)
abbrev gMi (l : Launch) (y : MethodName) (cc : ByteArray) (maxL : Nat) (ret : Option FieldType) (rm : Room) (G : gG) (As : List Value) (lv : gLv) (ad : gAd) (con : gCn) (post : Int32 → gSt → Prop) : Prop := ∀ sz, Met l y (.code y cc maxL ret :: gwl) rm (gP G As lv ad con sz) (gQi G (gA lv ad sz) post) rm.cells rm.slots (gA lv ad sz)
abbrev gMv (l : Launch) (y : MethodName) (cc : ByteArray) (maxL : Nat) (rm : Room) (G : gG) (As : List Value) (lv : gLv) (ad : gAd) (con : gCn) (post : gSt → Prop) : Prop := ∀ sz, Met l y (.code y cc maxL none :: gwl) rm (gP G As lv ad con sz) (gQv G (gA lv ad sz) post) rm.cells rm.slots (gA lv ad sz)
abbrev gMr (l : Launch) (y : MethodName) (cc : ByteArray) (maxL : Nat) (ret : Option FieldType) (rm : Room) (G : gG) (As : List Value) (lv : gLv) (ad : gAd) (con : gCn) (post : Nat → gSt → Prop) : Prop := ∀ sz, Met l y (.code y cc maxL ret :: gwl) rm (gP G As lv ad con sz) (gQr G (gA lv ad sz) post) rm.cells rm.slots (gA lv ad sz)
/-- a method that leaves the heap as it is -/
abbrev gMp (l : Launch) (y : MethodName) (cc : ByteArray) (maxL : Nat) (ret : Option FieldType) (rm : Room) (As : List Value) (B : State → Prop) (v : Option Value) : Prop := Met l y (.code y cc maxL ret :: gwl) rm (va_Pc As B) (gU v) rm.cells rm.slots (fun _ => False)
abbrev gRm (f l c s : Nat) : Room := { frames := f, cells := c, slots := s, locals := l }
theorem gS.same {G : gG} {A : Nat → Prop} {s U : State} {H : Heap} (hv : U.vm = s.vm) (h : gS G A s H) : gS G A U H := by
  have hA : s.vm.Alike U.vm := by rw [hv]; exact Vm.Alike.refl _
  exact ⟨⟨va_Z.moved hA h.1.1, va_T.moved hA h.1.2⟩, ⟨va_Z.moved hA h.2.1.1, va_T.moved hA h.2.1.2⟩, ⟨⟨va_Z.moved hA h.2.2.1.1.1, va_T.moved hA h.2.2.1.1.2⟩, va_Mi.moved hA h.2.2.1.2⟩, ⟨vx_Zq.moved hA h.2.2.2.1.1, vx_Zq.moved hA h.2.2.2.1.2⟩, h.2.2.2.2.same hv⟩
theorem gP.blind {G : gG} {As : List Value} {lv : gLv} {ad : gAd} {con : gCn} {sz : Nat} : FrameBlind (gP G As lv ad con sz) := by
  intro a U g mk h
  obtain ⟨h1, h2, h3, h4, h5, h6⟩ := h
  exact ⟨h1, h2, h3, va_K.moved (u := U) (U := U.calling g mk a) (Vm.Alike.refl U.vm) h4, gN.same (s := U) (U := U.calling g mk a) rfl h5, gS.same (s := U) (U := U.calling g mk a) rfl h6⟩
section GC
variable {p : Program} {l : Launch} {e : Env} {R : Room} {s : State} {m : MethodId} {args : Array Value} {below : List Frame} {meth : Method} {c : Code} {H : Heap} {locs : List Loc} {cells slots : Nat} {Q : State → Prop}
variable {cc bytes : ByteArray} {own : String} {nL pc maxL n idx mc ms : Nat} {ls : Array Slot} {rest st0 : List Value} {G : gG} {A : Nat → Prop} {lv : gLv} {ad : gAd} {con : gCn} {y : MethodName} {ret : Option FieldType} {rm : Room} {As : List Value} {b : Nat} {a : Array Value}
theorem gA_in (X : gX p s m args c cc own nL G A) (hw : gW G A s.heap H locs lv ad con) : ∀ q, gA lv ad H.size q → A q := by
  intro q h
  rcases h with ⟨κ, k, h1, rfl⟩ | h
  · exact hw.1.2.2 κ k h1
  · exact X.2.2.2.2 q (Nat.le_trans hw.2.1 h)
/-- the world, as a callee finds it -/
theorem gP_call (X : gX p s m args c cc own nL G A) (hw : gW G A s.heap H locs lv ad con) (As : List Value) : ∀ U : State, U.heap = H → s.WarmedH U.vm → gP G As lv ad con H.size As.toArray U := by
  intro U hU hW
  refine ⟨rfl, by rw [hU], by rw [hU]; exact hw.1.weaken (fun _ _ _ => trivial), va_K.moved hW.alike X.2.1, X.2.2.1.warm hW, ?_⟩
  rw [hU]
  exact ((X.2.2.2.1.kept hw.2.2.1).narrow (gA_in X hw)).warm hW
def gyI (y : MethodName) (bytes : ByteArray) (maxL : Nat) (ret : Option FieldType) (n : Nat) : Prop := (Cond.instanceMethod y ∈ gwl ∧ Cond.selects y.cls y y ∈ gwl) ∧ Cond.initialized y.cls ∈ gwl ∧ Cond.code y bytes maxL ret ∈ gwl ∧ (y.cls ≠ "java/lang/invoke/MethodHandle" ∧ y.cls ≠ "java/lang/invoke/VarHandle" ∧ (parseMethodDescriptor y.desc).map (fun d => d.parameters.length) = some n)
def gyS (y : MethodName) (bytes : ByteArray) (maxL : Nat) (ret : Option FieldType) (n : Nat) : Prop := Cond.static y ∈ gwl ∧ Cond.initialized y.cls ∈ gwl ∧ Cond.code y bytes maxL ret ∈ gwl ∧ (y.cls ≠ "java/lang/invoke/MethodHandle" ∧ y.cls ≠ "java/lang/invoke/VarHandle" ∧ (parseMethodDescriptor y.desc).map (fun d => d.parameters.length) = some n)
def gyN (y : MethodName) (bytes : ByteArray) (maxL : Nat) (n : Nat) : Prop := (Cond.instanceMethod y ∈ gwl ∧ y.name = "<init>") ∧ Cond.initialized y.cls ∈ gwl ∧ Cond.code y bytes maxL none ∈ gwl ∧ (y.cls ≠ "java/lang/invoke/MethodHandle" ∧ y.cls ≠ "java/lang/invoke/VarHandle" ∧ (parseMethodDescriptor y.desc).map (fun d => d.parameters.length) = some n)
theorem gwl_code {bytes : ByteArray} (h : Cond.code y bytes maxL ret ∈ gwl) : GoodIn gwl (.code y bytes maxL ret :: gwl) := gwl_app (fun w hw => (List.mem_cons.mp hw).elim (fun e => by rw [e]; exact h) id)
theorem gwl_warm (X : gX p s m args c cc own nL G A) (h : Cond.code y bytes maxL ret ∈ gwl) : ∀ w ∈ (.code y bytes maxL ret :: gwl : List Cond), ∀ (a' : Array Value) (U : State), s.WarmedH U.vm → w.before a' U = true := pay_in X.1.2.2.2.2 (gwl_code h)
theorem gwl_callB (X : gX p s m args c cc own nL G A) (h1 : Cond.initialized y.cls ∈ gwl) (h2 : Cond.code y bytes maxL ret ∈ gwl) (h3 : y.cls ≠ "java/lang/invoke/MethodHandle" ∧ y.cls ≠ "java/lang/invoke/VarHandle" ∧ (parseMethodDescriptor y.desc).map (fun d => d.parameters.length) = some n) (hl : Cond.methodLink own idx y ∈ gwl) (hR : rm.frames + 1 ≤ R.frames ∧ 8 + (maxL + 11) + rm.locals ≤ R.locals) :
    CallB R s args own idx y bytes maxL ret (.code y bytes maxL ret :: gwl) rm rm.cells rm.slots n :=
  callB_of n X.1.2.2.2.2 (gwl_code h2) rfl rfl rfl (X.1.2.2.2.2 _ h1) (X.1.2.2.2.2 _ hl) h3 hR
/-- an object of the world takes a call -/
theorem g_recv (X : gX p s m args c cc own nL G A) (hw : gW G A s.heap H locs lv ad con) (κ k : Nat) (hl : lv κ k) {ci : Nat} {fs : List Value} (he : con κ k = .inr (ci, fs)) {C : String} {T : u_T} {N : Nat} (hc : vwCl[ci]? = some (C, T, N)) : ∃ cellB : Cell, H[ad κ k]? = some cellB ∧ cellB.vm.isStatics = false ∧ s.vm.findClass C = some cellB.cls :=
  va_recv X.2.1 (hw.1.one hl he) hc (q0 := 0) rfl
variable {Pc : Array Value → State → Prop} {Qc : Array Value → State → Outcome → State → Prop} {free : Addr → Prop}
theorem r_runV (X : gX p s m args c cc own nL G A) (hM : Met l y (.code y bytes maxL ret :: gwl) rm Pc Qc rm.cells rm.slots free) (hy : gyI y bytes maxL ret n) (hml : Cond.methodLink own idx y ∈ gwl) (hR : rm.frames + 1 ≤ R.frames ∧ 8 + (maxL + 11) + rm.locals ≤ R.locals)
    (hb : FrameBlind Pc) (hrec : ∃ cellB : Cell, H[b]? = some cellB ∧ cellB.vm.isStatics = false ∧ s.vm.findClass y.cls = some cellB.cls) (hp : ∀ U : State, U.heap = H → s.WarmedH U.vm → Pc (Value.ref b :: As).toArray U)
    (hn : As.length = n) (hsz : ls.size = nL) (hst : st0 = As.reverse ++ .ref b :: rest) (hW : (rest.map fun v => v.category).sum ≤ 8) (hdg : decode cc pc = .ok (.invokevirtual idx, 3)) (hf : cells + rm.cells ≤ R.cells ∧ slots + rm.slots ≤ R.slots) :
    va_Run p l e R s m args below meth c H locs cells slots rm.cells rm.slots (F0 m pc ls st0) rest (Qc (Value.ref b :: As).toArray) free :=
  va_runV (C := y.cls) X.1 hM ⟨gwl_callB X hy.2.1 hy.2.2.1 hy.2.2.2 hml hR, X.1.2.2.2.2 _ hy.1.1, X.1.2.2.2.2 _ hy.1.2⟩ ⟨hb, hrec, hp⟩ rfl hn hsz hst (lv_room hW) hdg hf
theorem r_runS (X : gX p s m args c cc own nL G A) (hM : Met l y (.code y bytes maxL ret :: gwl) rm Pc Qc rm.cells rm.slots free) (hy : gyS y bytes maxL ret n) (hml : Cond.methodLink own idx y ∈ gwl) (hR : rm.frames + 1 ≤ R.frames ∧ 8 + (maxL + 11) + rm.locals ≤ R.locals)
    (hb : FrameBlind Pc) (hp : ∀ U : State, U.heap = H → s.WarmedH U.vm → Pc As.toArray U)
    (hn : As.length = n) (hsz : ls.size = nL) (hst : st0 = As.reverse ++ rest) (hW : (rest.map fun v => v.category).sum ≤ 8) (hdg : decode cc pc = .ok (.invokestatic idx, 3)) (hf : cells + rm.cells ≤ R.cells ∧ slots + rm.slots ≤ R.slots) :
    va_Run p l e R s m args below meth c H locs cells slots rm.cells rm.slots (F0 m pc ls st0) rest (Qc As.toArray) free :=
  va_runS X.1 hM ⟨gwl_callB X hy.2.1 hy.2.2.1 hy.2.2.2 hml hR, X.1.2.2.2.2 _ hy.1⟩ ⟨hb, hp⟩ rfl hn hsz hst (lv_room hW) hdg hf
theorem r_runI (X : gX p s m args c cc own nL G A) (hM : Met l y (.code y bytes maxL none :: gwl) rm Pc Qc rm.cells rm.slots free) (hy : gyN y bytes maxL n) (hml : Cond.methodLink own idx y ∈ gwl) (hR : rm.frames + 1 ≤ R.frames ∧ 8 + (maxL + 11) + rm.locals ≤ R.locals)
    (hb : FrameBlind Pc) (hp : ∀ U : State, U.heap = H → s.WarmedH U.vm → Pc (Value.ref b :: As).toArray U)
    (hn : As.length = n) (hsz : ls.size = nL) (hst : st0 = As.reverse ++ .ref b :: rest) (hW : (rest.map fun v => v.category).sum ≤ 8) (hdg : decode cc pc = .ok (.invokespecial idx, 3)) (hf : cells + rm.cells ≤ R.cells ∧ slots + rm.slots ≤ R.slots) :
    va_Run p l e R s m args below meth c H locs cells slots rm.cells rm.slots (F0 m pc ls st0) rest (Qc (Value.ref b :: As).toArray) free :=
  va_runI X.1 hM ⟨gwl_callB X hy.2.1 hy.2.2.1 hy.2.2.2 hml hR, hy.1.2, X.1.2.2.2.2 _ hy.1.1⟩ ⟨hb, hp⟩ rfl hn hsz hst (lv_room hW) hdg hf
theorem gwl_callN (X : gX p s m args c cc own nL G A) {host : String} (h1 : Cond.initialized y.cls ∈ gwl) (h2 : Cond.code y bytes maxL ret ∈ gwl) (h3 : y.cls ≠ "java/lang/invoke/MethodHandle" ∧ y.cls ≠ "java/lang/invoke/VarHandle" ∧ (parseMethodDescriptor y.desc).map (fun d => d.parameters.length) = some n) (hl : (own, idx, y, host) ∈ gNest) (hR : rm.frames + 1 ≤ R.frames ∧ 8 + (maxL + 11) + rm.locals ≤ R.locals) :
    va_CN R s args own idx y host bytes maxL ret (.code y bytes maxL ret :: gwl) rm rm.cells rm.slots n :=
  va_cnB n X.1.2.2.2.2 (gwl_code h2) rfl rfl rfl (X.2.2.1.1 _ hl) (X.1.2.2.2.2 _ h1) h3 hR
theorem r_runSN (X : gX p s m args c cc own nL G A) {host : String} (hM : Met l y (.code y bytes maxL ret :: gwl) rm Pc Qc rm.cells rm.slots free) (hy : gyS y bytes maxL ret n) (hml : (own, idx, y, host) ∈ gNest) (hR : rm.frames + 1 ≤ R.frames ∧ 8 + (maxL + 11) + rm.locals ≤ R.locals)
    (hb : FrameBlind Pc) (hp : ∀ U : State, U.heap = H → s.WarmedH U.vm → Pc As.toArray U)
    (hn : As.length = n) (hsz : ls.size = nL) (hst : st0 = As.reverse ++ rest) (hW : (rest.map fun v => v.category).sum ≤ 8) (hdg : decode cc pc = .ok (.invokestatic idx, 3)) (hf : cells + rm.cells ≤ R.cells ∧ slots + rm.slots ≤ R.slots) :
    va_Run p l e R s m args below meth c H locs cells slots rm.cells rm.slots (F0 m pc ls st0) rest (Qc As.toArray) free :=
  va_runSN X.1 hM ⟨gwl_callN X hy.2.1 hy.2.2.1 hy.2.2.2 hml hR, X.1.2.2.2.2 _ hy.1, trivial⟩ ⟨hb, hp⟩ rfl hn hsz hst (lv_room hW) hdg hf
theorem r_runIN (X : gX p s m args c cc own nL G A) {host : String} (hM : Met l y (.code y bytes maxL none :: gwl) rm Pc Qc rm.cells rm.slots free) (hy : gyN y bytes maxL n) (hml : (own, idx, y, host) ∈ gNest) (hR : rm.frames + 1 ≤ R.frames ∧ 8 + (maxL + 11) + rm.locals ≤ R.locals)
    (hb : FrameBlind Pc) (hp : ∀ U : State, U.heap = H → s.WarmedH U.vm → Pc (Value.ref b :: As).toArray U)
    (hn : As.length = n) (hsz : ls.size = nL) (hst : st0 = As.reverse ++ .ref b :: rest) (hW : (rest.map fun v => v.category).sum ≤ 8) (hdg : decode cc pc = .ok (.invokespecial idx, 3)) (hf : cells + rm.cells ≤ R.cells ∧ slots + rm.slots ≤ R.slots) :
    va_Run p l e R s m args below meth c H locs cells slots rm.cells rm.slots (F0 m pc ls st0) rest (Qc (Value.ref b :: As).toArray) free :=
  va_runIN X.1 hM ⟨gwl_callN X hy.2.1 hy.2.2.1 hy.2.2.2 hml hR, hy.1.2, X.1.2.2.2.2 _ hy.1.1⟩ ⟨hb, hp⟩ rfl hn hsz hst (lv_room hW) hdg hf
/-! what a call goes on with -/
theorem gW_back (X : gX p s m args c cc own nL G A) (hw : gW G A s.heap H locs lv ad con) {u : gSt} {H1 : Heap} {locs1 : List Loc} (hb : gV G (gA lv ad H.size) u.1 u.2.1 u.2.2 H1) (hS : va_S A s.heap H1 locs1) : gW G A s.heap H1 locs1 u.1 u.2.1 u.2.2 :=
  ⟨hb.weaken (fun κ k h => gA_in X hw _ (hb.2.2 κ k h)), hS⟩
theorem r_ri (X : gX p s m args c cc own nL G A) (hw : gW G A s.heap H locs lv ad con) {post : Int32 → gSt → Prop} (hr : va_Run p l e R s m args below meth c H locs cells slots mc ms (F0 m pc ls st0) rest (gQi G (gA lv ad H.size) post a) (gA lv ad H.size))
    (kk : ∀ (r : Int32) (u : gSt) (H1 : Heap) (locs1 : List Loc), post r u → gW G A s.heap H1 locs1 u.1 u.2.1 u.2.2 → W p l e R s m args below meth c H1 locs1 (cells + mc) (slots + ms) Q (F0 m (pc + 3) ls (.int r :: rest))) : W p l e R s m args below meth c H locs cells slots Q (F0 m pc ls st0) :=
  va_calli hr hw.2 (fun q _ h => gA_in X hw q h) (gA_in X hw) (fun r u t H1 locs1 e1 _ hp hB _ _ hS => kk r u H1 locs1 hp (gW_back X hw (by rw [← e1]; exact hB) hS))
theorem r_rv (X : gX p s m args c cc own nL G A) (hw : gW G A s.heap H locs lv ad con) {post : gSt → Prop} (hr : va_Run p l e R s m args below meth c H locs cells slots mc ms (F0 m pc ls st0) rest (gQv G (gA lv ad H.size) post a) (gA lv ad H.size))
    (kk : ∀ (u : gSt) (H1 : Heap) (locs1 : List Loc), post u → gW G A s.heap H1 locs1 u.1 u.2.1 u.2.2 → W p l e R s m args below meth c H1 locs1 (cells + mc) (slots + ms) Q (F0 m (pc + 3) ls rest)) : W p l e R s m args below meth c H locs cells slots Q (F0 m pc ls st0) :=
  va_callv hr hw.2 (fun q _ h => gA_in X hw q h) (gA_in X hw) (fun u t H1 locs1 e1 _ hp hB _ _ hS => kk u H1 locs1 hp (gW_back X hw (by rw [← e1]; exact hB) hS))
theorem r_rr (X : gX p s m args c cc own nL G A) (hw : gW G A s.heap H locs lv ad con) {post : Nat → gSt → Prop} (hr : va_Run p l e R s m args below meth c H locs cells slots mc ms (F0 m pc ls st0) rest (gQr G (gA lv ad H.size) post a) (gA lv ad H.size))
    (kk : ∀ (r : Nat) (u : gSt) (H1 : Heap) (locs1 : List Loc), post r u → gW G A s.heap H1 locs1 u.1 u.2.1 u.2.2 → W p l e R s m args below meth c H1 locs1 (cells + mc) (slots + ms) Q (F0 m (pc + 3) ls (.ref r :: rest))) : W p l e R s m args below meth c H locs cells slots Q (F0 m pc ls st0) :=
  va_callr hr hw.2 (fun q _ h => gA_in X hw q h) (gA_in X hw) (fun u ra t H1 locs1 e1 _ _ hB _ _ hS => kk ra u H1 locs1 hB.1 (gW_back X hw (by rw [← e1]; exact hB.2) hS))
theorem r_rix (X : gX p s m args c cc own nL G A) (hw : gW G A s.heap H locs lv ad con) {r : Int32} {lv' : gLv} {ad' : gAd} {con' : gCn} (hr : va_Run p l e R s m args below meth c H locs cells slots mc ms (F0 m pc ls st0) rest (gQi G (gA lv ad H.size) (gE r lv' ad' con') a) (gA lv ad H.size))
    (kk : ∀ (H1 : Heap) (locs1 : List Loc), gW G A s.heap H1 locs1 lv' ad' con' → W p l e R s m args below meth c H1 locs1 (cells + mc) (slots + ms) Q (F0 m (pc + 3) ls (.int r :: rest))) : W p l e R s m args below meth c H locs cells slots Q (F0 m pc ls st0) :=
  r_ri X hw hr (fun r' u H1 locs1 hp hw1 => by obtain ⟨rfl, rfl⟩ := hp; exact kk H1 locs1 hw1)
theorem r_rvx (X : gX p s m args c cc own nL G A) (hw : gW G A s.heap H locs lv ad con) {lv' : gLv} {ad' : gAd} {con' : gCn} (hr : va_Run p l e R s m args below meth c H locs cells slots mc ms (F0 m pc ls st0) rest (gQv G (gA lv ad H.size) (gEv lv' ad' con') a) (gA lv ad H.size))
    (kk : ∀ (H1 : Heap) (locs1 : List Loc), gW G A s.heap H1 locs1 lv' ad' con' → W p l e R s m args below meth c H1 locs1 (cells + mc) (slots + ms) Q (F0 m (pc + 3) ls rest)) : W p l e R s m args below meth c H locs cells slots Q (F0 m pc ls st0) :=
  r_rv X hw hr (fun u H1 locs1 hp hw1 => by cases hp; exact kk H1 locs1 hw1)
theorem r_rrx (X : gX p s m args c cc own nL G A) (hw : gW G A s.heap H locs lv ad con) {r : Nat} {lv' : gLv} {ad' : gAd} {con' : gCn} (hr : va_Run p l e R s m args below meth c H locs cells slots mc ms (F0 m pc ls st0) rest (gQr G (gA lv ad H.size) (gEr r lv' ad' con') a) (gA lv ad H.size))
    (kk : ∀ (H1 : Heap) (locs1 : List Loc), gW G A s.heap H1 locs1 lv' ad' con' → W p l e R s m args below meth c H1 locs1 (cells + mc) (slots + ms) Q (F0 m (pc + 3) ls (.ref r :: rest))) : W p l e R s m args below meth c H locs cells slots Q (F0 m pc ls st0) :=
  r_rr X hw hr (fun r' u H1 locs1 hp hw1 => by obtain ⟨rfl, rfl⟩ := hp; exact kk H1 locs1 hw1)
/-- a call that leaves the heap as it is -/
theorem r_rp {v : Value} (hr : va_Run p l e R s m args below meth c H locs cells slots mc ms (F0 m pc ls st0) rest (gU (some v) a) (fun _ => False))
    (kk : W p l e R s m args below meth c H locs (cells + mc) (slots + ms) Q (F0 m (pc + 3) ls (v :: rest))) : W p l e R s m args below meth c H locs cells slots Q (F0 m pc ls st0) := by
  intro T hT X
  obtain ⟨v', st₀, t, T', L, h0, X', hL, e1, e2, ⟨hv, hh⟩, st⟩ := hr T hT X
  cases hv
  have hL0 : L = [] := by
    cases L with
    | nil => rfl
    | cons q L => exact (hL q List.mem_cons_self).elim
  subst hL0
  rw [List.append_nil] at X'
  obtain ⟨t2, a1, b1⟩ := kk T' (by rw [e1, hh, h0]) X'
  exact ⟨t2, st t2 a1, b1⟩
theorem r_rpv (hr : va_Run p l e R s m args below meth c H locs cells slots mc ms (F0 m pc ls st0) rest (gU none a) (fun _ => False))
    (kk : W p l e R s m args below meth c H locs (cells + mc) (slots + ms) Q (F0 m (pc + 3) ls rest)) : W p l e R s m args below meth c H locs cells slots Q (F0 m pc ls st0) := by
  intro T hT X
  obtain ⟨v', st₀, t, T', L, h0, X', hL, e1, e2, ⟨hv, hh⟩, st⟩ := hr T hT X
  cases hv
  have hL0 : L = [] := by
    cases L with
    | nil => rfl
    | cons q L => exact (hL q List.mem_cons_self).elim
  subst hL0
  rw [List.append_nil] at X'
  obtain ⟨t2, a1, b1⟩ := kk T' (by rw [e1, hh, h0]) X'
  exact ⟨t2, st t2 a1, b1⟩
/-! ends -/
theorem r_iret (X : gX p s m args c cc own nL G A) (hw : gW G A s.heap H locs lv ad con) {v : Int32} {ty : FieldType} (hr : meth.sig.returnType = some ty) (hn : narrow ty (.int v) = .int v) (hlk : meth.locks = false) (hc : cells ≤ mc) (hs : slots ≤ ms) {post : Int32 → gSt → Prop} (hp : post v (lv, ad, con)) (hdg : decode cc pc = .ok (.ireturn, 1)) :
    W p l e R s m args below meth c H locs cells slots (MQ below (gQi G A post) args s mc ms A) (F0 m pc ls [.int v]) :=
  W.widen hc hs (W.zret X.1.1 X.1.2.1 hr hn (fun t ht hW => ⟨⟨v, (lv, ad, con), rfl, hp, by show gV G A lv ad con t.heap; rw [ht]; exact hw.1⟩, hw.2.F ht⟩) (fun q hq => hw.2.2.2 q hq) hdg)
theorem r_vret (X : gX p s m args c cc own nL G A) (hw : gW G A s.heap H locs lv ad con) (hr : meth.sig.returnType = none) (hlk : meth.locks = false) (hc : cells ≤ mc) (hs : slots ≤ ms) {post : gSt → Prop} (hp : post (lv, ad, con)) (hdg : decode cc pc = .ok (.return_, 1)) :
    W p l e R s m args below meth c H locs cells slots (MQ below (gQv G A post) args s mc ms A) (F0 m pc ls []) :=
  W.widen hc hs (W.vret X.1.1 X.1.2.1 hr (fun t ht hW => ⟨⟨(lv, ad, con), rfl, hp, by show gV G A lv ad con t.heap; rw [ht]; exact hw.1⟩, hw.2.F ht⟩) (fun q hq => hw.2.2.2 q hq) hdg)
theorem r_aret (X : gX p s m args c cc own nL G A) (hw : gW G A s.heap H locs lv ad con) {v : Nat} {rt : FieldType} (hr : meth.sig.returnType = some rt) (hrt : (∃ n, rt = .object n) ∨ ∃ t, rt = .array t) (hlk : meth.locks = false) (hc : cells ≤ mc) (hs : slots ≤ ms) {post : Nat → gSt → Prop} (hp : post v (lv, ad, con)) (hdg : decode cc pc = .ok (.areturn, 1)) :
    W p l e R s m args below meth c H locs cells slots (MQ below (gQr G A post) args s mc ms A) (F0 m pc ls [.ref v]) :=
  W.widen hc hs (W.aret X.1.1 X.1.2.1 hr hrt (Or.inr ⟨v, rfl⟩) (fun t ht hW => ⟨⟨(lv, ad, con), v, rfl, trivial, hp, by show gV G A lv ad con t.heap; rw [ht]; exact hw.1⟩, hw.2.F ht⟩) (fun q hq => hw.2.2.2 q hq) hdg)
/-- a method's body, from its entry -/
theorem r_met {Qc : Nat → Array Value → State → Outcome → State → Prop} {ret : Option FieldType} (hy : plainName y.cls = true) (hown : y.cls = own) (hent : (lg_sl As).length ≤ maxL)
    (body : ∀ (p : Program) (e : Env) (s : State) (m : MethodId) (below : List Frame) (meth : Method) (c : Code) (ls : Array Slot), gX p s m As.toArray c cc own maxL G (gA lv ad s.heap.size) → gW G (gA lv ad s.heap.size) s.heap s.heap [] lv ad con → meth.sig.returnType = ret → meth.locks = false → meth.name = y.name → lv_has ls maxL (lv_args 0 As) →
      W p l e rm s m As.toArray below meth c s.heap [] 0 0 (MQ below (Qc s.heap.size) As.toArray s rm.cells rm.slots (gA lv ad s.heap.size)) (F0 m 0 ls [])) :
    ∀ sz, Met l y (.code y cc maxL ret :: gwl) rm (gP G As lv ad con sz) (Qc sz) rm.cells rm.slots (gA lv ad sz) := by
  intro sz
  refine Met.ofW (cc := cc) (maxL := maxL) (ret := ret) hy rfl ?_
  intro p e s m args below meth c s₁ B hml hv
  obtain ⟨rfl, hsz, hV, hK, hN, hS⟩ := hv
  subst hsz
  have hts := atoms_spec (ws := .code y cc maxL ret :: gwl) B.pre
  have hfc : s.vm.findClass own = some m.cls := by rw [← hown]; exact findClass_of_methodNamed B.named
  have hl := lv_entry As (n := maxL) hent
  rw [lg_entry_eq]
  exact body p e s m below meth c _ ⟨⟨B.exec, B.bytes, hml, hfc, fun w hw => hts w (List.mem_cons_of_mem _ hw)⟩, hK, hN, hS, fun q h => Or.inr h⟩ ⟨hV.self s.heap.size, va_S.rf⟩ B.returns B.notSynchronized (name_of_methodNamed B.named B.method).1 hl
/-- a body that leaves the heap as it is: only the words -/
theorem r_metp {B0 : State → Prop} {v : Option Value} {ret : Option FieldType} (hy : plainName y.cls = true) (hown : y.cls = own) (hent : (lg_sl As).length ≤ maxL)
    (body : ∀ (p : Program) (e : Env) (s : State) (m : MethodId) (below : List Frame) (meth : Method) (c : Code) (ls : Array Slot), (p.tables.exec = Jvm.exec ∧ c.code = cc ∧ c.maxLocals = maxL ∧ s.vm.findClass own = some m.cls ∧ ∀ w ∈ gwl, w.before As.toArray s = true) → B0 s → meth.sig.returnType = ret → meth.locks = false → lv_has ls maxL (lv_args 0 As) →
      W p l e rm s m As.toArray below meth c s.heap [] 0 0 (MQ below (gU v) As.toArray s rm.cells rm.slots (fun _ => False)) (F0 m 0 ls [])) :
    gMp l y cc maxL ret rm As B0 v := by
  refine Met.ofW (cc := cc) (maxL := maxL) (ret := ret) hy rfl ?_
  intro p e s m args below meth c s₁ B hml hv
  obtain ⟨rfl, hB⟩ := hv
  have hts := atoms_spec (ws := .code y cc maxL ret :: gwl) B.pre
  have hfc : s.vm.findClass own = some m.cls := by rw [← hown]; exact findClass_of_methodNamed B.named
  have hl := lv_entry As (n := maxL) hent
  rw [lg_entry_eq]
  exact body p e s m below meth c _ ⟨B.exec, B.bytes, hml, hfc, fun w hw => hts w (List.mem_cons_of_mem _ hw)⟩ hB B.returns B.notSynchronized hl
theorem r_piret {v : Int32} {ty : FieldType} (hx : p.tables.exec = Jvm.exec) (hb : c.code = cc) (hr : meth.sig.returnType = some ty) (hn : narrow ty (.int v) = .int v) (hlk : meth.locks = false) {v0 : Int32} (hv : v = v0) (hdg : decode cc pc = .ok (.ireturn, 1)) :
    W p l e R s m args below meth c s.heap [] cells slots (MQ below (gU (some (.int v0))) args s cells slots (fun _ => False)) (F0 m pc ls [.int v]) := by
  subst hv
  exact W.zret hx hb hr hn (fun t ht hW => ⟨rfl, ht⟩) (fun q hq => nomatch hq) hdg
end GC
theorem gPc_blind {As : List Value} : FrameBlind (va_Pc As (fun _ => True)) := fun _ _ _ _ h => h

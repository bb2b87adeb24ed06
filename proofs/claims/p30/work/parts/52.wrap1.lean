/-! ===== the law's methods with handlers ===== -/
theorem cl_RL_15 : Cond.classLink RL 15 "java/lang/IndexOutOfBoundsException" ∈ gwl := gwl_of (by decide +kernel) rfl
theorem cl_RL_17 : Cond.classLink RL 17 "java/lang/IllegalArgumentException" ∈ gwl := gwl_of (by decide +kernel) rfl
theorem cl_RL_19 : Cond.classLink RL 19 "java/lang/IllegalStateException" ∈ gwl := gwl_of (by decide +kernel) rfl
theorem lc_RL_76 : Cond.constant RL 76 (-100001) ∈ gwl := gwl_of (by decide +kernel) rfl
theorem lc_RL_7 : Cond.constant RL 7 55001 ∈ gwl := gwl_of (by decide +kernel) rfl
theorem lc_RL_8 : Cond.constant RL 8 2147483647 ∈ gwl := gwl_of (by decide +kernel) rfl
abbrev gMwi (l : Launch) (y : MethodName) (cc : ByteArray) (maxL : Nat) (ret : Option FieldType) (hh : List (Nat × Nat × Nat × Nat)) (rm : Room) (G : gG) (As : List Value) (lv : gLv) (ad : gAd) (con : gCn) (post : Int32 → gSt → Prop) : Prop := ∀ sz, vx_Met l y (.codeWith y cc maxL ret hh :: gwl) rm (gP G As lv ad con sz) (gQi G (gA lv ad sz) post) (fun _ _ _ => False) rm.cells rm.slots (gA lv ad sz)
/-- what the law hears: the answer, or the number of the throw; and the state after the call -/
def wv (r : Nat × Int32 × gCT) : Int32 := if r.1 = 0 then r.2.1 else if r.1 = 1 then -101 else if r.1 = 2 then -102 else -103
def wvs (r : Nat × Int32 × gCT) : Int32 := if r.1 = 0 then r.2.1 else -100001
def wvv (r : Nat × Int32 × gCT) : Int32 := if r.1 = 0 then 0 else if r.1 = 1 then -101 else if r.1 = 2 then -102 else -103
def wvw (r : Nat × Int32 × gCT) : Int32 := if r.1 = 0 then (if r.2.1 = 0 then 0 else 1) else if r.1 = 1 then -101 else if r.1 = 2 then -102 else -103
def wd (C : gCT) (r : Nat × Int32 × gCT) : gCT := if r.1 = 0 then r.2.2 else C
theorem wv_0 {r : Nat × Int32 × gCT} (h : r.1 = 0) : wv r = r.2.1 := if_pos h
theorem wvs_0 {r : Nat × Int32 × gCT} (h : r.1 = 0) : wvs r = r.2.1 := if_pos h
theorem wvv_0 {r : Nat × Int32 × gCT} (h : r.1 = 0) : wvv r = 0 := if_pos h
theorem wd_0 {C : gCT} {r : Nat × Int32 × gCT} (h : r.1 = 0) : wd C r = r.2.2 := if_pos h
theorem wd_n {C : gCT} {r : Nat × Int32 × gCT} (h : ¬ r.1 = 0) : wd C r = C := if_neg h
def gYi (G : gG) (ad0 : gAd) (v0 : Int32) (D : gCT) (v : Int32) (u : gSt) : Prop := v = v0 ∧ ∃ ad', u = (gLvO D, ad', gF G D ad') ∧ gAdK ad0 ad'
theorem gLvO_22 (C : gCT) (n j : Nat) (v : Int32) : gLvO (cs C 22 n j v) = gLvO C := gLvO_same (fun n => by rw [cs_k _ _ _ _ (by decide)]; exact ⟨rfl, rfl⟩) (fun f => by rw [cs_k _ _ _ _ (by decide)])
section GW
variable {p : Program} {l : Launch} {e : Env} {R : Room} {s : State} {m : MethodId} {args : Array Value} {below : List Frame} {meth : Method} {c : Code} {H : Heap} {locs : List Loc} {cells slots : Nat} {Q : State → Prop}
variable {cc : ByteArray} {own : String} {nL pc maxL n idx mc ms : Nat} {ls : Array Slot} {rest st0 : List Value} {G : gG} {A : Nat → Prop} {lv : gLv} {ad : gAd} {con : gCn} {y : MethodName} {rm : Room} {As : List Value} {a : Array Value} {hh : List (Nat × Nat × Nat × Nat)}
theorem w_met {Qc : Nat → Array Value → State → Outcome → State → Prop} {ret : Option FieldType} (hy : plainName y.cls = true) (hown : y.cls = own) (hent : (lg_sl As).length ≤ maxL)
    (body : ∀ (p : Program) (e : Env) (s : State) (m : MethodId) (below : List Frame) (meth : Method) (c : Code) (ls : Array Slot), gX p s m As.toArray c cc own maxL G (gA lv ad s.heap.size) → gW G (gA lv ad s.heap.size) s.heap s.heap [] lv ad con → meth.sig.returnType = ret → meth.locks = false → c.exceptionTable.toList = tableOf hh → lv_has ls maxL (lv_args 0 As) →
      W p l e rm s m As.toArray below meth c s.heap [] 0 0 (vx_MQ below (Qc s.heap.size) (fun _ _ _ => False) As.toArray s rm.cells rm.slots (gA lv ad s.heap.size)) (F0 m 0 ls [])) :
    ∀ sz, vx_Met l y (.codeWith y cc maxL ret hh :: gwl) rm (gP G As lv ad con sz) (Qc sz) (fun _ _ _ => False) rm.cells rm.slots (gA lv ad sz) := by
  intro sz
  refine vx_ofWH (cc := cc) (maxL := maxL) (ret := ret) (hh := hh) hy rfl ?_
  intro p e s m args below meth c s₁ B hml hv
  obtain ⟨rfl, hsz, hV, hK, hN, hS⟩ := hv
  subst hsz
  have hts := atoms_spec (ws := .codeWith y cc maxL ret hh :: gwl) B.pre
  have ht := vx_table (x := y) B (hts _ List.mem_cons_self)
  have hfc : s.vm.findClass own = some m.cls := by rw [← hown]; exact findClass_of_methodNamed B.named
  have hl := lv_entry As (n := maxL) hent
  rw [lg_entry_eq]
  exact body p e s m below meth c _ ⟨⟨B.exec, B.bytes, hml, hfc, fun w hw => hts w (List.mem_cons_of_mem _ hw)⟩, hK, hN, hS, fun q h => Or.inr h⟩ ⟨hV.self s.heap.size, va_S.rf⟩ B.returns B.notSynchronized ht hl
/-- an int comes back from a call that makes cells, or a throw -/
theorem x_zi {C : gCT} (X : gX p s m args c cc own nL G A) (hw : gW G A s.heap H locs (gLvO C) ad (gF G C ad)) {r : Nat × Int32 × gCT} (hr : vx_Run p l e R s m args below meth c H locs cells slots mc ms (F0 m pc ls st0) rest (gQi G (gA (gLvO C) ad H.size) (gZi G ad r) a) (gXC G (gA (gLvO C) ad H.size) (gLvO C) ad (gF G C ad) r.1) (gA (gLvO C) ad H.size))
    (kx : ∀ (E : String) (ce : Cell) (q : Addr) (H1 : Heap) (locs1 : List Loc), gExc r.1 E → gW G A s.heap H1 locs1 (gLvO C) ad (gF G C ad) → H1[q]? = some ce → ce.vm = .none → s.vm.findClass E = some ce.cls → vx_W p l e R s m args below meth c H1 locs1 (cells + mc) (slots + ms) Q (F0 m pc ls rest) q)
    (kk : ∀ (H1 : Heap) (locs1 : List Loc) (ad' : gAd), r.1 = 0 → gAdK ad ad' → gW G A s.heap H1 locs1 (gLvO r.2.2) ad' (gF G r.2.2 ad') → W p l e R s m args below meth c H1 locs1 (cells + mc) (slots + ms) Q (F0 m (pc + 3) ls (.int r.2.1 :: rest))) : W p l e R s m args below meth c H locs cells slots Q (F0 m pc ls st0) := by
  intro T hT X1
  rcases hr T hT X1 with ⟨v, st₀, t, T', L, h0, X', hL, e1, e2, ⟨⟨v1, u, hv, ⟨hk, hva, ad', hu, hA⟩, hB⟩, hF⟩, st⟩ | ⟨q, st₀, t, T', L, E, ce, h0, X', hL, e1, e2, ⟨_, _, ⟨hE, hB⟩, hF⟩, hce, hcv, hcl, st⟩
  · cases hv
    subst hva
    subst hu
    obtain ⟨k1, k2, k3⟩ := vx_keep h0 e1 hw.2 (fun q _ h => gA_in X hw q h) (gA_in X hw) hL hF
    obtain ⟨t2, a2, b2⟩ := kk T'.heap (locs ++ L) ad' hk hA (gW_backX X hw (by rw [e1]; exact hB) k3) T' rfl X'
    exact ⟨t2, st t2 a2, b2⟩
  · obtain ⟨k1, k2, k3⟩ := vx_keep h0 e1 hw.2 (fun q _ h => gA_in X hw q h) (gA_in X hw) hL hF
    obtain ⟨t2, a2, b2⟩ := kx E ce q T'.heap (locs ++ L) hE (gW_backX X hw (by rw [e1]; exact hB) k3) (by rw [e1]; exact hce) hcv hcl T' rfl X'
    exact ⟨t2, st.trans a2, b2⟩
theorem w_iret {D : gCT} {ad0 : gAd} (X : gX p s m args c cc own nL G A) (hw : gW G A s.heap H locs lv ad (gF G D ad)) (hlv : lv = gLvO D) {v : Int32} {ty : FieldType} (hr : meth.sig.returnType = some ty) (hn : narrow ty (.int v) = .int v) (hlk : meth.locks = false) (hc : cells ≤ mc) (hs : slots ≤ ms) (hK : gAdK ad0 ad) {v0 : Int32} {D' : gCT} (hv : v0 = v) (hD : D' = D) {XC : String → State → State → Prop} (hdg : decode cc pc = .ok (.ireturn, 1)) :
    W p l e R s m args below meth c H locs cells slots (vx_MQ below (gQi G A (gYi G ad0 v0 D')) XC args s mc ms A) (F0 m pc ls [.int v]) := by
  subst hv hD hlv
  exact W.widen hc hs (vx_ret (r_iret X hw hr hn hlk (Nat.le_refl _) (Nat.le_refl _) ⟨rfl, ad, rfl, hK⟩ hdg))
theorem w_catch (X : gX p s m args c cc own nL G A) {E : String} {ce : Cell} {q : Addr} (pre : List ExceptionTableEntry) (x : ExceptionTableEntry) (suf : List ExceptionTableEntry) (ht : c.exceptionTable.toList = tableOf hh) (hsplit : tableOf hh = pre ++ x :: suf)
    (hpass : ∀ z ∈ pre, z.catchType ≠ 0 ∧ ∃ nm : String, Cond.classLink own z.catchType nm ∈ gwl ∧ (E, nm) ∈ gNot) (hx : covers x pc = true) (h0 : x.catchType ≠ 0) (hlink : Cond.classLink own x.catchType E ∈ gwl) (hcast : (E, E) ∈ gCast) (hcell : H[q]? = some ce) (hv : ce.vm = .none) (hcl : s.vm.findClass E = some ce.cls)
    (kk : W p l e R s m args below meth c H locs cells slots Q (F0 m x.handlerPc ls [.ref q])) : vx_W p l e R s m args below meth c H locs cells slots Q (F0 m pc ls rest) q :=
  vx_catch X.1.2.2.2.1 pre x suf (ht.trans hsplit) (fun z hz => Or.inr (by
    obtain ⟨h1, nm, h2, h3⟩ := hpass z hz
    exact ⟨h1, nm, X.1.2.2.2.2 _ h2, X.2.2.1.2.2.2.1 _ h3⟩)) hx h0 (X.1.2.2.2.2 _ hlink) (va_Nw.use rfl (X.2.2.1.2.1 _ hcast)) hcell hv hcl kk
end GW
theorem x_ca_1 : ("java/lang/IndexOutOfBoundsException", "java/lang/IndexOutOfBoundsException") ∈ gCast := List.mem_of_getElem? (i := 0) rfl
theorem x_ca_2 : ("java/lang/IllegalArgumentException", "java/lang/IllegalArgumentException") ∈ gCast := List.mem_of_getElem? (i := 1) rfl
theorem x_ca_3 : ("java/lang/IllegalStateException", "java/lang/IllegalStateException") ∈ gCast := List.mem_of_getElem? (i := 2) rfl
theorem x_no_21 : ("java/lang/IllegalArgumentException", "java/lang/IndexOutOfBoundsException") ∈ gNot := List.mem_of_getElem? (i := 0) rfl
theorem x_no_31 : ("java/lang/IllegalStateException", "java/lang/IndexOutOfBoundsException") ∈ gNot := List.mem_of_getElem? (i := 1) rfl
theorem x_no_32 : ("java/lang/IllegalStateException", "java/lang/IllegalArgumentException") ∈ gNot := List.mem_of_getElem? (i := 2) rfl
theorem m_formAt_ne (C : gCT) (n : Int32) : m_formAt C n ≠ 2 ∧ m_formAt C n ≠ 3 := by
  unfold m_formAt
  dsimp only
  split <;> exact ⟨by decide, by decide⟩
theorem m_runAt_ne (C : gCT) (n : Int32) : m_runAt C n ≠ 2 ∧ m_runAt C n ≠ 3 := by
  unfold m_runAt
  dsimp only
  split <;> exact ⟨by decide, by decide⟩
theorem ne_ite {q : Nat} {c : Prop} [Decidable c] {a b : Nat × Int32 × gCT} (h1 : a.1 ≠ q) (h2 : b.1 ≠ q) : (if c then a else b).1 ≠ q := by
  split
  · exact h1
  · exact h2
set_option maxHeartbeats 4000000 in
set_option maxRecDepth 100000 in
theorem cw_write : Cond.static yL_write ∈ gwl ∧ Cond.codeWith yL_write cL_write 5 (some .int) [(0, 7, 8, 15), (0, 7, 13, 17), (0, 7, 18, 19)] ∈ gwl := ⟨gwl_of (by decide +kernel) rfl, gwl_of (by decide +kernel) rfl⟩
set_option maxHeartbeats 4000000 in
set_option maxRecDepth 100000 in
theorem c_w_write (l : Launch) (hst : l.stackTraces = false) (G : gG) (C : gCT) (ad : gAd) (n1 n2 n3 : Int32) (hI : gInv C) : gMwi l yL_write cL_write 5 (some .int) [(0, 7, 8, 15), (0, 7, 13, 17), (0, 7, 18, 19)] (gRm 8 127 2 12) G [.ref (ad 0 0), .int n1, .int n2, .int n3] (gLvO C) ad (gF G C ad) (gYi G ad (wv (m_write C n1 n2 n3)) (wd C (m_write C n1 n2 n3))) := by
  refine w_met (own := RL) (by decide) rfl (Nat.le_of_ble_eq_true rfl) ?_
  intro p e s m below meth c ls X hw hr hlk ht hl
  have hx := X.1.1; have hb := X.1.2.1; have hml := X.1.2.2.1; have hown := X.1.2.2.2.1; have hts := X.1.2.2.2.2
  have hT := hI.top; have hRs := hI.runs; have hK0 : gAdK ad ad := ⟨rfl, fun _ _ => rfl⟩
  have hl : lv_has ls 5 [(0, .ref (ad 0 0)), (1, .int n1), (2, .int n2), (3, .int n3)] := hl
  refine lv_aload_n hx hb dL_write_0 rfl (lv_at hl 0 rfl) ?_
  refine lv_iload_n hx hb dL_write_1 rfl (lv_at hl 1 rfl) ?_
  refine lv_iload_n hx hb dL_write_2 rfl (lv_at hl 2 rfl) ?_
  refine lv_iload_n hx hb dL_write_3 rfl (lv_at hl 3 rfl) ?_
  refine x_ri X hw (x_runV X (c_m_write l hst G _ _ _ _ _ _ hT (fun f hf => (hI.vn hf).2.2) _) cy_X5_write ml_RL_9 ⟨(Nat.le_of_ble_eq_true rfl), (Nat.le_of_ble_eq_true rfl)⟩ gP.blind (g_recv X hw 0 0 hT.1 rfl rfl) (gP_call X hw _) rfl hl.1 rfl (Nat.le_of_ble_eq_true rfl) dL_write_4 ⟨(Nat.le_of_ble_eq_true rfl), (Nat.le_of_ble_eq_true rfl)⟩) (fun E ce q H locs hE hw q1 q2 q3 => ?_) (fun H locs h0 hw => ?_)
  · rcases hE with ⟨hk, rfl⟩ | ⟨hk, rfl⟩ | ⟨hk, rfl⟩
    · refine w_catch X [] ⟨0, 7, 8, 15⟩ [⟨0, 7, 13, 17⟩, ⟨0, 7, 18, 19⟩] ht rfl (fun _ hz => nomatch hz) rfl (by decide) cl_RL_15 x_ca_1 q1 q2 q3 ?_
      refine lv_astore (lv' := [(4, .ref q), (0, .ref (ad 0 0)), (1, .int n1), (2, .int n2), (3, .int n3)]) hx hb dL_write_8 hl (by decide) rfl (fun ls hl => ?_)
      refine lv_bipush (v := (-101)) hx hb dL_write_10 (by decide) ?_
      exact w_iret X hw rfl hr rfl hlk (Nat.le_of_ble_eq_true rfl) (Nat.le_of_ble_eq_true rfl) hK0 (by rw [wv, hk]; rfl) (wd_n (by rw [hk]; decide)) dL_write_12
    · refine w_catch X [⟨0, 7, 8, 15⟩] ⟨0, 7, 13, 17⟩ [⟨0, 7, 18, 19⟩] ht rfl (fun z hz => by rcases List.mem_cons.mp hz with rfl | hz; exact ⟨by decide, _, cl_RL_15, x_no_21⟩; exact nomatch hz) rfl (by decide) cl_RL_17 x_ca_2 q1 q2 q3 ?_
      refine lv_astore (lv' := [(4, .ref q), (0, .ref (ad 0 0)), (1, .int n1), (2, .int n2), (3, .int n3)]) hx hb dL_write_13 hl (by decide) rfl (fun ls hl => ?_)
      refine lv_bipush (v := (-102)) hx hb dL_write_15 (by decide) ?_
      exact w_iret X hw rfl hr rfl hlk (Nat.le_of_ble_eq_true rfl) (Nat.le_of_ble_eq_true rfl) hK0 (by rw [wv, hk]; rfl) (wd_n (by rw [hk]; decide)) dL_write_17
    · refine w_catch X [⟨0, 7, 8, 15⟩, ⟨0, 7, 13, 17⟩] ⟨0, 7, 18, 19⟩ [] ht rfl (fun z hz => by rcases List.mem_cons.mp hz with rfl | hz; exact ⟨by decide, _, cl_RL_15, x_no_31⟩; rcases List.mem_cons.mp hz with rfl | hz; exact ⟨by decide, _, cl_RL_17, x_no_32⟩; exact nomatch hz) rfl (by decide) cl_RL_19 x_ca_3 q1 q2 q3 ?_
      refine lv_astore (lv' := [(4, .ref q), (0, .ref (ad 0 0)), (1, .int n1), (2, .int n2), (3, .int n3)]) hx hb dL_write_18 hl (by decide) rfl (fun ls hl => ?_)
      refine lv_bipush (v := (-103)) hx hb dL_write_20 (by decide) ?_
      exact w_iret X hw rfl hr rfl hlk (Nat.le_of_ble_eq_true rfl) (Nat.le_of_ble_eq_true rfl) hK0 (by rw [wv, hk]; rfl) (wd_n (by rw [hk]; decide)) dL_write_22
  exact w_iret X hw ((m_write_inv hI).2.symm) hr rfl hlk (Nat.le_of_ble_eq_true rfl) (Nat.le_of_ble_eq_true rfl) hK0 (wv_0 h0) (wd_0 h0) dL_write_7
theorem m_publish_ne2 (C : gCT) (n1 : Int32) : (m_publish C n1).1 ≠ 2 := ne_ite (ne_ite (by decide : (3 : Nat) ≠ 2) (ne_ite (by decide : (0 : Nat) ≠ 2) (by decide : (3 : Nat) ≠ 2))) ((m_formAt_ne C n1).1)
set_option maxHeartbeats 4000000 in
set_option maxRecDepth 100000 in
theorem cw_publish : Cond.static yL_publish ∈ gwl ∧ Cond.codeWith yL_publish cL_publish 3 (some .int) [(0, 5, 6, 15), (0, 5, 10, 19)] ∈ gwl := ⟨gwl_of (by decide +kernel) rfl, gwl_of (by decide +kernel) rfl⟩
set_option maxHeartbeats 4000000 in
set_option maxRecDepth 100000 in
theorem c_w_publish (l : Launch) (hst : l.stackTraces = false) (G : gG) (C : gCT) (ad : gAd) (n1 : Int32) (hI : gInv C) : gMwi l yL_publish cL_publish 3 (some .int) [(0, 5, 6, 15), (0, 5, 10, 19)] (gRm 8 125 6 80) G [.ref (ad 0 0), .int n1] (gLvO C) ad (gF G C ad) (gYi G ad (wv (m_publish C n1)) (wd C (m_publish C n1))) := by
  refine w_met (own := RL) (by decide) rfl (Nat.le_of_ble_eq_true rfl) ?_
  intro p e s m below meth c ls X hw hr hlk ht hl
  have hx := X.1.1; have hb := X.1.2.1; have hml := X.1.2.2.1; have hown := X.1.2.2.2.1; have hts := X.1.2.2.2.2
  have hT := hI.top; have hRs := hI.runs; have hK0 : gAdK ad ad := ⟨rfl, fun _ _ => rfl⟩
  have hl : lv_has ls 3 [(0, .ref (ad 0 0)), (1, .int n1)] := hl
  refine lv_aload_n hx hb dL_publish_0 rfl (lv_at hl 0 rfl) ?_
  refine lv_iload_n hx hb dL_publish_1 rfl (lv_at hl 1 rfl) ?_
  refine x_zi X hw (x_runV X (c_m_publish l hst G _ _ hI ad _) cy_X5_publish ml_RL_21 ⟨(Nat.le_of_ble_eq_true rfl), (Nat.le_of_ble_eq_true rfl)⟩ gP.blind (g_recv X hw 0 0 hT.1 rfl rfl) (gP_call X hw _) rfl hl.1 rfl (Nat.le_of_ble_eq_true rfl) dL_publish_2 ⟨(Nat.le_of_ble_eq_true rfl), (Nat.le_of_ble_eq_true rfl)⟩) (fun E ce q H locs hE hw q1 q2 q3 => ?_) (fun H locs ad1 h0 hK hw => ?_)
  · rcases hE with ⟨hk, rfl⟩ | ⟨hk, rfl⟩ | ⟨hk, rfl⟩
    · refine w_catch X [] ⟨0, 5, 6, 15⟩ [⟨0, 5, 10, 19⟩] ht rfl (fun _ hz => nomatch hz) rfl (by decide) cl_RL_15 x_ca_1 q1 q2 q3 ?_
      refine lv_astore_n (lv' := [(2, .ref q), (0, .ref (ad 0 0)), (1, .int n1)]) hx hb dL_publish_6 rfl hl (by decide) rfl (fun ls hl => ?_)
      refine lv_bipush (v := (-101)) hx hb dL_publish_7 (by decide) ?_
      exact w_iret X hw rfl hr rfl hlk (Nat.le_of_ble_eq_true rfl) (Nat.le_of_ble_eq_true rfl) hK0 (by rw [wv, hk]; rfl) (wd_n (by rw [hk]; decide)) dL_publish_9
    · exact absurd hk (m_publish_ne2 _ _)
    · refine w_catch X [⟨0, 5, 6, 15⟩] ⟨0, 5, 10, 19⟩ [] ht rfl (fun z hz => by rcases List.mem_cons.mp hz with rfl | hz; exact ⟨by decide, _, cl_RL_15, x_no_31⟩; exact nomatch hz) rfl (by decide) cl_RL_19 x_ca_3 q1 q2 q3 ?_
      refine lv_astore_n (lv' := [(2, .ref q), (0, .ref (ad 0 0)), (1, .int n1)]) hx hb dL_publish_10 rfl hl (by decide) rfl (fun ls hl => ?_)
      refine lv_bipush (v := (-103)) hx hb dL_publish_11 (by decide) ?_
      exact w_iret X hw rfl hr rfl hlk (Nat.le_of_ble_eq_true rfl) (Nat.le_of_ble_eq_true rfl) hK0 (by rw [wv, hk]; rfl) (wd_n (by rw [hk]; decide)) dL_publish_13
  exact w_iret X hw rfl hr rfl hlk (Nat.le_of_ble_eq_true rfl) (Nat.le_of_ble_eq_true rfl) hK (wv_0 h0) (wd_0 h0) dL_publish_5
theorem m_setFuel_ne3 (C : gCT) (n1 n2 : Int32) : (m_setFuel C n1 n2).1 ≠ 3 := ne_ite (ne_ite (by decide : (2 : Nat) ≠ 3) (by decide : (0 : Nat) ≠ 3)) ((m_formAt_ne C n1).2)
set_option maxHeartbeats 4000000 in
set_option maxRecDepth 100000 in
theorem cw_setFuel : Cond.static yL_fuels ∈ gwl ∧ Cond.codeWith yL_fuels cL_fuels 4 (some .int) [(0, 6, 7, 15), (0, 6, 11, 17)] ∈ gwl := ⟨gwl_of (by decide +kernel) rfl, gwl_of (by decide +kernel) rfl⟩
set_option maxHeartbeats 4000000 in
set_option maxRecDepth 100000 in
theorem c_w_setFuel (l : Launch) (hst : l.stackTraces = false) (G : gG) (C : gCT) (ad : gAd) (n1 n2 : Int32) (hI : gInv C) : gMwi l yL_fuels cL_fuels 4 (some .int) [(0, 6, 7, 15), (0, 6, 11, 17)] (gRm 8 127 2 12) G [.ref (ad 0 0), .int n1, .int n2] (gLvO C) ad (gF G C ad) (gYi G ad (wv (m_setFuel C n1 n2)) (wd C (m_setFuel C n1 n2))) := by
  refine w_met (own := RL) (by decide) rfl (Nat.le_of_ble_eq_true rfl) ?_
  intro p e s m below meth c ls X hw hr hlk ht hl
  have hx := X.1.1; have hb := X.1.2.1; have hml := X.1.2.2.1; have hown := X.1.2.2.2.1; have hts := X.1.2.2.2.2
  have hT := hI.top; have hRs := hI.runs; have hK0 : gAdK ad ad := ⟨rfl, fun _ _ => rfl⟩
  have hl : lv_has ls 4 [(0, .ref (ad 0 0)), (1, .int n1), (2, .int n2)] := hl
  refine lv_aload_n hx hb dL_fuels_0 rfl (lv_at hl 0 rfl) ?_
  refine lv_iload_n hx hb dL_fuels_1 rfl (lv_at hl 1 rfl) ?_
  refine lv_iload_n hx hb dL_fuels_2 rfl (lv_at hl 2 rfl) ?_
  refine x_ri X hw (x_runV X (c_m_setFuel l hst G _ _ _ _ _ hT _) cy_X5_setFuel ml_RL_25 ⟨(Nat.le_of_ble_eq_true rfl), (Nat.le_of_ble_eq_true rfl)⟩ gP.blind (g_recv X hw 0 0 hT.1 rfl rfl) (gP_call X hw _) rfl hl.1 rfl (Nat.le_of_ble_eq_true rfl) dL_fuels_3 ⟨(Nat.le_of_ble_eq_true rfl), (Nat.le_of_ble_eq_true rfl)⟩) (fun E ce q H locs hE hw q1 q2 q3 => ?_) (fun H locs h0 hw => ?_)
  · rcases hE with ⟨hk, rfl⟩ | ⟨hk, rfl⟩ | ⟨hk, rfl⟩
    · refine w_catch X [] ⟨0, 6, 7, 15⟩ [⟨0, 6, 11, 17⟩] ht rfl (fun _ hz => nomatch hz) rfl (by decide) cl_RL_15 x_ca_1 q1 q2 q3 ?_
      refine lv_astore_n (lv' := [(3, .ref q), (0, .ref (ad 0 0)), (1, .int n1), (2, .int n2)]) hx hb dL_fuels_7 rfl hl (by decide) rfl (fun ls hl => ?_)
      refine lv_bipush (v := (-101)) hx hb dL_fuels_8 (by decide) ?_
      exact w_iret X hw rfl hr rfl hlk (Nat.le_of_ble_eq_true rfl) (Nat.le_of_ble_eq_true rfl) hK0 (by rw [wv, hk]; rfl) (wd_n (by rw [hk]; decide)) dL_fuels_10
    · refine w_catch X [⟨0, 6, 7, 15⟩] ⟨0, 6, 11, 17⟩ [] ht rfl (fun z hz => by rcases List.mem_cons.mp hz with rfl | hz; exact ⟨by decide, _, cl_RL_15, x_no_21⟩; exact nomatch hz) rfl (by decide) cl_RL_17 x_ca_2 q1 q2 q3 ?_
      refine lv_astore_n (lv' := [(3, .ref q), (0, .ref (ad 0 0)), (1, .int n1), (2, .int n2)]) hx hb dL_fuels_11 rfl hl (by decide) rfl (fun ls hl => ?_)
      refine lv_bipush (v := (-102)) hx hb dL_fuels_12 (by decide) ?_
      exact w_iret X hw rfl hr rfl hlk (Nat.le_of_ble_eq_true rfl) (Nat.le_of_ble_eq_true rfl) hK0 (by rw [wv, hk]; rfl) (wd_n (by rw [hk]; decide)) dL_fuels_14
    · exact absurd hk (m_setFuel_ne3 _ _ _)
  exact w_iret X hw ((m_setFuel_str C n1 n2).lv.symm) hr rfl hlk (Nat.le_of_ble_eq_true rfl) (Nat.le_of_ble_eq_true rfl) hK0 (wv_0 h0) (wd_0 h0) dL_fuels_6

/-! ===== the law's world: the tool, and the law's three rows ===== -/
def tW (G : gG) (A : Nat → Prop) (H0 H : Heap) (locs : List Loc) (C : gCT) (a0 : Nat) (bb : Nat → Nat) : Prop := ∃ ad : gAd, ad 0 0 = a0 ∧ (∀ n, n < 3 → ad 22 n = bb n) ∧ gW G A H0 H locs (gLvO C) ad (gF G C ad)
theorem ini_RL : Cond.initialized RL ∈ gwl := gwl_of (by decide +kernel) rfl
theorem rv0 {r : Nat × Int32 × gCT} {v : Int32} {D : gCT} (h : r = (0, v, D)) : wv r = v := by rw [h]; rfl
theorem rd0 {C : gCT} {r : Nat × Int32 × gCT} {v : Int32} {D : gCT} (h : r = (0, v, D)) : wd C r = D := by rw [h]; rfl
theorem rs0 {r : Nat × Int32 × gCT} {v : Int32} {D : gCT} (h : r = (0, v, D)) : wvs r = v := by rw [h]; rfl
theorem rw0 {r : Nat × Int32 × gCT} {v : Int32} {D : gCT} (h : r = (0, v, D)) : wvw r = if v = 0 then 0 else 1 := by rw [h]; rfl
theorem rvv0 {r : Nat × Int32 × gCT} {v : Int32} {D : gCT} (h : r = (0, v, D)) : wvv r = 0 := by rw [h]; rfl
theorem rv1 {r : Nat × Int32 × gCT} {v : Int32} {D : gCT} (h : r = (1, v, D)) : wv r = -101 := by rw [h]; rfl
theorem rs1 {r : Nat × Int32 × gCT} {v : Int32} {D : gCT} (h : r = (1, v, D)) : wvs r = -100001 := by rw [h]; rfl
theorem rd1 {C : gCT} {r : Nat × Int32 × gCT} {v : Int32} {D : gCT} (h : r = (1, v, D)) : wd C r = C := by rw [h]; rfl
theorem rv2 {r : Nat × Int32 × gCT} {v : Int32} {D : gCT} (h : r = (2, v, D)) : wv r = -102 := by rw [h]; rfl
theorem rd2 {C : gCT} {r : Nat × Int32 × gCT} {v : Int32} {D : gCT} (h : r = (2, v, D)) : wd C r = C := by rw [h]; rfl
theorem rv3 {r : Nat × Int32 × gCT} {v : Int32} {D : gCT} (h : r = (3, v, D)) : wv r = -103 := by rw [h]; rfl
theorem rd3 {C : gCT} {r : Nat × Int32 × gCT} {v : Int32} {D : gCT} (h : r = (3, v, D)) : wd C r = C := by rw [h]; rfl
theorem rw3 {r : Nat × Int32 × gCT} {v : Int32} {D : gCT} (h : r = (3, v, D)) : wvw r = -103 := by rw [h]; rfl
theorem rvv3 {r : Nat × Int32 × gCT} {v : Int32} {D : gCT} (h : r = (3, v, D)) : wvv r = -103 := by rw [h]; rfl
section GT
variable {p : Program} {l : Launch} {e : Env} {R : Room} {s : State} {m : MethodId} {args : Array Value} {below : List Frame} {meth : Method} {c : Code} {H : Heap} {locs : List Loc} {cells slots : Nat} {Q : State → Prop}
variable {cc bytes : ByteArray} {own : String} {nL pc maxL n idx mc ms : Nat} {ls : Array Slot} {rest st0 As : List Value} {G : gG} {A : Nat → Prop} {y : MethodName} {ret : Option FieldType} {rm : Room} {a : Array Value} {a0 : Nat} {bb : Nat → Nat}
theorem r_runSW (X : gX p s m args c cc own nL G A) {hh : List (Nat × Nat × Nat × Nat)} {Pc : Array Value → State → Prop} {Qc : Array Value → State → Outcome → State → Prop} {XC : String → State → State → Prop} {free : Addr → Prop} (hM : vx_Met l y (.codeWith y bytes maxL ret hh :: gwl) rm Pc Qc XC rm.cells rm.slots free) (hy : Cond.static y ∈ gwl ∧ Cond.codeWith y bytes maxL ret hh ∈ gwl) (hi : Cond.initialized y.cls ∈ gwl)
    (hd : y.cls ≠ "java/lang/invoke/MethodHandle" ∧ y.cls ≠ "java/lang/invoke/VarHandle" ∧ (parseMethodDescriptor y.desc).map (fun d => d.parameters.length) = some n) (hml : Cond.methodLink own idx y ∈ gwl) (hR : rm.frames + 1 ≤ R.frames ∧ 8 + (maxL + 11) + rm.locals ≤ R.locals) (hb : FrameBlind Pc) (hp : ∀ U : State, U.heap = H → s.WarmedH U.vm → Pc As.toArray U)
    (hn : As.length = n) (hsz : ls.size = nL) (hst : st0 = As.reverse ++ rest) (hW : (rest.map fun v => v.category).sum ≤ 8) (hdg : decode cc pc = .ok (.invokestatic idx, 3)) (hf : cells + rm.cells ≤ R.cells ∧ slots + rm.slots ≤ R.slots) :
    vx_Run p l e R s m args below meth c H locs cells slots rm.cells rm.slots (F0 m pc ls st0) rest (Qc As.toArray) XC free := by
  have hg : GoodIn gwl (.codeWith y bytes maxL ret hh :: gwl) := gwl_app (fun w hw => (List.mem_cons.mp hw).elim (fun e => by rw [e]; exact hy.2) id)
  refine vx_runSX (hh := hh) X.1 hM ⟨⟨rfl, rfl, hR.1, hR.2, pay_in X.1.2.2.2.2 hg, List.mem_cons_self⟩, X.1.2.2.2.2 _ hy.2, X.1.2.2.2.2 _ hi, ⟨hd.1, hd.2.1⟩, fun sig h => ?_, X.1.2.2.2.2 _ hml, X.1.2.2.2.2 _ hy.1⟩ ⟨hb, hp⟩ rfl hn hsz hst (lv_room hW) hdg hf
  have h3 := hd.2.2
  rw [h] at h3
  exact (Option.some.inj h3).symm
/-- a method of the law's own is called, with the tool -/
theorem t_w {C D : gCT} {v0 : Int32} {ad : gAd} (X : gX p s m args c cc own nL G A) (hw : gW G A s.heap H locs (gLvO C) ad (gF G C ad)) (hr : vx_Run p l e R s m args below meth c H locs cells slots mc ms (F0 m pc ls st0) rest (gQi G (gA (gLvO C) ad H.size) (gYi G ad v0 D) a) (fun _ _ _ => False) (gA (gLvO C) ad H.size))
    (kk : ∀ (H1 : Heap) (locs1 : List Loc) (adD : gAd), gAdK ad adD → gW G A s.heap H1 locs1 (gLvO D) adD (gF G D adD) → W p l e R s m args below meth c H1 locs1 (cells + mc) (slots + ms) Q (F0 m (pc + 3) ls (.int v0 :: rest))) : W p l e R s m args below meth c H locs cells slots Q (F0 m pc ls st0) := by
  intro T hT X1
  rcases hr T hT X1 with ⟨v, st₀, t, T', L, h0, X', hL, e1, e2, ⟨⟨v1, u, hv, ⟨hva, ad', hu, hK⟩, hB⟩, hF⟩, st⟩ | ⟨q, st₀, t, T', L, E, ce, h0, X', hL, e1, e2, hq, -⟩
  · cases hv
    subst hva
    subst hu
    obtain ⟨k1, k2, k3⟩ := vx_keep h0 e1 hw.2 (fun q _ h => gA_in X hw q h) (gA_in X hw) hL hF
    obtain ⟨t2, a2, b2⟩ := kk T'.heap (locs ++ L) ad' hK (gW_backX X hw (by rw [e1]; exact hB) k3) T' rfl X'
    exact ⟨t2, st t2 a2, b2⟩
  · exact hq.elim
theorem t_ald {C : gCT} (X : gX p s m args c cc own nL G A) (hw : tW G A s.heap H locs C a0 bb) {k i : Nat} (hk : k < 3) (hi : i < gLw k) (hdg : decode cc pc = .ok (.iaload, 1))
    (kk : W p l e R s m args below meth c H locs cells slots Q (F0 m (pc + 1) ls (.int (C 22 k i) :: rest))) : W p l e R s m args below meth c H locs cells slots Q (F0 m pc ls (.int (nI i) :: .ref (bb k) :: rest)) := by
  obtain ⟨ad, h0, h1, hw⟩ := hw
  have h24 : gLw k ≤ 24 := by unfold gLw; split <;> omega
  rw [← h1 k hk]
  refine r_iald X hw 22 k hk (N := gLw k) (f := C 22 k) rfl ?_ hdg ?_
  · unfold vp_in
    exact nI_in hi (by omega)
  · rw [nI_clamp (by omega)]; exact kk
theorem t_ast {C : gCT} (X : gX p s m args c cc own nL G A) (hw : tW G A s.heap H locs C a0 bb) {k i : Nat} {x : Int32} (hk : k < 3) (hi : i < gLw k) (hdg : decode cc pc = .ok (.iastore, 1))
    (kk : ∀ (H1 : Heap) (locs1 : List Loc), tW G A s.heap H1 locs1 (cs C 22 k i x) a0 bb → W p l e R s m args below meth c H1 locs1 cells slots Q (F0 m (pc + 1) ls rest)) : W p l e R s m args below meth c H locs cells slots Q (F0 m pc ls (.int x :: .int (nI i) :: .ref (bb k) :: rest)) := by
  obtain ⟨ad, h0, h1, hw⟩ := hw
  have h24 : gLw k ≤ 24 := by unfold gLw; split <;> omega
  rw [← h1 k hk]
  refine s_iast X hw 22 k hk (N := gLw k) rfl (fun _ => rfl) (by unfold vp_in; exact nI_in hi (by omega)) hdg (fun H1 locs1 hw1 => ?_)
  rw [nI_clamp (by omega)] at hw1
  refine kk H1 locs1 ⟨ad, h0, h1, ?_⟩
  rw [gLvO_22]; exact hw1
theorem t_repaid {C : gCT} (X : gX p s m args c cc RL nL G A) (hI : gInv C) (hw : tW G A s.heap H locs C a0 bb) (hml : Cond.methodLink RL idx yX5_repaid ∈ gwl) (hR : 1 ≤ R.frames ∧ 20 ≤ R.locals) (hsz : ls.size = nL) (hW : (rest.map fun v => v.category).sum ≤ 8) (hdg : decode cc pc = .ok (.invokevirtual idx, 3)) (hc : cells ≤ R.cells) (hs : slots ≤ R.slots)
    (kk : ∀ (H1 : Heap) (locs1 : List Loc), tW G A s.heap H1 locs1 C a0 bb → W p l e R s m args below meth c H1 locs1 cells slots Q (F0 m (pc + 3) ls (.int (C 0 0 0) :: rest))) : W p l e R s m args below meth c H locs cells slots Q (F0 m pc ls (.ref a0 :: rest)) := by
  obtain ⟨ad, h0, h1, hw⟩ := hw
  subst h0
  refine r_rix X hw (r_runV X (c_m_repaid l G _ ad C hI.top _) cy_X5_repaid hml ⟨hR.1, hR.2⟩ gP.blind (g_recv X hw 0 0 rfl rfl rfl) (gP_call X hw _) rfl hsz rfl hW hdg ⟨hc, hs⟩) (fun H1 locs1 hw1 => ?_)
  exact kk H1 locs1 ⟨ad, rfl, h1, hw1⟩
theorem t_runs {C : gCT} (X : gX p s m args c cc RL nL G A) (hI : gInv C) (hw : tW G A s.heap H locs C a0 bb) (hml : Cond.methodLink RL idx yX5_runs ∈ gwl) (hR : 2 ≤ R.frames ∧ 40 ≤ R.locals) (hsz : ls.size = nL) (hW : (rest.map fun v => v.category).sum ≤ 8) (hdg : decode cc pc = .ok (.invokevirtual idx, 3)) (hc : cells ≤ R.cells) (hs : slots ≤ R.slots)
    (kk : ∀ (H1 : Heap) (locs1 : List Loc), tW G A s.heap H1 locs1 C a0 bb → W p l e R s m args below meth c H1 locs1 cells slots Q (F0 m (pc + 3) ls (.int (nI (gRc C)) :: rest))) : W p l e R s m args below meth c H locs cells slots Q (F0 m pc ls (.ref a0 :: rest)) := by
  obtain ⟨ad, h0, h1, hw⟩ := hw
  subst h0
  refine r_rix X hw (r_runV X (c_m_runs l G _ ad C _ _ hI.top hI.runs _) cy_X5_runs hml ⟨hR.1, hR.2⟩ gP.blind (g_recv X hw 0 0 rfl rfl rfl) (gP_call X hw _) rfl hsz rfl hW hdg ⟨hc, hs⟩) (fun H1 locs1 hw1 => ?_)
  have e : (m_runs C).1 = nI (gRc C) := (hI.cnt (Or.inr rfl)).1
  rw [e]
  exact kk H1 locs1 ⟨ad, rfl, h1, hw1⟩
theorem dd_write : yL_write.cls ≠ "java/lang/invoke/MethodHandle" ∧ yL_write.cls ≠ "java/lang/invoke/VarHandle" ∧ (parseMethodDescriptor yL_write.desc).map (fun d => d.parameters.length) = some 4 := ⟨by decide +kernel, by decide +kernel, by decide +kernel⟩
theorem t_write (hstk : l.stackTraces = false) {C D : gCT} {v : Int32} (X : gX p s m args c cc RL nL G A) (hI : gInv C) (hw : tW G A s.heap H locs C a0 bb) {n1 n2 n3 : Int32} (hv : wv (m_write C n1 n2 n3) = v) (hD : wd C (m_write C n1 n2 n3) = D) (hml : Cond.methodLink RL idx yL_write ∈ gwl) (hR : 9 ≤ R.frames ∧ 151 ≤ R.locals) (hsz : ls.size = nL) (hW : (rest.map fun v => v.category).sum ≤ 8) (hdg : decode cc pc = .ok (.invokestatic idx, 3)) (hc : cells + 2 ≤ R.cells) (hs : slots + 12 ≤ R.slots)
    (kk : ∀ (H1 : Heap) (locs1 : List Loc) (cells1 slots1 : Nat), cells1 = cells + 2 → slots1 = slots + 12 → tW G A s.heap H1 locs1 D a0 bb → W p l e R s m args below meth c H1 locs1 cells1 slots1 Q (F0 m (pc + 3) ls (.int v :: rest))) : W p l e R s m args below meth c H locs cells slots Q (F0 m pc ls (.int n3 :: .int n2 :: .int n1 :: .ref a0 :: rest)) := by
  obtain ⟨ad, h0, h1, hw⟩ := hw
  subst h0
  subst hv
  subst hD
  refine t_w X hw (r_runSW X (c_w_write l hstk G C ad n1 n2 n3 hI _) cw_write ini_RL dd_write hml ⟨hR.1, hR.2⟩ gP.blind (gP_call X hw _) rfl hsz rfl hW hdg ⟨hc, hs⟩) (fun H1 locs1 adD hK hw1 => ?_)
  exact kk H1 locs1 _ _ rfl rfl ⟨adD, hK.1, fun k hk => (hK.2 k hk).trans (h1 k hk), hw1⟩
theorem dd_publish : yL_publish.cls ≠ "java/lang/invoke/MethodHandle" ∧ yL_publish.cls ≠ "java/lang/invoke/VarHandle" ∧ (parseMethodDescriptor yL_publish.desc).map (fun d => d.parameters.length) = some 2 := ⟨by decide +kernel, by decide +kernel, by decide +kernel⟩
theorem t_publish (hstk : l.stackTraces = false) {C D : gCT} {v : Int32} (X : gX p s m args c cc RL nL G A) (hI : gInv C) (hw : tW G A s.heap H locs C a0 bb) {n1 : Int32} (hv : wv (m_publish C n1) = v) (hD : wd C (m_publish C n1) = D) (hml : Cond.methodLink RL idx yL_publish ∈ gwl) (hR : 9 ≤ R.frames ∧ 147 ≤ R.locals) (hsz : ls.size = nL) (hW : (rest.map fun v => v.category).sum ≤ 8) (hdg : decode cc pc = .ok (.invokestatic idx, 3)) (hc : cells + 6 ≤ R.cells) (hs : slots + 80 ≤ R.slots)
    (kk : ∀ (H1 : Heap) (locs1 : List Loc) (cells1 slots1 : Nat), cells1 = cells + 6 → slots1 = slots + 80 → tW G A s.heap H1 locs1 D a0 bb → W p l e R s m args below meth c H1 locs1 cells1 slots1 Q (F0 m (pc + 3) ls (.int v :: rest))) : W p l e R s m args below meth c H locs cells slots Q (F0 m pc ls (.int n1 :: .ref a0 :: rest)) := by
  obtain ⟨ad, h0, h1, hw⟩ := hw
  subst h0
  subst hv
  subst hD
  refine t_w X hw (r_runSW X (c_w_publish l hstk G C ad n1 hI _) cw_publish ini_RL dd_publish hml ⟨hR.1, hR.2⟩ gP.blind (gP_call X hw _) rfl hsz rfl hW hdg ⟨hc, hs⟩) (fun H1 locs1 adD hK hw1 => ?_)
  exact kk H1 locs1 _ _ rfl rfl ⟨adD, hK.1, fun k hk => (hK.2 k hk).trans (h1 k hk), hw1⟩
theorem dd_setFuel : yL_fuels.cls ≠ "java/lang/invoke/MethodHandle" ∧ yL_fuels.cls ≠ "java/lang/invoke/VarHandle" ∧ (parseMethodDescriptor yL_fuels.desc).map (fun d => d.parameters.length) = some 3 := ⟨by decide +kernel, by decide +kernel, by decide +kernel⟩
theorem t_setFuel (hstk : l.stackTraces = false) {C D : gCT} {v : Int32} (X : gX p s m args c cc RL nL G A) (hI : gInv C) (hw : tW G A s.heap H locs C a0 bb) {n1 n2 : Int32} (hv : wv (m_setFuel C n1 n2) = v) (hD : wd C (m_setFuel C n1 n2) = D) (hml : Cond.methodLink RL idx yL_fuels ∈ gwl) (hR : 9 ≤ R.frames ∧ 150 ≤ R.locals) (hsz : ls.size = nL) (hW : (rest.map fun v => v.category).sum ≤ 8) (hdg : decode cc pc = .ok (.invokestatic idx, 3)) (hc : cells + 2 ≤ R.cells) (hs : slots + 12 ≤ R.slots)
    (kk : ∀ (H1 : Heap) (locs1 : List Loc) (cells1 slots1 : Nat), cells1 = cells + 2 → slots1 = slots + 12 → tW G A s.heap H1 locs1 D a0 bb → W p l e R s m args below meth c H1 locs1 cells1 slots1 Q (F0 m (pc + 3) ls (.int v :: rest))) : W p l e R s m args below meth c H locs cells slots Q (F0 m pc ls (.int n2 :: .int n1 :: .ref a0 :: rest)) := by
  obtain ⟨ad, h0, h1, hw⟩ := hw
  subst h0
  subst hv
  subst hD
  refine t_w X hw (r_runSW X (c_w_setFuel l hstk G C ad n1 n2 hI _) cw_setFuel ini_RL dd_setFuel hml ⟨hR.1, hR.2⟩ gP.blind (gP_call X hw _) rfl hsz rfl hW hdg ⟨hc, hs⟩) (fun H1 locs1 adD hK hw1 => ?_)
  exact kk H1 locs1 _ _ rfl rfl ⟨adD, hK.1, fun k hk => (hK.2 k hk).trans (h1 k hk), hw1⟩
theorem dd_fund : yL_fund.cls ≠ "java/lang/invoke/MethodHandle" ∧ yL_fund.cls ≠ "java/lang/invoke/VarHandle" ∧ (parseMethodDescriptor yL_fund.desc).map (fun d => d.parameters.length) = some 3 := ⟨by decide +kernel, by decide +kernel, by decide +kernel⟩
theorem t_fund (hstk : l.stackTraces = false) {C D : gCT} {v : Int32} (X : gX p s m args c cc RL nL G A) (hI : gInv C) (hw : tW G A s.heap H locs C a0 bb) {n1 n2 : Int32} (hv : wv (m_fund C n1 n2) = v) (hD : wd C (m_fund C n1 n2) = D) (hml : Cond.methodLink RL idx yL_fund ∈ gwl) (hR : 9 ≤ R.frames ∧ 149 ≤ R.locals) (hsz : ls.size = nL) (hW : (rest.map fun v => v.category).sum ≤ 8) (hdg : decode cc pc = .ok (.invokestatic idx, 3)) (hc : cells + 2 ≤ R.cells) (hs : slots + 12 ≤ R.slots)
    (kk : ∀ (H1 : Heap) (locs1 : List Loc) (cells1 slots1 : Nat), cells1 = cells + 2 → slots1 = slots + 12 → tW G A s.heap H1 locs1 D a0 bb → W p l e R s m args below meth c H1 locs1 cells1 slots1 Q (F0 m (pc + 3) ls (.int v :: rest))) : W p l e R s m args below meth c H locs cells slots Q (F0 m pc ls (.int n2 :: .int n1 :: .ref a0 :: rest)) := by
  obtain ⟨ad, h0, h1, hw⟩ := hw
  subst h0
  subst hv
  subst hD
  refine t_w X hw (r_runSW X (c_w_fund l hstk G C ad n1 n2 hI _) cw_fund ini_RL dd_fund hml ⟨hR.1, hR.2⟩ gP.blind (gP_call X hw _) rfl hsz rfl hW hdg ⟨hc, hs⟩) (fun H1 locs1 adD hK hw1 => ?_)
  exact kk H1 locs1 _ _ rfl rfl ⟨adD, hK.1, fun k hk => (hK.2 k hk).trans (h1 k hk), hw1⟩
theorem dd_setQuota : yL_quota.cls ≠ "java/lang/invoke/MethodHandle" ∧ yL_quota.cls ≠ "java/lang/invoke/VarHandle" ∧ (parseMethodDescriptor yL_quota.desc).map (fun d => d.parameters.length) = some 4 := ⟨by decide +kernel, by decide +kernel, by decide +kernel⟩
theorem t_setQuota (hstk : l.stackTraces = false) {C D : gCT} {v : Int32} (X : gX p s m args c cc RL nL G A) (hI : gInv C) (hw : tW G A s.heap H locs C a0 bb) {n1 n2 n3 : Int32} (hv : wv (m_setQuota C n1 n2 n3) = v) (hD : wd C (m_setQuota C n1 n2 n3) = D) (hml : Cond.methodLink RL idx yL_quota ∈ gwl) (hR : 9 ≤ R.frames ∧ 152 ≤ R.locals) (hsz : ls.size = nL) (hW : (rest.map fun v => v.category).sum ≤ 8) (hdg : decode cc pc = .ok (.invokestatic idx, 3)) (hc : cells + 2 ≤ R.cells) (hs : slots + 12 ≤ R.slots)
    (kk : ∀ (H1 : Heap) (locs1 : List Loc) (cells1 slots1 : Nat), cells1 = cells + 2 → slots1 = slots + 12 → tW G A s.heap H1 locs1 D a0 bb → W p l e R s m args below meth c H1 locs1 cells1 slots1 Q (F0 m (pc + 3) ls (.int v :: rest))) : W p l e R s m args below meth c H locs cells slots Q (F0 m pc ls (.int n3 :: .int n2 :: .int n1 :: .ref a0 :: rest)) := by
  obtain ⟨ad, h0, h1, hw⟩ := hw
  subst h0
  subst hv
  subst hD
  refine t_w X hw (r_runSW X (c_w_setQuota l hstk G C ad n1 n2 n3 hI _) cw_setQuota ini_RL dd_setQuota hml ⟨hR.1, hR.2⟩ gP.blind (gP_call X hw _) rfl hsz rfl hW hdg ⟨hc, hs⟩) (fun H1 locs1 adD hK hw1 => ?_)
  exact kk H1 locs1 _ _ rfl rfl ⟨adD, hK.1, fun k hk => (hK.2 k hk).trans (h1 k hk), hw1⟩
theorem dd_setPrice : yL_price.cls ≠ "java/lang/invoke/MethodHandle" ∧ yL_price.cls ≠ "java/lang/invoke/VarHandle" ∧ (parseMethodDescriptor yL_price.desc).map (fun d => d.parameters.length) = some 3 := ⟨by decide +kernel, by decide +kernel, by decide +kernel⟩
theorem t_setPrice (hstk : l.stackTraces = false) {C D : gCT} {v : Int32} (X : gX p s m args c cc RL nL G A) (hI : gInv C) (hw : tW G A s.heap H locs C a0 bb) {n1 n2 : Int32} (hv : wv (m_setPrice C n1 n2) = v) (hD : wd C (m_setPrice C n1 n2) = D) (hml : Cond.methodLink RL idx yL_price ∈ gwl) (hR : 8 ≤ R.frames ∧ 128 ≤ R.locals) (hsz : ls.size = nL) (hW : (rest.map fun v => v.category).sum ≤ 8) (hdg : decode cc pc = .ok (.invokestatic idx, 3)) (hc : cells + 1 ≤ R.cells) (hs : slots + 6 ≤ R.slots)
    (kk : ∀ (H1 : Heap) (locs1 : List Loc) (cells1 slots1 : Nat), cells1 = cells + 1 → slots1 = slots + 6 → tW G A s.heap H1 locs1 D a0 bb → W p l e R s m args below meth c H1 locs1 cells1 slots1 Q (F0 m (pc + 3) ls (.int v :: rest))) : W p l e R s m args below meth c H locs cells slots Q (F0 m pc ls (.int n2 :: .int n1 :: .ref a0 :: rest)) := by
  obtain ⟨ad, h0, h1, hw⟩ := hw
  subst h0
  subst hv
  subst hD
  refine t_w X hw (r_runSW X (c_w_setPrice l hstk G C ad n1 n2 hI _) cw_setPrice ini_RL dd_setPrice hml ⟨hR.1, hR.2⟩ gP.blind (gP_call X hw _) rfl hsz rfl hW hdg ⟨hc, hs⟩) (fun H1 locs1 adD hK hw1 => ?_)
  exact kk H1 locs1 _ _ rfl rfl ⟨adD, hK.1, fun k hk => (hK.2 k hk).trans (h1 k hk), hw1⟩
theorem dd_reword : yL_reword.cls ≠ "java/lang/invoke/MethodHandle" ∧ yL_reword.cls ≠ "java/lang/invoke/VarHandle" ∧ (parseMethodDescriptor yL_reword.desc).map (fun d => d.parameters.length) = some 2 := ⟨by decide +kernel, by decide +kernel, by decide +kernel⟩
theorem t_reword (hstk : l.stackTraces = false) {C D : gCT} {v : Int32} (X : gX p s m args c cc RL nL G A) (hI : gInv C) (hw : tW G A s.heap H locs C a0 bb) {n1 : Int32} (hv : wv (m_reword C n1) = v) (hD : wd C (m_reword C n1) = D) (hml : Cond.methodLink RL idx yL_reword ∈ gwl) (hR : 8 ≤ R.frames ∧ 125 ≤ R.locals) (hsz : ls.size = nL) (hW : (rest.map fun v => v.category).sum ≤ 8) (hdg : decode cc pc = .ok (.invokestatic idx, 3)) (hc : cells + 1 ≤ R.cells) (hs : slots + 6 ≤ R.slots)
    (kk : ∀ (H1 : Heap) (locs1 : List Loc) (cells1 slots1 : Nat), cells1 = cells + 1 → slots1 = slots + 6 → tW G A s.heap H1 locs1 D a0 bb → W p l e R s m args below meth c H1 locs1 cells1 slots1 Q (F0 m (pc + 3) ls (.int v :: rest))) : W p l e R s m args below meth c H locs cells slots Q (F0 m pc ls (.int n1 :: .ref a0 :: rest)) := by
  obtain ⟨ad, h0, h1, hw⟩ := hw
  subst h0
  subst hv
  subst hD
  refine t_w X hw (r_runSW X (c_w_reword l hstk G C ad n1 hI _) cw_reword ini_RL dd_reword hml ⟨hR.1, hR.2⟩ gP.blind (gP_call X hw _) rfl hsz rfl hW hdg ⟨hc, hs⟩) (fun H1 locs1 adD hK hw1 => ?_)
  exact kk H1 locs1 _ _ rfl rfl ⟨adD, hK.1, fun k hk => (hK.2 k hk).trans (h1 k hk), hw1⟩
theorem dd_begin : yL_begin.cls ≠ "java/lang/invoke/MethodHandle" ∧ yL_begin.cls ≠ "java/lang/invoke/VarHandle" ∧ (parseMethodDescriptor yL_begin.desc).map (fun d => d.parameters.length) = some 3 := ⟨by decide +kernel, by decide +kernel, by decide +kernel⟩
theorem t_begin (hstk : l.stackTraces = false) {C D : gCT} {v : Int32} (X : gX p s m args c cc RL nL G A) (hI : gInv C) (hw : tW G A s.heap H locs C a0 bb) {n1 n2 : Int32} (hv : wv (m_begin C n1 n2) = v) (hD : wd C (m_begin C n1 n2) = D) (hml : Cond.methodLink RL idx yL_begin ∈ gwl) (hR : 12 ≤ R.frames ∧ 327 ≤ R.locals) (hsz : ls.size = nL) (hW : (rest.map fun v => v.category).sum ≤ 8) (hdg : decode cc pc = .ok (.invokestatic idx, 3)) (hc : cells + 12 ≤ R.cells) (hs : slots + 2220 ≤ R.slots)
    (kk : ∀ (H1 : Heap) (locs1 : List Loc) (cells1 slots1 : Nat), cells1 = cells + 12 → slots1 = slots + 2220 → tW G A s.heap H1 locs1 D a0 bb → W p l e R s m args below meth c H1 locs1 cells1 slots1 Q (F0 m (pc + 3) ls (.int v :: rest))) : W p l e R s m args below meth c H locs cells slots Q (F0 m pc ls (.int n2 :: .int n1 :: .ref a0 :: rest)) := by
  obtain ⟨ad, h0, h1, hw⟩ := hw
  subst h0
  subst hv
  subst hD
  refine t_w X hw (r_runSW X (c_w_begin l hstk G C ad n1 n2 hI _) cw_begin ini_RL dd_begin hml ⟨hR.1, hR.2⟩ gP.blind (gP_call X hw _) rfl hsz rfl hW hdg ⟨hc, hs⟩) (fun H1 locs1 adD hK hw1 => ?_)
  exact kk H1 locs1 _ _ rfl rfl ⟨adD, hK.1, fun k hk => (hK.2 k hk).trans (h1 k hk), hw1⟩
theorem dd_answer : yL_answer.cls ≠ "java/lang/invoke/MethodHandle" ∧ yL_answer.cls ≠ "java/lang/invoke/VarHandle" ∧ (parseMethodDescriptor yL_answer.desc).map (fun d => d.parameters.length) = some 3 := ⟨by decide +kernel, by decide +kernel, by decide +kernel⟩
theorem t_answer (hstk : l.stackTraces = false) {C D : gCT} {v : Int32} (X : gX p s m args c cc RL nL G A) (hI : gInv C) (hw : tW G A s.heap H locs C a0 bb) {n1 n2 : Int32} (hv : wv (m_answer C n1 n2) = v) (hD : wd C (m_answer C n1 n2) = D) (hml : Cond.methodLink RL idx yL_answer ∈ gwl) (hR : 12 ≤ R.frames ∧ 267 ≤ R.locals) (hsz : ls.size = nL) (hW : (rest.map fun v => v.category).sum ≤ 8) (hdg : decode cc pc = .ok (.invokestatic idx, 3)) (hc : cells + 4 ≤ R.cells) (hs : slots + 2120 ≤ R.slots)
    (kk : ∀ (H1 : Heap) (locs1 : List Loc) (cells1 slots1 : Nat), cells1 = cells + 4 → slots1 = slots + 2120 → tW G A s.heap H1 locs1 D a0 bb → W p l e R s m args below meth c H1 locs1 cells1 slots1 Q (F0 m (pc + 3) ls (.int v :: rest))) : W p l e R s m args below meth c H locs cells slots Q (F0 m pc ls (.int n2 :: .int n1 :: .ref a0 :: rest)) := by
  obtain ⟨ad, h0, h1, hw⟩ := hw
  subst h0
  subst hv
  subst hD
  refine t_w X hw (r_runSW X (c_w_answer l hstk G C ad n1 n2 hI _) cw_answer ini_RL dd_answer hml ⟨hR.1, hR.2⟩ gP.blind (gP_call X hw _) rfl hsz rfl hW hdg ⟨hc, hs⟩) (fun H1 locs1 adD hK hw1 => ?_)
  exact kk H1 locs1 _ _ rfl rfl ⟨adD, hK.1, fun k hk => (hK.2 k hk).trans (h1 k hk), hw1⟩
theorem dd_save : yL_save.cls ≠ "java/lang/invoke/MethodHandle" ∧ yL_save.cls ≠ "java/lang/invoke/VarHandle" ∧ (parseMethodDescriptor yL_save.desc).map (fun d => d.parameters.length) = some 2 := ⟨by decide +kernel, by decide +kernel, by decide +kernel⟩
theorem t_save (hstk : l.stackTraces = false) {C D : gCT} {v : Int32} (X : gX p s m args c cc RL nL G A) (hI : gInv C) (hw : tW G A s.heap H locs C a0 bb) {n1 : Int32} (hv : wvv (m_save C n1) = v) (hD : wd C (m_save C n1) = D) (hml : Cond.methodLink RL idx yL_save ∈ gwl) (hR : 9 ≤ R.frames ∧ 147 ≤ R.locals) (hsz : ls.size = nL) (hW : (rest.map fun v => v.category).sum ≤ 8) (hdg : decode cc pc = .ok (.invokestatic idx, 3)) (hc : cells + 2 ≤ R.cells) (hs : slots + 12 ≤ R.slots)
    (kk : ∀ (H1 : Heap) (locs1 : List Loc) (cells1 slots1 : Nat), cells1 = cells + 2 → slots1 = slots + 12 → tW G A s.heap H1 locs1 D a0 bb → W p l e R s m args below meth c H1 locs1 cells1 slots1 Q (F0 m (pc + 3) ls (.int v :: rest))) : W p l e R s m args below meth c H locs cells slots Q (F0 m pc ls (.int n1 :: .ref a0 :: rest)) := by
  obtain ⟨ad, h0, h1, hw⟩ := hw
  subst h0
  subst hv
  subst hD
  refine t_w X hw (r_runSW X (c_w_save l hstk G C ad n1 hI _) cw_save ini_RL dd_save hml ⟨hR.1, hR.2⟩ gP.blind (gP_call X hw _) rfl hsz rfl hW hdg ⟨hc, hs⟩) (fun H1 locs1 adD hK hw1 => ?_)
  exact kk H1 locs1 _ _ rfl rfl ⟨adD, hK.1, fun k hk => (hK.2 k hk).trans (h1 k hk), hw1⟩
theorem dd_wake : yL_wake.cls ≠ "java/lang/invoke/MethodHandle" ∧ yL_wake.cls ≠ "java/lang/invoke/VarHandle" ∧ (parseMethodDescriptor yL_wake.desc).map (fun d => d.parameters.length) = some 2 := ⟨by decide +kernel, by decide +kernel, by decide +kernel⟩
theorem t_wake (hstk : l.stackTraces = false) {C D : gCT} {v : Int32} (X : gX p s m args c cc RL nL G A) (hI : gInv C) (hw : tW G A s.heap H locs C a0 bb) {n1 : Int32} (hv : wvw (m_wake C n1) = v) (hD : wd C (m_wake C n1) = D) (hml : Cond.methodLink RL idx yL_wake ∈ gwl) (hR : 10 ≤ R.frames ∧ 225 ≤ R.locals) (hsz : ls.size = nL) (hW : (rest.map fun v => v.category).sum ≤ 8) (hdg : decode cc pc = .ok (.invokestatic idx, 3)) (hc : cells + 2 ≤ R.cells) (hs : slots + 12 ≤ R.slots)
    (kk : ∀ (H1 : Heap) (locs1 : List Loc) (cells1 slots1 : Nat), cells1 = cells + 2 → slots1 = slots + 12 → tW G A s.heap H1 locs1 D a0 bb → W p l e R s m args below meth c H1 locs1 cells1 slots1 Q (F0 m (pc + 3) ls (.int v :: rest))) : W p l e R s m args below meth c H locs cells slots Q (F0 m pc ls (.int n1 :: .ref a0 :: rest)) := by
  obtain ⟨ad, h0, h1, hw⟩ := hw
  subst h0
  subst hv
  subst hD
  refine t_w X hw (r_runSW X (c_w_wake l hstk G C ad n1 hI _) cw_wake ini_RL dd_wake hml ⟨hR.1, hR.2⟩ gP.blind (gP_call X hw _) rfl hsz rfl hW hdg ⟨hc, hs⟩) (fun H1 locs1 adD hK hw1 => ?_)
  exact kk H1 locs1 _ _ rfl rfl ⟨adD, hK.1, fun k hk => (hK.2 k hk).trans (h1 k hk), hw1⟩
theorem dd_leave : yL_leave.cls ≠ "java/lang/invoke/MethodHandle" ∧ yL_leave.cls ≠ "java/lang/invoke/VarHandle" ∧ (parseMethodDescriptor yL_leave.desc).map (fun d => d.parameters.length) = some 2 := ⟨by decide +kernel, by decide +kernel, by decide +kernel⟩
theorem t_leave (hstk : l.stackTraces = false) {C D : gCT} {v : Int32} (X : gX p s m args c cc RL nL G A) (hI : gInv C) (hw : tW G A s.heap H locs C a0 bb) {n1 : Int32} (hv : wv (m_leave C n1) = v) (hD : wd C (m_leave C n1) = D) (hml : Cond.methodLink RL idx yL_leave ∈ gwl) (hR : 9 ≤ R.frames ∧ 147 ≤ R.locals) (hsz : ls.size = nL) (hW : (rest.map fun v => v.category).sum ≤ 8) (hdg : decode cc pc = .ok (.invokestatic idx, 3)) (hc : cells + 2 ≤ R.cells) (hs : slots + 12 ≤ R.slots)
    (kk : ∀ (H1 : Heap) (locs1 : List Loc) (cells1 slots1 : Nat), cells1 = cells + 2 → slots1 = slots + 12 → tW G A s.heap H1 locs1 D a0 bb → W p l e R s m args below meth c H1 locs1 cells1 slots1 Q (F0 m (pc + 3) ls (.int v :: rest))) : W p l e R s m args below meth c H locs cells slots Q (F0 m pc ls (.int n1 :: .ref a0 :: rest)) := by
  obtain ⟨ad, h0, h1, hw⟩ := hw
  subst h0
  subst hv
  subst hD
  refine t_w X hw (r_runSW X (c_w_leave l hstk G C ad n1 hI _) cw_leave ini_RL dd_leave hml ⟨hR.1, hR.2⟩ gP.blind (gP_call X hw _) rfl hsz rfl hW hdg ⟨hc, hs⟩) (fun H1 locs1 adD hK hw1 => ?_)
  exact kk H1 locs1 _ _ rfl rfl ⟨adD, hK.1, fun k hk => (hK.2 k hk).trans (h1 k hk), hw1⟩
theorem dd_state : yL_state.cls ≠ "java/lang/invoke/MethodHandle" ∧ yL_state.cls ≠ "java/lang/invoke/VarHandle" ∧ (parseMethodDescriptor yL_state.desc).map (fun d => d.parameters.length) = some 2 := ⟨by decide +kernel, by decide +kernel, by decide +kernel⟩
theorem t_state (hstk : l.stackTraces = false) {C D : gCT} {v : Int32} (X : gX p s m args c cc RL nL G A) (hI : gInv C) (hw : tW G A s.heap H locs C a0 bb) {n1 : Int32} (hv : wv (m_state C n1) = v) (hD : wd C (m_state C n1) = D) (hml : Cond.methodLink RL idx yL_state ∈ gwl) (hR : 9 ≤ R.frames ∧ 146 ≤ R.locals) (hsz : ls.size = nL) (hW : (rest.map fun v => v.category).sum ≤ 8) (hdg : decode cc pc = .ok (.invokestatic idx, 3)) (hc : cells + 2 ≤ R.cells) (hs : slots + 12 ≤ R.slots)
    (kk : ∀ (H1 : Heap) (locs1 : List Loc) (cells1 slots1 : Nat), cells1 = cells + 2 → slots1 = slots + 12 → tW G A s.heap H1 locs1 D a0 bb → W p l e R s m args below meth c H1 locs1 cells1 slots1 Q (F0 m (pc + 3) ls (.int v :: rest))) : W p l e R s m args below meth c H locs cells slots Q (F0 m pc ls (.int n1 :: .ref a0 :: rest)) := by
  obtain ⟨ad, h0, h1, hw⟩ := hw
  subst h0
  subst hv
  subst hD
  refine t_w X hw (r_runSW X (c_w_state l hstk G C ad n1 hI _) cw_state ini_RL dd_state hml ⟨hR.1, hR.2⟩ gP.blind (gP_call X hw _) rfl hsz rfl hW hdg ⟨hc, hs⟩) (fun H1 locs1 adD hK hw1 => ?_)
  exact kk H1 locs1 _ _ rfl rfl ⟨adD, hK.1, fun k hk => (hK.2 k hk).trans (h1 k hk), hw1⟩
theorem dd_question : yL_question.cls ≠ "java/lang/invoke/MethodHandle" ∧ yL_question.cls ≠ "java/lang/invoke/VarHandle" ∧ (parseMethodDescriptor yL_question.desc).map (fun d => d.parameters.length) = some 2 := ⟨by decide +kernel, by decide +kernel, by decide +kernel⟩
theorem t_question (hstk : l.stackTraces = false) {C D : gCT} {v : Int32} (X : gX p s m args c cc RL nL G A) (hI : gInv C) (hw : tW G A s.heap H locs C a0 bb) {n1 : Int32} (hv : wv (m_question C n1) = v) (hD : wd C (m_question C n1) = D) (hml : Cond.methodLink RL idx yL_question ∈ gwl) (hR : 9 ≤ R.frames ∧ 148 ≤ R.locals) (hsz : ls.size = nL) (hW : (rest.map fun v => v.category).sum ≤ 8) (hdg : decode cc pc = .ok (.invokestatic idx, 3)) (hc : cells + 2 ≤ R.cells) (hs : slots + 12 ≤ R.slots)
    (kk : ∀ (H1 : Heap) (locs1 : List Loc) (cells1 slots1 : Nat), cells1 = cells + 2 → slots1 = slots + 12 → tW G A s.heap H1 locs1 D a0 bb → W p l e R s m args below meth c H1 locs1 cells1 slots1 Q (F0 m (pc + 3) ls (.int v :: rest))) : W p l e R s m args below meth c H locs cells slots Q (F0 m pc ls (.int n1 :: .ref a0 :: rest)) := by
  obtain ⟨ad, h0, h1, hw⟩ := hw
  subst h0
  subst hv
  subst hD
  refine t_w X hw (r_runSW X (c_w_question l hstk G C ad n1 hI _) cw_question ini_RL dd_question hml ⟨hR.1, hR.2⟩ gP.blind (gP_call X hw _) rfl hsz rfl hW hdg ⟨hc, hs⟩) (fun H1 locs1 adD hK hw1 => ?_)
  exact kk H1 locs1 _ _ rfl rfl ⟨adD, hK.1, fun k hk => (hK.2 k hk).trans (h1 k hk), hw1⟩
theorem dd_version : yL_version.cls ≠ "java/lang/invoke/MethodHandle" ∧ yL_version.cls ≠ "java/lang/invoke/VarHandle" ∧ (parseMethodDescriptor yL_version.desc).map (fun d => d.parameters.length) = some 2 := ⟨by decide +kernel, by decide +kernel, by decide +kernel⟩
theorem t_version (hstk : l.stackTraces = false) {C D : gCT} {v : Int32} (X : gX p s m args c cc RL nL G A) (hI : gInv C) (hw : tW G A s.heap H locs C a0 bb) {n1 : Int32} (hv : wv (m_version C n1) = v) (hD : wd C (m_version C n1) = D) (hml : Cond.methodLink RL idx yL_version ∈ gwl) (hR : 9 ≤ R.frames ∧ 146 ≤ R.locals) (hsz : ls.size = nL) (hW : (rest.map fun v => v.category).sum ≤ 8) (hdg : decode cc pc = .ok (.invokestatic idx, 3)) (hc : cells + 2 ≤ R.cells) (hs : slots + 12 ≤ R.slots)
    (kk : ∀ (H1 : Heap) (locs1 : List Loc) (cells1 slots1 : Nat), cells1 = cells + 2 → slots1 = slots + 12 → tW G A s.heap H1 locs1 D a0 bb → W p l e R s m args below meth c H1 locs1 cells1 slots1 Q (F0 m (pc + 3) ls (.int v :: rest))) : W p l e R s m args below meth c H locs cells slots Q (F0 m pc ls (.int n1 :: .ref a0 :: rest)) := by
  obtain ⟨ad, h0, h1, hw⟩ := hw
  subst h0
  subst hv
  subst hD
  refine t_w X hw (r_runSW X (c_w_version l hstk G C ad n1 hI _) cw_version ini_RL dd_version hml ⟨hR.1, hR.2⟩ gP.blind (gP_call X hw _) rfl hsz rfl hW hdg ⟨hc, hs⟩) (fun H1 locs1 adD hK hw1 => ?_)
  exact kk H1 locs1 _ _ rfl rfl ⟨adD, hK.1, fun k hk => (hK.2 k hk).trans (h1 k hk), hw1⟩
theorem dd_fuel : yL_fuel.cls ≠ "java/lang/invoke/MethodHandle" ∧ yL_fuel.cls ≠ "java/lang/invoke/VarHandle" ∧ (parseMethodDescriptor yL_fuel.desc).map (fun d => d.parameters.length) = some 2 := ⟨by decide +kernel, by decide +kernel, by decide +kernel⟩
theorem t_fuel (hstk : l.stackTraces = false) {C D : gCT} {v : Int32} (X : gX p s m args c cc RL nL G A) (hI : gInv C) (hw : tW G A s.heap H locs C a0 bb) {n1 : Int32} (hv : wv (m_fuel C n1) = v) (hD : wd C (m_fuel C n1) = D) (hml : Cond.methodLink RL idx yL_fuel ∈ gwl) (hR : 9 ≤ R.frames ∧ 146 ≤ R.locals) (hsz : ls.size = nL) (hW : (rest.map fun v => v.category).sum ≤ 8) (hdg : decode cc pc = .ok (.invokestatic idx, 3)) (hc : cells + 2 ≤ R.cells) (hs : slots + 12 ≤ R.slots)
    (kk : ∀ (H1 : Heap) (locs1 : List Loc) (cells1 slots1 : Nat), cells1 = cells + 2 → slots1 = slots + 12 → tW G A s.heap H1 locs1 D a0 bb → W p l e R s m args below meth c H1 locs1 cells1 slots1 Q (F0 m (pc + 3) ls (.int v :: rest))) : W p l e R s m args below meth c H locs cells slots Q (F0 m pc ls (.int n1 :: .ref a0 :: rest)) := by
  obtain ⟨ad, h0, h1, hw⟩ := hw
  subst h0
  subst hv
  subst hD
  refine t_w X hw (r_runSW X (c_w_fuel l hstk G C ad n1 hI _) cw_fuel ini_RL dd_fuel hml ⟨hR.1, hR.2⟩ gP.blind (gP_call X hw _) rfl hsz rfl hW hdg ⟨hc, hs⟩) (fun H1 locs1 adD hK hw1 => ?_)
  exact kk H1 locs1 _ _ rfl rfl ⟨adD, hK.1, fun k hk => (hK.2 k hk).trans (h1 k hk), hw1⟩
theorem dd_fuelAgain : yL_again.cls ≠ "java/lang/invoke/MethodHandle" ∧ yL_again.cls ≠ "java/lang/invoke/VarHandle" ∧ (parseMethodDescriptor yL_again.desc).map (fun d => d.parameters.length) = some 2 := ⟨by decide +kernel, by decide +kernel, by decide +kernel⟩
theorem t_fuelAgain (hstk : l.stackTraces = false) {C D : gCT} {v : Int32} (X : gX p s m args c cc RL nL G A) (hI : gInv C) (hw : tW G A s.heap H locs C a0 bb) {n1 : Int32} (hv : wv (m_fuelAgain C n1) = v) (hD : wd C (m_fuelAgain C n1) = D) (hml : Cond.methodLink RL idx yL_again ∈ gwl) (hR : 10 ≤ R.frames ∧ 224 ≤ R.locals) (hsz : ls.size = nL) (hW : (rest.map fun v => v.category).sum ≤ 8) (hdg : decode cc pc = .ok (.invokestatic idx, 3)) (hc : cells + 2 ≤ R.cells) (hs : slots + 12 ≤ R.slots)
    (kk : ∀ (H1 : Heap) (locs1 : List Loc) (cells1 slots1 : Nat), cells1 = cells + 2 → slots1 = slots + 12 → tW G A s.heap H1 locs1 D a0 bb → W p l e R s m args below meth c H1 locs1 cells1 slots1 Q (F0 m (pc + 3) ls (.int v :: rest))) : W p l e R s m args below meth c H locs cells slots Q (F0 m pc ls (.int n1 :: .ref a0 :: rest)) := by
  obtain ⟨ad, h0, h1, hw⟩ := hw
  subst h0
  subst hv
  subst hD
  refine t_w X hw (r_runSW X (c_w_fuelAgain l hstk G C ad n1 hI _) cw_fuelAgain ini_RL dd_fuelAgain hml ⟨hR.1, hR.2⟩ gP.blind (gP_call X hw _) rfl hsz rfl hW hdg ⟨hc, hs⟩) (fun H1 locs1 adD hK hw1 => ?_)
  exact kk H1 locs1 _ _ rfl rfl ⟨adD, hK.1, fun k hk => (hK.2 k hk).trans (h1 k hk), hw1⟩
theorem dd_slot : yL_slot.cls ≠ "java/lang/invoke/MethodHandle" ∧ yL_slot.cls ≠ "java/lang/invoke/VarHandle" ∧ (parseMethodDescriptor yL_slot.desc).map (fun d => d.parameters.length) = some 3 := ⟨by decide +kernel, by decide +kernel, by decide +kernel⟩
theorem t_slot (hstk : l.stackTraces = false) {C D : gCT} {v : Int32} (X : gX p s m args c cc RL nL G A) (hI : gInv C) (hw : tW G A s.heap H locs C a0 bb) {n1 n2 : Int32} (hv : wvs (m_slot C n1 n2) = v) (hD : wd C (m_slot C n1 n2) = D) (hml : Cond.methodLink RL idx yL_slot ∈ gwl) (hR : 9 ≤ R.frames ∧ 149 ≤ R.locals) (hsz : ls.size = nL) (hW : (rest.map fun v => v.category).sum ≤ 8) (hdg : decode cc pc = .ok (.invokestatic idx, 3)) (hc : cells + 2 ≤ R.cells) (hs : slots + 12 ≤ R.slots)
    (kk : ∀ (H1 : Heap) (locs1 : List Loc) (cells1 slots1 : Nat), cells1 = cells + 2 → slots1 = slots + 12 → tW G A s.heap H1 locs1 D a0 bb → W p l e R s m args below meth c H1 locs1 cells1 slots1 Q (F0 m (pc + 3) ls (.int v :: rest))) : W p l e R s m args below meth c H locs cells slots Q (F0 m pc ls (.int n2 :: .int n1 :: .ref a0 :: rest)) := by
  obtain ⟨ad, h0, h1, hw⟩ := hw
  subst h0
  subst hv
  subst hD
  refine t_w X hw (r_runSW X (c_w_slot l hstk G C ad n1 n2 hI _) cw_slot ini_RL dd_slot hml ⟨hR.1, hR.2⟩ gP.blind (gP_call X hw _) rfl hsz rfl hW hdg ⟨hc, hs⟩) (fun H1 locs1 adD hK hw1 => ?_)
  exact kk H1 locs1 _ _ rfl rfl ⟨adD, hK.1, fun k hk => (hK.2 k hk).trans (h1 k hk), hw1⟩
theorem dd_slotAgain : yL_slotAgain.cls ≠ "java/lang/invoke/MethodHandle" ∧ yL_slotAgain.cls ≠ "java/lang/invoke/VarHandle" ∧ (parseMethodDescriptor yL_slotAgain.desc).map (fun d => d.parameters.length) = some 3 := ⟨by decide +kernel, by decide +kernel, by decide +kernel⟩
theorem t_slotAgain (hstk : l.stackTraces = false) {C D : gCT} {v : Int32} (X : gX p s m args c cc RL nL G A) (hI : gInv C) (hw : tW G A s.heap H locs C a0 bb) {n1 n2 : Int32} (hv : wvs (m_slotAgain C n1 n2) = v) (hD : wd C (m_slotAgain C n1 n2) = D) (hml : Cond.methodLink RL idx yL_slotAgain ∈ gwl) (hR : 10 ≤ R.frames ∧ 227 ≤ R.locals) (hsz : ls.size = nL) (hW : (rest.map fun v => v.category).sum ≤ 8) (hdg : decode cc pc = .ok (.invokestatic idx, 3)) (hc : cells + 2 ≤ R.cells) (hs : slots + 12 ≤ R.slots)
    (kk : ∀ (H1 : Heap) (locs1 : List Loc) (cells1 slots1 : Nat), cells1 = cells + 2 → slots1 = slots + 12 → tW G A s.heap H1 locs1 D a0 bb → W p l e R s m args below meth c H1 locs1 cells1 slots1 Q (F0 m (pc + 3) ls (.int v :: rest))) : W p l e R s m args below meth c H locs cells slots Q (F0 m pc ls (.int n2 :: .int n1 :: .ref a0 :: rest)) := by
  obtain ⟨ad, h0, h1, hw⟩ := hw
  subst h0
  subst hv
  subst hD
  refine t_w X hw (r_runSW X (c_w_slotAgain l hstk G C ad n1 n2 hI _) cw_slotAgain ini_RL dd_slotAgain hml ⟨hR.1, hR.2⟩ gP.blind (gP_call X hw _) rfl hsz rfl hW hdg ⟨hc, hs⟩) (fun H1 locs1 adD hK hw1 => ?_)
  exact kk H1 locs1 _ _ rfl rfl ⟨adD, hK.1, fun k hk => (hK.2 k hk).trans (h1 k hk), hw1⟩
theorem dd_depth : yL_depth.cls ≠ "java/lang/invoke/MethodHandle" ∧ yL_depth.cls ≠ "java/lang/invoke/VarHandle" ∧ (parseMethodDescriptor yL_depth.desc).map (fun d => d.parameters.length) = some 2 := ⟨by decide +kernel, by decide +kernel, by decide +kernel⟩
theorem t_depth (hstk : l.stackTraces = false) {C D : gCT} {v : Int32} (X : gX p s m args c cc RL nL G A) (hI : gInv C) (hw : tW G A s.heap H locs C a0 bb) {n1 : Int32} (hv : wv (m_depth C n1) = v) (hD : wd C (m_depth C n1) = D) (hml : Cond.methodLink RL idx yL_depth ∈ gwl) (hR : 9 ≤ R.frames ∧ 146 ≤ R.locals) (hsz : ls.size = nL) (hW : (rest.map fun v => v.category).sum ≤ 8) (hdg : decode cc pc = .ok (.invokestatic idx, 3)) (hc : cells + 2 ≤ R.cells) (hs : slots + 12 ≤ R.slots)
    (kk : ∀ (H1 : Heap) (locs1 : List Loc) (cells1 slots1 : Nat), cells1 = cells + 2 → slots1 = slots + 12 → tW G A s.heap H1 locs1 D a0 bb → W p l e R s m args below meth c H1 locs1 cells1 slots1 Q (F0 m (pc + 3) ls (.int v :: rest))) : W p l e R s m args below meth c H locs cells slots Q (F0 m pc ls (.int n1 :: .ref a0 :: rest)) := by
  obtain ⟨ad, h0, h1, hw⟩ := hw
  subst h0
  subst hv
  subst hD
  refine t_w X hw (r_runSW X (c_w_depth l hstk G C ad n1 hI _) cw_depth ini_RL dd_depth hml ⟨hR.1, hR.2⟩ gP.blind (gP_call X hw _) rfl hsz rfl hW hdg ⟨hc, hs⟩) (fun H1 locs1 adD hK hw1 => ?_)
  exact kk H1 locs1 _ _ rfl rfl ⟨adD, hK.1, fun k hk => (hK.2 k hk).trans (h1 k hk), hw1⟩
theorem dd_answers : yL_answers.cls ≠ "java/lang/invoke/MethodHandle" ∧ yL_answers.cls ≠ "java/lang/invoke/VarHandle" ∧ (parseMethodDescriptor yL_answers.desc).map (fun d => d.parameters.length) = some 2 := ⟨by decide +kernel, by decide +kernel, by decide +kernel⟩
theorem t_answers (hstk : l.stackTraces = false) {C D : gCT} {v : Int32} (X : gX p s m args c cc RL nL G A) (hI : gInv C) (hw : tW G A s.heap H locs C a0 bb) {n1 : Int32} (hv : wv (m_answers C n1) = v) (hD : wd C (m_answers C n1) = D) (hml : Cond.methodLink RL idx yL_answers ∈ gwl) (hR : 9 ≤ R.frames ∧ 146 ≤ R.locals) (hsz : ls.size = nL) (hW : (rest.map fun v => v.category).sum ≤ 8) (hdg : decode cc pc = .ok (.invokestatic idx, 3)) (hc : cells + 2 ≤ R.cells) (hs : slots + 12 ≤ R.slots)
    (kk : ∀ (H1 : Heap) (locs1 : List Loc) (cells1 slots1 : Nat), cells1 = cells + 2 → slots1 = slots + 12 → tW G A s.heap H1 locs1 D a0 bb → W p l e R s m args below meth c H1 locs1 cells1 slots1 Q (F0 m (pc + 3) ls (.int v :: rest))) : W p l e R s m args below meth c H locs cells slots Q (F0 m pc ls (.int n1 :: .ref a0 :: rest)) := by
  obtain ⟨ad, h0, h1, hw⟩ := hw
  subst h0
  subst hv
  subst hD
  refine t_w X hw (r_runSW X (c_w_answers l hstk G C ad n1 hI _) cw_answers ini_RL dd_answers hml ⟨hR.1, hR.2⟩ gP.blind (gP_call X hw _) rfl hsz rfl hW hdg ⟨hc, hs⟩) (fun H1 locs1 adD hK hw1 => ?_)
  exact kk H1 locs1 _ _ rfl rfl ⟨adD, hK.1, fun k hk => (hK.2 k hk).trans (h1 k hk), hw1⟩
theorem dd_answerAt : yL_answerAt.cls ≠ "java/lang/invoke/MethodHandle" ∧ yL_answerAt.cls ≠ "java/lang/invoke/VarHandle" ∧ (parseMethodDescriptor yL_answerAt.desc).map (fun d => d.parameters.length) = some 3 := ⟨by decide +kernel, by decide +kernel, by decide +kernel⟩
theorem t_answerAt (hstk : l.stackTraces = false) {C D : gCT} {v : Int32} (X : gX p s m args c cc RL nL G A) (hI : gInv C) (hw : tW G A s.heap H locs C a0 bb) {n1 n2 : Int32} (hv : wv (m_answerAt C n1 n2) = v) (hD : wd C (m_answerAt C n1 n2) = D) (hml : Cond.methodLink RL idx yL_answerAt ∈ gwl) (hR : 9 ≤ R.frames ∧ 150 ≤ R.locals) (hsz : ls.size = nL) (hW : (rest.map fun v => v.category).sum ≤ 8) (hdg : decode cc pc = .ok (.invokestatic idx, 3)) (hc : cells + 2 ≤ R.cells) (hs : slots + 12 ≤ R.slots)
    (kk : ∀ (H1 : Heap) (locs1 : List Loc) (cells1 slots1 : Nat), cells1 = cells + 2 → slots1 = slots + 12 → tW G A s.heap H1 locs1 D a0 bb → W p l e R s m args below meth c H1 locs1 cells1 slots1 Q (F0 m (pc + 3) ls (.int v :: rest))) : W p l e R s m args below meth c H locs cells slots Q (F0 m pc ls (.int n2 :: .int n1 :: .ref a0 :: rest)) := by
  obtain ⟨ad, h0, h1, hw⟩ := hw
  subst h0
  subst hv
  subst hD
  refine t_w X hw (r_runSW X (c_w_answerAt l hstk G C ad n1 n2 hI _) cw_answerAt ini_RL dd_answerAt hml ⟨hR.1, hR.2⟩ gP.blind (gP_call X hw _) rfl hsz rfl hW hdg ⟨hc, hs⟩) (fun H1 locs1 adD hK hw1 => ?_)
  exact kk H1 locs1 _ _ rfl rfl ⟨adD, hK.1, fun k hk => (hK.2 k hk).trans (h1 k hk), hw1⟩
theorem dd_reward : yL_reward.cls ≠ "java/lang/invoke/MethodHandle" ∧ yL_reward.cls ≠ "java/lang/invoke/VarHandle" ∧ (parseMethodDescriptor yL_reward.desc).map (fun d => d.parameters.length) = some 2 := ⟨by decide +kernel, by decide +kernel, by decide +kernel⟩
theorem t_reward (hstk : l.stackTraces = false) {C D : gCT} {v : Int32} (X : gX p s m args c cc RL nL G A) (hI : gInv C) (hw : tW G A s.heap H locs C a0 bb) {n1 : Int32} (hv : wv (m_reward C n1) = v) (hD : wd C (m_reward C n1) = D) (hml : Cond.methodLink RL idx yL_reward ∈ gwl) (hR : 8 ≤ R.frames ∧ 125 ≤ R.locals) (hsz : ls.size = nL) (hW : (rest.map fun v => v.category).sum ≤ 8) (hdg : decode cc pc = .ok (.invokestatic idx, 3)) (hc : cells + 1 ≤ R.cells) (hs : slots + 6 ≤ R.slots)
    (kk : ∀ (H1 : Heap) (locs1 : List Loc) (cells1 slots1 : Nat), cells1 = cells + 1 → slots1 = slots + 6 → tW G A s.heap H1 locs1 D a0 bb → W p l e R s m args below meth c H1 locs1 cells1 slots1 Q (F0 m (pc + 3) ls (.int v :: rest))) : W p l e R s m args below meth c H locs cells slots Q (F0 m pc ls (.int n1 :: .ref a0 :: rest)) := by
  obtain ⟨ad, h0, h1, hw⟩ := hw
  subst h0
  subst hv
  subst hD
  refine t_w X hw (r_runSW X (c_w_reward l hstk G C ad n1 hI _) cw_reward ini_RL dd_reward hml ⟨hR.1, hR.2⟩ gP.blind (gP_call X hw _) rfl hsz rfl hW hdg ⟨hc, hs⟩) (fun H1 locs1 adD hK hw1 => ?_)
  exact kk H1 locs1 _ _ rfl rfl ⟨adD, hK.1, fun k hk => (hK.2 k hk).trans (h1 k hk), hw1⟩
theorem dd_budget : yL_budget.cls ≠ "java/lang/invoke/MethodHandle" ∧ yL_budget.cls ≠ "java/lang/invoke/VarHandle" ∧ (parseMethodDescriptor yL_budget.desc).map (fun d => d.parameters.length) = some 2 := ⟨by decide +kernel, by decide +kernel, by decide +kernel⟩
theorem t_budget (hstk : l.stackTraces = false) {C D : gCT} {v : Int32} (X : gX p s m args c cc RL nL G A) (hI : gInv C) (hw : tW G A s.heap H locs C a0 bb) {n1 : Int32} (hv : wv (m_budget C n1) = v) (hD : wd C (m_budget C n1) = D) (hml : Cond.methodLink RL idx yL_budget ∈ gwl) (hR : 9 ≤ R.frames ∧ 146 ≤ R.locals) (hsz : ls.size = nL) (hW : (rest.map fun v => v.category).sum ≤ 8) (hdg : decode cc pc = .ok (.invokestatic idx, 3)) (hc : cells + 2 ≤ R.cells) (hs : slots + 12 ≤ R.slots)
    (kk : ∀ (H1 : Heap) (locs1 : List Loc) (cells1 slots1 : Nat), cells1 = cells + 2 → slots1 = slots + 12 → tW G A s.heap H1 locs1 D a0 bb → W p l e R s m args below meth c H1 locs1 cells1 slots1 Q (F0 m (pc + 3) ls (.int v :: rest))) : W p l e R s m args below meth c H locs cells slots Q (F0 m pc ls (.int n1 :: .ref a0 :: rest)) := by
  obtain ⟨ad, h0, h1, hw⟩ := hw
  subst h0
  subst hv
  subst hD
  refine t_w X hw (r_runSW X (c_w_budget l hstk G C ad n1 hI _) cw_budget ini_RL dd_budget hml ⟨hR.1, hR.2⟩ gP.blind (gP_call X hw _) rfl hsz rfl hW hdg ⟨hc, hs⟩) (fun H1 locs1 adD hK hw1 => ?_)
  exact kk H1 locs1 _ _ rfl rfl ⟨adD, hK.1, fun k hk => (hK.2 k hk).trans (h1 k hk), hw1⟩
theorem dd_done : yL_done.cls ≠ "java/lang/invoke/MethodHandle" ∧ yL_done.cls ≠ "java/lang/invoke/VarHandle" ∧ (parseMethodDescriptor yL_done.desc).map (fun d => d.parameters.length) = some 3 := ⟨by decide +kernel, by decide +kernel, by decide +kernel⟩
theorem t_done (hstk : l.stackTraces = false) {C D : gCT} {v : Int32} (X : gX p s m args c cc RL nL G A) (hI : gInv C) (hw : tW G A s.heap H locs C a0 bb) {n1 n2 : Int32} (hv : wv (m_done C n1 n2) = v) (hD : wd C (m_done C n1 n2) = D) (hml : Cond.methodLink RL idx yL_done ∈ gwl) (hR : 9 ≤ R.frames ∧ 149 ≤ R.locals) (hsz : ls.size = nL) (hW : (rest.map fun v => v.category).sum ≤ 8) (hdg : decode cc pc = .ok (.invokestatic idx, 3)) (hc : cells + 2 ≤ R.cells) (hs : slots + 12 ≤ R.slots)
    (kk : ∀ (H1 : Heap) (locs1 : List Loc) (cells1 slots1 : Nat), cells1 = cells + 2 → slots1 = slots + 12 → tW G A s.heap H1 locs1 D a0 bb → W p l e R s m args below meth c H1 locs1 cells1 slots1 Q (F0 m (pc + 3) ls (.int v :: rest))) : W p l e R s m args below meth c H locs cells slots Q (F0 m pc ls (.int n2 :: .int n1 :: .ref a0 :: rest)) := by
  obtain ⟨ad, h0, h1, hw⟩ := hw
  subst h0
  subst hv
  subst hD
  refine t_w X hw (r_runSW X (c_w_done l hstk G C ad n1 n2 hI _) cw_done ini_RL dd_done hml ⟨hR.1, hR.2⟩ gP.blind (gP_call X hw _) rfl hsz rfl hW hdg ⟨hc, hs⟩) (fun H1 locs1 adD hK hw1 => ?_)
  exact kk H1 locs1 _ _ rfl rfl ⟨adD, hK.1, fun k hk => (hK.2 k hk).trans (h1 k hk), hw1⟩
end GT

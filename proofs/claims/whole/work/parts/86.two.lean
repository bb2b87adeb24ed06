/-! ===== the law: the tool's world and the reference's, side by side ===== -/
def gT2 (G : gG) (A : Nat → Prop) (H0 H : Heap) (locs : List Loc) (lvC : gLv) (adC : gAd) (conC : gCn) (lvM : gLv) (adM : gAd) (conM : gCn) : Prop := gV G A lvC adC conC H ∧ gV G A lvM adM conM H ∧ (∀ κ n κ' n', lvC κ n → lvM κ' n' → adC κ n ≠ adM κ' n') ∧ va_S A H0 H locs
section GT
variable {p : Program} {l : Launch} {e : Env} {R : Room} {s : State} {m : MethodId} {args : Array Value} {below : List Frame} {meth : Method} {c : Code} {H : Heap} {locs : List Loc} {cells slots : Nat} {Q : State → Prop}
variable {cc bytes : ByteArray} {own : String} {nL pc maxL n idx mc ms : Nat} {ls : Array Slot} {rest st0 As : List Value} {G : gG} {A : Nat → Prop} {lvC lvM : gLv} {adC adM : gAd} {conC conM : gCn} {y : MethodName} {ret : Option FieldType} {rm : Room} {a : Array Value}
theorem gT2.wc {H0 : Heap} (h : gT2 G A H0 H locs lvC adC conC lvM adM conM) : gW G A H0 H locs lvC adC conC := ⟨h.1, h.2.2.2⟩
theorem gT2.wm {H0 : Heap} (h : gT2 G A H0 H locs lvC adC conC lvM adM conM) : gW G A H0 H locs lvM adM conM := ⟨h.2.1, h.2.2.2⟩
theorem gT2.swap {H0 : Heap} (h : gT2 G A H0 H locs lvC adC conC lvM adM conM) : gT2 G A H0 H locs lvM adM conM lvC adC conC := ⟨h.2.1, h.1, fun κ n κ' n' h1 h2 e => h.2.2.1 κ' n' κ n h2 h1 e.symm, h.2.2.2⟩
/-- the one changes, the other stays -/
theorem gT2.upC {H0 H1 : Heap} {locs1 : List Loc} {lvD : gLv} {adD : gAd} {conD : gCn} (h : gT2 G A H0 H locs lvC adC conC lvM adM conM) (hA : ∀ q, gA lvC adC H.size q → A q) (hV : gV G (gA lvC adC H.size) lvD adD conD H1) (hk : ∀ q : Nat, q < H.size → ¬ gA lvC adC H.size q → H1[q]? = H[q]?) (hS : va_S A H0 H1 locs1) : gT2 G A H0 H1 locs1 lvD adD conD lvM adM conM := by
  obtain ⟨h1, h2, h3, h4⟩ := h
  refine ⟨hV.weaken (fun κ k hl => hA _ (hV.2.2 κ k hl)), h2.kept (fun κ k hl => hk _ (h2.lt hl) ?_), fun κ k κ' k' hl hl' => ?_, hS⟩
  · rintro (⟨κ', k', q1, q2⟩ | q)
    · exact h3 κ' k' κ k q1 hl q2.symm
    · exact absurd (h2.lt hl) (Nat.not_lt.mpr q)
  · rcases hV.2.2 κ k hl with ⟨κ1, k1, q1, q2⟩ | q
    · rw [q2]; exact h3 κ1 k1 κ' k' q1 hl'
    · intro e
      rw [e] at q
      exact absurd (h2.lt hl') (Nat.not_lt.mpr q)
theorem r_runSW (X : gX p s m args c cc own nL G A) {hh : List (Nat × Nat × Nat × Nat)} {Pc : Array Value → State → Prop} {Qc : Array Value → State → Outcome → State → Prop} {XC : String → State → State → Prop} {free : Addr → Prop} (hM : vx_Met l y (.codeWith y bytes maxL ret hh :: gwl) rm Pc Qc XC rm.cells rm.slots free) (hy : Cond.static y ∈ gwl ∧ Cond.codeWith y bytes maxL ret hh ∈ gwl) (hi : Cond.initialized y.cls ∈ gwl)
    (hd : y.cls ≠ "java/lang/invoke/MethodHandle" ∧ y.cls ≠ "java/lang/invoke/VarHandle" ∧ (parseMethodDescriptor y.desc).map (fun d => d.parameters.length) = some n) (hml : Cond.methodLink own idx y ∈ gwl) (hR : rm.frames + 1 ≤ R.frames ∧ 8 + (maxL + 11) + rm.locals ≤ R.locals) (hb : FrameBlind Pc) (hp : ∀ U : State, U.heap = H → s.WarmedH U.vm → Pc As.toArray U)
    (hn : As.length = n) (hsz : ls.size = nL) (hst : st0 = As.reverse ++ rest) (hW : (rest.map fun v => v.category).sum ≤ 8) (hdg : decode cc pc = .ok (.invokestatic idx, 3)) (hf : cells + rm.cells ≤ R.cells ∧ slots + rm.slots ≤ R.slots) :
    vx_Run p l e R s m args below meth c H locs cells slots rm.cells rm.slots (F0 m pc ls st0) rest (Qc As.toArray) XC free := by
  have hg : GoodIn gwl (.codeWith y bytes maxL ret hh :: gwl) := gwl_app (fun w hw => (List.mem_cons.mp hw).elim (fun e => by rw [e]; exact hy.2) id)
  refine vx_runSX (hh := hh) X.1 hM ⟨⟨rfl, rfl, hR.1, hR.2, pay_in X.1.2.2.2.2 hg, List.mem_cons_self⟩, X.1.2.2.2.2 _ hy.2, X.1.2.2.2.2 _ hi, ⟨hd.1, hd.2.1⟩, fun sig h => ?_, X.1.2.2.2.2 _ hml, X.1.2.2.2.2 _ hy.1⟩ ⟨hb, hp⟩ rfl hn hsz hst (lv_room hW) hdg hf
  have h3 := hd.2.2
  rw [h] at h3
  exact (Option.some.inj h3).symm
/-- a method of the law's own is called, with the tool -/
theorem t_w {C D : gCT} {k : Nat} (X : gX p s m args c cc own nL G A) (hw : gT2 G A s.heap H locs (gLvO C) adC (gF G C adC) lvM adM conM) (hr : vx_Run p l e R s m args below meth c H locs cells slots mc ms (F0 m pc ls st0) rest (gQi G (gA (gLvO C) adC H.size) (gYi G adC k D) a) (fun _ _ _ => False) (gA (gLvO C) adC H.size))
    (kk : ∀ (H1 : Heap) (locs1 : List Loc) (adD : gAd), gAdK adC adD → gT2 G A s.heap H1 locs1 (gLvO D) adD (gF G D adD) lvM adM conM → W p l e R s m args below meth c H1 locs1 (cells + mc) (slots + ms) Q (F0 m (pc + 3) ls (.int (nI k) :: rest))) : W p l e R s m args below meth c H locs cells slots Q (F0 m pc ls st0) := by
  intro T hT X1
  rcases hr T hT X1 with ⟨v, st₀, t, T', L, h0, X', hL, e1, e2, ⟨⟨v1, u, hv, ⟨hva, ad', hu, hK⟩, hB⟩, hF⟩, st⟩ | ⟨q, st₀, t, T', L, E, ce, h0, X', hL, e1, e2, hq, -⟩
  · cases hv
    subst hva
    subst hu
    obtain ⟨k1, k2, k3⟩ := vx_keep h0 e1 hw.2.2.2 (fun q _ h => gA_in X hw.wc q h) (gA_in X hw.wc) hL hF
    have hB : gV G (gA (gLvO C) adC H.size) (gLvO D) ad' (gF G D ad') T'.heap := by rw [e1]; exact hB
    obtain ⟨t2, a2, b2⟩ := kk T'.heap (locs ++ L) ad' hK (hw.upC (gA_in X hw.wc) hB k2 k3) T' rfl X'
    exact ⟨t2, st t2 a2, b2⟩
  · exact hq.elim
/-- the tool is called itself, and stays as it is -/
theorem t_c {r : Int32} (X : gX p s m args c cc own nL G A) (hw : gT2 G A s.heap H locs lvC adC conC lvM adM conM) (hr : va_Run p l e R s m args below meth c H locs cells slots mc ms (F0 m pc ls st0) rest (gQi G (gA lvC adC H.size) (gE r lvC adC conC) a) (gA lvC adC H.size))
    (kk : ∀ (H1 : Heap) (locs1 : List Loc), gT2 G A s.heap H1 locs1 lvC adC conC lvM adM conM → W p l e R s m args below meth c H1 locs1 (cells + mc) (slots + ms) Q (F0 m (pc + 3) ls (.int r :: rest))) : W p l e R s m args below meth c H locs cells slots Q (F0 m pc ls st0) :=
  va_calli hr hw.2.2.2 (fun q _ h => gA_in X hw.wc q h) (gA_in X hw.wc) (fun v u t H1 locs1 e1 _ hp hB _ hk hS => by
    obtain ⟨rfl, rfl⟩ := hp
    have hB : gV G (gA lvC adC H.size) lvC adC conC H1 := by rw [← e1]; exact hB
    exact kk H1 locs1 (hw.upC (gA_in X hw.wc) hB hk hS))
/-- the reference is called -/
theorem t_q {f : Int32 × gCT} (X : gX p s m args c cc own nL G A) (hw : gT2 G A s.heap H locs lvC adC conC lvM adM conM) (hr : va_Run p l e R s m args below meth c H locs cells slots mc ms (F0 m pc ls st0) rest (gQi G (gA lvM adM H.size) (gRi G lvM adM MBI f) a) (gA lvM adM H.size))
    (kk : ∀ (H1 : Heap) (locs1 : List Loc), MBI f.2 → gT2 G A s.heap H1 locs1 lvC adC conC lvM adM (gF G f.2 adM) → W p l e R s m args below meth c H1 locs1 (cells + mc) (slots + ms) Q (F0 m (pc + 3) ls (.int f.1 :: rest))) : W p l e R s m args below meth c H locs cells slots Q (F0 m pc ls st0) :=
  va_calli hr hw.2.2.2 (fun q _ h => gA_in X hw.wm q h) (gA_in X hw.wm) (fun v u t H1 locs1 e1 _ hp hB _ hk hS => by
    obtain ⟨⟨rfl, rfl⟩, hb⟩ := hp
    have hB : gV G (gA lvM adM H.size) lvM adM (gF G f.2 adM) H1 := by rw [← e1]; exact hB
    exact kk H1 locs1 hb (hw.swap.upC (gA_in X hw.wm) hB hk hS).swap)
theorem t_qv {f : gCT} (X : gX p s m args c cc own nL G A) (hw : gT2 G A s.heap H locs lvC adC conC lvM adM conM) (hr : va_Run p l e R s m args below meth c H locs cells slots mc ms (F0 m pc ls st0) rest (gQv G (gA lvM adM H.size) (gRv G lvM adM MBI f) a) (gA lvM adM H.size))
    (kk : ∀ (H1 : Heap) (locs1 : List Loc), MBI f → gT2 G A s.heap H1 locs1 lvC adC conC lvM adM (gF G f adM) → W p l e R s m args below meth c H1 locs1 (cells + mc) (slots + ms) Q (F0 m (pc + 3) ls rest)) : W p l e R s m args below meth c H locs cells slots Q (F0 m pc ls st0) :=
  va_callv hr hw.2.2.2 (fun q _ h => gA_in X hw.wm q h) (gA_in X hw.wm) (fun u t H1 locs1 e1 _ hp hB _ hk hS => by
    obtain ⟨hu, hb⟩ := hp
    have hu : u = (lvM, adM, gF G f adM) := hu
    subst hu
    have hB : gV G (gA lvM adM H.size) lvM adM (gF G f adM) H1 := by rw [← e1]; exact hB
    exact kk H1 locs1 hb (hw.swap.upC (gA_in X hw.wm) hB hk hS).swap)
/-- the reference's constructor -/
theorem t_qn {post : gSt → Prop} (X : gX p s m args c cc own nL G A) (hw : gT2 G A s.heap H locs lvC adC conC lvM adM conM) (hr : va_Run p l e R s m args below meth c H locs cells slots mc ms (F0 m pc ls st0) rest (gQv G (gA lvM adM H.size) post a) (gA lvM adM H.size))
    (kk : ∀ (u : gSt) (H1 : Heap) (locs1 : List Loc), post u → gT2 G A s.heap H1 locs1 lvC adC conC u.1 u.2.1 u.2.2 → W p l e R s m args below meth c H1 locs1 (cells + mc) (slots + ms) Q (F0 m (pc + 3) ls rest)) : W p l e R s m args below meth c H locs cells slots Q (F0 m pc ls st0) :=
  va_callv hr hw.2.2.2 (fun q _ h => gA_in X hw.wm q h) (gA_in X hw.wm) (fun u t H1 locs1 e1 _ hp hB _ hk hS => by
    have hB : gV G (gA lvM adM H.size) u.1 u.2.1 u.2.2 H1 := by rw [← e1]; exact hB
    exact kk u H1 locs1 hp (hw.swap.upC (gA_in X hw.wm) hB hk hS).swap)
end GT

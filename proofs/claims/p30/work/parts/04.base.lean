/-! ===== words that stay good, all of the tables' ===== -/
def gwl : List Cond := lw_tbl.filter goodWord
theorem gwl_of {w : Cond} (h : w ∈ lw_tbl) (g : goodWord w = true) : w ∈ gwl := List.mem_filter.mpr ⟨h, g⟩
theorem gwl_at {w : Cond} (i : Nat) (h : tables_1[i]? = some w) (g : goodWord w = true) : w ∈ gwl := gwl_of (List.mem_append_right _ (List.mem_of_getElem? h)) g
theorem gwl_sel {y : MethodName} (i : Nat) (h : (lw_privs[i]?).map Prod.fst = some y) : Cond.selects y.cls y y ∈ gwl := by
  obtain ⟨q, hq, rfl⟩ := Option.map_eq_some_iff.mp h
  exact gwl_of (List.mem_append_left _ (List.mem_map.mpr ⟨q, List.mem_of_getElem? hq, rfl⟩)) rfl
theorem gwl_good : GoodIn gwl gwl := fun w h => ⟨h, good_of_word (List.mem_filter.mp h).2⟩
theorem gwl_app {ws : List Cond} (h : ∀ w ∈ ws, w ∈ gwl) : GoodIn gwl ws := fun w hw => ⟨h w hw, good_of_word (List.mem_filter.mp (h w hw)).2⟩
/-! ===== words that stay good though the kit's list doesn't say so ===== -/
def gNest : List (String × Nat × MethodName × String) := [(RX5, 34, yX3_init, RX5), (RX2, 11, yX1_init, RX5), (RX4, 11, yX3_init, RX5), (RX2, 35, yX5_at, RX5), (RX3, 76, yX5_isWithin, RX5), (RX3, 62, yX5_at, RX5), (RX3, 97, yX5_addTo, RX5), (RX4, 73, yX5_at, RX5)]
def gCast : List (String × String) := [("java/lang/IndexOutOfBoundsException", "java/lang/IndexOutOfBoundsException"), ("java/lang/IllegalArgumentException", "java/lang/IllegalArgumentException"), ("java/lang/IllegalStateException", "java/lang/IllegalStateException"), ("AskMachine$Run", "java/lang/Object"), ("AskMachine$Answer", "java/lang/Object")]
def gDecl : List MethodName := [⟨"java/lang/RuntimeException", "<init>", "()V"⟩, ⟨"java/lang/RuntimeException", "<init>", "(Ljava/lang/String;)V"⟩, ⟨"java/lang/Exception", "<init>", "()V"⟩, ⟨"java/lang/Exception", "<init>", "(Ljava/lang/String;)V"⟩, ⟨"java/lang/Throwable", "<init>", "()V"⟩, ⟨"java/lang/Throwable", "<init>", "(Ljava/lang/String;)V"⟩, ⟨"java/lang/Object", "getClass", "()Ljava/lang/Class;"⟩]
def gNot : List (String × String) := [("java/lang/IllegalArgumentException", "java/lang/IndexOutOfBoundsException"), ("java/lang/IllegalStateException", "java/lang/IndexOutOfBoundsException"), ("java/lang/IllegalStateException", "java/lang/IllegalArgumentException")]
def gN (U : State) : Prop := (∀ q ∈ gNest, va_Nw (.methodLinkNest q.1 q.2.1 q.2.2.1 q.2.2.2) U) ∧ (∀ q ∈ gCast, va_Nw (.castable q.1 q.2) U) ∧ (∀ q ∈ gDecl, va_Nw (.declares q) U) ∧ (∀ q ∈ gNot, va_Nc q.1 q.2 U) ∧ va_AO "AskMachine$Form" U ∧ va_AO "java/lang/Object" U
theorem gN.warm {s U : State} (hW : s.WarmedH U.vm) (h : gN s) : gN U := ⟨fun q hq => va_Nw.warmM hW (h.1 q hq), fun q hq => va_Nw.warmC hW (h.2.1 q hq), fun q hq => va_Nw.warmD hW (h.2.2.1 q hq), fun q hq => va_Nc.moved hW.alike (h.2.2.2.1 q hq), va_AO.moved hW.alike h.2.2.2.2.1, va_AO.moved hW.alike h.2.2.2.2.2⟩
theorem gN.same {s U : State} (hW : U.vm = s.vm) (h : gN s) : gN U := ⟨fun q hq => va_Nw.same rfl hW.symm (h.1 q hq), fun q hq => va_Nw.same rfl hW.symm (h.2.1 q hq), fun q hq => va_Nw.same rfl hW.symm (h.2.2.1 q hq), fun q hq => va_Nc.moved (by rw [hW]; exact Vm.Alike.refl _) (h.2.2.2.1 q hq), va_AO.moved (by rw [hW]; exact Vm.Alike.refl _) h.2.2.2.2.1, va_AO.moved (by rw [hW]; exact Vm.Alike.refl _) h.2.2.2.2.2⟩
/-! ===== the classes, and what never changes ===== -/
abbrev gG : Type := va_G × ClassId × ClassId × ClassId × ClassId × (Nat → Nat)
def gT (G : gG) : List (ClassId × FieldType) := [(G.2.1, .int), (G.2.2.1, .int), (G.2.2.2.1, .object "AskMachine$Form"), (G.2.2.2.2.1, .object "java/lang/Object")]
def gLeast (i : Nat) : Int32 := if i = 1 then -99 else 0
def gMost (i : Nat) : Int32 := match i with
  | 0 => 15
  | 1 => 99
  | 2 => 7
  | 3 => 7
  | 8 => 24
  | 9 => 24
  | 10 => 500
  | _ => 0
def gStr : List (String × Nat × String) := [(RX5, 238, "no such form"), (RX5, 50, "no such instruction"), (RX5, 65, "argument out of range"), (RX5, 79, "the draft is full"), (RX5, 93, "an empty draft, or no more versions"), (RX5, 102, "fuel out of range"), (RX5, 108, "cents out of range"), (RX5, 115, "no such panel"), (RX5, 118, "quota out of range"), (RX5, 123, "no such question"), (RX5, 125, "price out of range"), (RX5, 127, "no such respondent"), (RX5, 136, "no version, a run already, or no more runs"), (RX5, 240, "no such run"), (RX5, 158, "value out of range"), (RX5, 166, "the run does not ask"), (RX5, 178, "the budget is less than the price"), (RX5, 194, "the run is not saved"), (RX5, 200, "the run has ended"), (RX5, 209, "no such slot"), (RX5, 217, "no such answer")]
def gR (U : State) : Prop := ∀ q ∈ gStr, ∃ a, vk_R q.1 q.2.1 q.2.2 a U
def gS (G : gG) (A : Nat → Prop) (U : State) (H : Heap) : Prop :=
  (va_Z RX5 "LEAST_ARGUMENT" "[I" (.ref (G.2.2.2.2.2 0)) A U H ∧ va_T .int (G.2.2.2.2.2 0) 13 (fun i => .int (gLeast i)) A U H) ∧
  (va_Z RX5 "MOST_ARGUMENT" "[I" (.ref (G.2.2.2.2.2 1)) A U H ∧ va_T .int (G.2.2.2.2.2 1) 13 (fun i => .int (gMost i)) A U H) ∧
  ((va_Z RJx4a65c "DEFAULTCAPACITY_EMPTY_ELEMENTDATA" "[Ljava/lang/Object;" (.ref (G.2.2.2.2.2 2)) A U H ∧ va_T (.object "java/lang/Object") (G.2.2.2.2.2 2) 0 (fun _ => .null) A U H) ∧ va_Mi "[Ljava/lang/Object;" (G.2.2.2.2.2 3) U) ∧
  (vx_Zq Bundle.tN "UNASSIGNED_STACK" Bundle.steD A U H ∧ vx_Zq Bundle.tN "SUPPRESSED_SENTINEL" Bundle.listD A U H) ∧ gR U
theorem gR.warm {s U : State} (hW : s.WarmedH U.vm) (h : gR s) : gR U := fun q hq => by
  obtain ⟨a, ha⟩ := h q hq
  exact ⟨a, vk_R.warm hW ha⟩
theorem gR.same {s U : State} (hW : U.vm = s.vm) (h : gR s) : gR U := fun q hq => by
  obtain ⟨a, ha⟩ := h q hq
  exact ⟨a, vk_R.same hW ha⟩
theorem gS.warm {G : gG} {A : Nat → Prop} {s U : State} {H : Heap} (hW : s.WarmedH U.vm) (h : gS G A s H) : gS G A U H :=
  ⟨⟨va_Z.moved hW.alike h.1.1, va_T.moved hW.alike h.1.2⟩, ⟨va_Z.moved hW.alike h.2.1.1, va_T.moved hW.alike h.2.1.2⟩, ⟨⟨va_Z.moved hW.alike h.2.2.1.1.1, va_T.moved hW.alike h.2.2.1.1.2⟩, va_Mi.moved hW.alike h.2.2.1.2⟩, ⟨vx_Zq.moved hW.alike h.2.2.2.1.1, vx_Zq.moved hW.alike h.2.2.2.1.2⟩, h.2.2.2.2.warm hW⟩
theorem gS.kept {G : gG} {A : Nat → Prop} {U : State} {H H1 : Heap} (h : gS G A U H) (hq : ∀ a : Nat, a < H.size → ¬ A a → H1[a]? = H[a]?) : gS G A U H1 :=
  ⟨⟨h.1.1.kept hq, h.1.2.kept hq⟩, ⟨h.2.1.1.kept hq, h.2.1.2.kept hq⟩, ⟨⟨h.2.2.1.1.1.kept hq, h.2.2.1.1.2.kept hq⟩, h.2.2.1.2⟩, ⟨h.2.2.2.1.1.kept hq, h.2.2.2.1.2.kept hq⟩, h.2.2.2.2⟩
theorem gS.narrow {G : gG} {A B : Nat → Prop} {U : State} {H : Heap} (h : gS G A U H) (hAB : ∀ q, B q → A q) : gS G B U H :=
  ⟨⟨h.1.1.narrow hAB, h.1.2.narrow hAB⟩, ⟨h.2.1.1.narrow hAB, h.2.1.2.narrow hAB⟩, ⟨⟨h.2.2.1.1.1.narrow hAB, h.2.2.1.1.2.narrow hAB⟩, h.2.2.1.2⟩, ⟨h.2.2.2.1.1.narrow hAB, h.2.2.2.1.2.narrow hAB⟩, h.2.2.2.2⟩
/-! ===== worlds: cells by a kind and a number ===== -/
abbrev gLv : Type := Nat → Nat → Prop
abbrev gAd : Type := Nat → Nat → Nat
abbrev gCn : Type := Nat → Nat → va_E
def g2 {α : Type} (f : Nat → Nat → α) (κ n : Nat) (x : α) : Nat → Nat → α := fun a b => if a = κ ∧ b = n then x else f a b
theorem g2_s {α : Type} (f : Nat → Nat → α) (κ n : Nat) (x : α) : g2 f κ n x κ n = x := by simp [g2]
theorem g2_n {α : Type} (f : Nat → Nat → α) {κ n a b : Nat} (x : α) (h : ¬ (a = κ ∧ b = n)) : g2 f κ n x a b = f a b := by simp only [g2, if_neg h]
def gV (G : gG) (A : Nat → Prop) (lv : gLv) (ad : gAd) (con : gCn) (H : Heap) : Prop :=
  (∀ κ n, lv κ n → va_at G.1 vwCl (ad κ n, con κ n) H) ∧ (∀ κ n κ' n', lv κ n → lv κ' n' → ad κ n = ad κ' n' → κ = κ' ∧ n = n') ∧ ∀ κ n, lv κ n → A (ad κ n)
/-- the world as it is now, and what was left as it was since the method began -/
def gW (G : gG) (A : Nat → Prop) (H0 H : Heap) (locs : List Loc) (lv : gLv) (ad : gAd) (con : gCn) : Prop := gV G A lv ad con H ∧ va_S A H0 H locs
def gA (lv : gLv) (ad : gAd) (sz : Nat) : Nat → Prop := fun q => (∃ κ n, lv κ n ∧ q = ad κ n) ∨ sz ≤ q
theorem gV.weaken {G : gG} {A B : Nat → Prop} {lv : gLv} {ad : gAd} {con : gCn} {H : Heap} (h : gV G A lv ad con H) (hB : ∀ κ n, lv κ n → B (ad κ n)) : gV G B lv ad con H := ⟨h.1, h.2.1, hB⟩
theorem gV.self {G : gG} {A : Nat → Prop} {lv : gLv} {ad : gAd} {con : gCn} {H : Heap} (h : gV G A lv ad con H) (sz : Nat) : gV G (gA lv ad sz) lv ad con H := h.weaken (fun κ n hl => Or.inl ⟨κ, n, hl, rfl⟩)
theorem gV.lt {G : gG} {A : Nat → Prop} {lv : gLv} {ad : gAd} {con : gCn} {H : Heap} (h : gV G A lv ad con H) {κ n : Nat} (hl : lv κ n) : ad κ n < H.size := (h.1 κ n hl).lt
theorem gV.one {G : gG} {A : Nat → Prop} {lv : gLv} {ad : gAd} {con : gCn} {H : Heap} (h : gV G A lv ad con H) {κ n : Nat} (hl : lv κ n) {e : va_E} (he : con κ n = e) : va_P G.1 vwCl [(ad κ n, e)] H := by
  intro k q hk
  have hz : k < 1 := (List.getElem?_eq_some_iff.mp hk).1
  rw [show k = 0 by omega] at hk
  cases hk
  rw [← he]
  exact h.1 κ n hl
/-- one cell is written anew -/
theorem gV.set {G : gG} {A : Nat → Prop} {lv : gLv} {ad : gAd} {con : gCn} {H H1 : Heap} (h : gV G A lv ad con H) {κ n : Nat} (hl : lv κ n) {e : va_E} (he : va_at G.1 vwCl (ad κ n, e) H1) (oq : ∀ q : Nat, q ≠ ad κ n → H1[q]? = H[q]?) : gV G A lv ad (g2 con κ n e) H1 := by
  refine ⟨fun a b hab => ?_, h.2.1, h.2.2⟩
  by_cases hc : a = κ ∧ b = n
  · obtain ⟨rfl, rfl⟩ := hc
    rw [g2_s]
    exact he
  · rw [g2_n con e hc]
    exact (h.1 a b hab).kept (oq _ (fun z => hc (h.2.1 a b κ n hab hl z)))
/-- one cell is new -/
theorem gV.push {G : gG} {A : Nat → Prop} {lv : gLv} {ad : gAd} {con : gCn} {H H1 : Heap} (h : gV G A lv ad con H) {κ n : Nat} (hl : ¬ lv κ n) {e : va_E} {q0 : Nat} (hq : H.size ≤ q0) (he : va_at G.1 vwCl (q0, e) H1) (oq : ∀ q : Nat, q < H.size → H1[q]? = H[q]?) (hA : A q0) : gV G A (g2 lv κ n True) (g2 ad κ n q0) (g2 con κ n e) H1 := by
  have key : ∀ a b, g2 lv κ n True a b → (a = κ ∧ b = n) ∨ (¬ (a = κ ∧ b = n) ∧ lv a b) := by
    intro a b hab
    by_cases hc : a = κ ∧ b = n
    · exact Or.inl hc
    · exact Or.inr ⟨hc, by rwa [g2_n lv True hc] at hab⟩
  refine ⟨fun a b hab => ?_, fun a b a' b' hab hab' hz => ?_, fun a b hab => ?_⟩
  · rcases key a b hab with ⟨e1, e2⟩ | ⟨hc, h1⟩
    · rw [e1, e2, g2_s, g2_s]; exact he
    · rw [g2_n ad q0 hc, g2_n con e hc]
      exact (h.1 a b h1).kept (oq _ (h.lt h1))
  · rcases key a b hab with ⟨e1, e2⟩ | ⟨hc, h1⟩ <;> rcases key a' b' hab' with ⟨e3, e4⟩ | ⟨hc', h2⟩
    · exact ⟨e1.trans e3.symm, e2.trans e4.symm⟩
    · rw [e1, e2, g2_s, g2_n ad q0 hc'] at hz
      have := h.lt h2
      omega
    · rw [e3, e4, g2_s, g2_n ad q0 hc] at hz
      have := h.lt h1
      omega
    · rw [g2_n ad q0 hc, g2_n ad q0 hc'] at hz
      exact h.2.1 a b a' b' h1 h2 hz
  · rcases key a b hab with ⟨e1, e2⟩ | ⟨hc, h1⟩
    · rw [e1, e2, g2_s]; exact hA
    · rw [g2_n ad q0 hc]; exact h.2.2 a b h1
/-- the cells that were there stay, if only others were written -/
theorem gV.kept {G : gG} {A : Nat → Prop} {lv : gLv} {ad : gAd} {con : gCn} {H H1 : Heap} (h : gV G A lv ad con H) (hq : ∀ κ n, lv κ n → H1[ad κ n]? = H[ad κ n]?) : gV G A lv ad con H1 := ⟨fun κ n hl => (h.1 κ n hl).kept (hq κ n hl), h.2.1, h.2.2⟩
/-- the same world, told otherwise -/
theorem gV.cong {G : gG} {A : Nat → Prop} {lv : gLv} {ad : gAd} {con con' : gCn} {H : Heap} (h : gV G A lv ad con H) (hc : ∀ κ n, lv κ n → con κ n = con' κ n) : gV G A lv ad con' H := ⟨fun κ n hl => by rw [← hc κ n hl]; exact h.1 κ n hl, h.2.1, h.2.2⟩
theorem gW.cong {G : gG} {A : Nat → Prop} {H0 H : Heap} {locs : List Loc} {lv : gLv} {ad : gAd} {con con' : gCn} (h : gW G A H0 H locs lv ad con) (hc : ∀ κ n, lv κ n → con κ n = con' κ n) : gW G A H0 H locs lv ad con' := ⟨h.1.cong hc, h.2⟩
/-! ===== a class, by its place in vwCl ===== -/
def gcl (ci : Nat) (C : String) (T : u_T) (N : Nat) (ty : Nat → FieldType) : Prop :=
  vwCl[ci]? = some (C, T, N) ∧ (∀ w ∈ u_ws C T N, w ∈ gwl) ∧ (∀ k, k < N → parseFieldDescriptor (T k).2.2.1 = some (ty k)) ∧ (∀ a, a < N → ∀ b, b < N → a ≠ b → (T a).2.1 ≠ (T b).2.1)
theorem gcl_in {C : String} {T : u_T} {N : Nat} (h : (u_ws C T N).all (fun w => decide (w ∈ lw_tbl) && goodWord w) = true) : ∀ w ∈ u_ws C T N, w ∈ gwl := fun w hw => by
  have h1 := List.all_eq_true.mp h w hw
  simp only [Bool.and_eq_true, decide_eq_true_eq] at h1
  exact gwl_of h1.1 h1.2
set_option maxRecDepth 20000 in
theorem k_J : gcl 0 RJx4a65c TJx4a65c 3 tyJx4a65c := ⟨rfl, gcl_in (by decide +kernel), tyJx4a65c_ok, nmJx4a65c⟩
set_option maxRecDepth 20000 in
theorem k_X0 : gcl 1 RX0 TX0 3 tyX0 := ⟨rfl, gcl_in (by decide +kernel), tyX0_ok, nmX0⟩
set_option maxRecDepth 20000 in
theorem k_X1 : gcl 2 RX1 TX1 3 tyX1 := ⟨rfl, gcl_in (by decide +kernel), tyX1_ok, nmX1⟩
set_option maxRecDepth 20000 in
theorem k_X2 : gcl 3 RX2 TX2 7 tyX2 := ⟨rfl, gcl_in (by decide +kernel), tyX2_ok, nmX2⟩
set_option maxRecDepth 20000 in
theorem k_X3 : gcl 4 RX3 TX3 11 tyX3 := ⟨rfl, gcl_in (by decide +kernel), tyX3_ok, nmX3⟩
set_option maxRecDepth 20000 in
theorem k_X4 : gcl 5 RX4 TX4 11 tyX4 := ⟨rfl, gcl_in (by decide +kernel), tyX4_ok, nmX4⟩
set_option maxRecDepth 20000 in
theorem k_X5 : gcl 6 RX5 TX5 7 tyX5 := ⟨rfl, gcl_in (by decide +kernel), tyX5_ok, nmX5⟩
set_option maxRecDepth 20000 in
/-! ===== what holds in a method's body ===== -/
def gX (p : Program) (s : State) (m : MethodId) (args : Array Value) (c : Code) (cc : ByteArray) (own : String) (nL : Nat) (G : gG) (A : Nat → Prop) : Prop :=
  (p.tables.exec = Jvm.exec ∧ c.code = cc ∧ c.maxLocals = nL ∧ s.vm.findClass own = some m.cls ∧ ∀ w ∈ gwl, w.before args s = true) ∧ va_K G.1 vwCl (gT G) s ∧ gN s ∧ gS G A s s.heap ∧ ∀ q, s.heap.size ≤ q → A q
section GR
variable {p : Program} {l : Launch} {e : Env} {R : Room} {s : State} {m : MethodId} {args : Array Value} {below : List Frame} {meth : Method} {c : Code} {H : Heap} {locs : List Loc} {cells slots : Nat} {Q : State → Prop}
variable {cc : ByteArray} {own : String} {nL pc : Nat} {ls : Array Slot} {rest : List Value} {G : gG} {A : Nat → Prop} {lv : gLv} {ad : gAd} {con : gCn}
theorem r_get (X : gX p s m args c cc own nL G A) (hw : gW G A s.heap H locs lv ad con) (κ n k : Nat) (hl : lv κ n) {ci idx N : Nat} {C : String} {T : u_T} {ty : Nat → FieldType} {fs : List Value} {v : Value} (he : con κ n = .inr (ci, fs)) (hv : fs[k]? = some v) (hc : gcl ci C T N ty) (hk : k < N)
    (hlink : Cond.fieldLink own idx (T k).1 (T k).2.1 (T k).2.2.1 ∈ gwl) (hdg : decode cc pc = .ok (.getfield idx, 3))
    (kk : W p l e R s m args below meth c H locs cells slots Q (F0 m (pc + 3) ls (v :: rest))) : W p l e R s m args below meth c H locs cells slots Q (F0 m pc ls (.ref (ad κ n) :: rest)) :=
  va_get (Ts := gwl) X.1.1 X.1.2.1 X.1.2.2.2.2 hc.2.1 X.1.2.2.2.1 X.2.1 (hw.1.one hl he) 0 rfl hc.1 k hk (X.1.2.2.2.2 _ hlink) (fun _ h => h) hv hdg kk
theorem r_put (X : gX p s m args c cc own nL G A) (hw : gW G A s.heap H locs lv ad con) (κ n k : Nat) (hl : lv κ n) {ci idx N : Nat} {C : String} {T : u_T} {ty : Nat → FieldType} {fs fs' : List Value} {v : Value} (he : con κ n = .inr (ci, fs)) (hv : fs.set k v = fs') (hc : gcl ci C T N ty) (hk : k < N) (hlen : k < fs.length)
    (hlink : Cond.fieldLink own idx (T k).1 (T k).2.1 (T k).2.2.1 ∈ gwl) (hfin : (T k).2.2.2 = false) (hn : narrow (ty k) v = v) (hfit : fits (ty k) v = true) (hdg : decode cc pc = .ok (.putfield idx, 3))
    (kk : ∀ (H : Heap) (locs : List Loc), gW G A s.heap H locs lv ad (g2 con κ n (.inr (ci, fs'))) → W p l e R s m args below meth c H locs cells slots Q (F0 m (pc + 3) ls rest)) : W p l e R s m args below meth c H locs cells slots Q (F0 m pc ls (v :: .ref (ad κ n) :: rest)) := by
  subst hv
  have hts := X.1.2.2.2.2
  have hap := va_apart (own := own) hts hc.2.1 ty hc.2.2.1 hc.2.2.2 X.2.1 hc.1
  obtain ⟨r, h1, cell, q1, q2, q3, q4⟩ := (hw.1.one hl he) 0 _ rfl
  have hr : r = (C, T, N) := Option.some.inj (h1.symm.trans hc.1)
  subst hr
  obtain ⟨hS, hfc, kC, hkC, hkind⟩ := X.2.1.1 ci _ hc.1
  obtain ⟨cf, kf, fi, f, hi, hsl⟩ := hS k hk
  have hlay := hts _ (hc.2.1 _ (u_in_lay hk))
  unfold u_lay at hlay
  rw [if_neg (by rw [hfin]; decide)] at hlay
  have hst := (u_facts hfc hkC (u_lays hts hc.2.1 hk) hi).1
  have h6 := u_store hfc hkC hkind hlay hi (hc.2.2.1 k hk) hn hfit
  refine W.putK X.1.1 X.1.2.1 (f := f) ⟨X.1.2.2.2.1, hts _ hlink, ⟨_, _, _, hi⟩, hst⟩ (by rw [q2]; exact h6) q1 q3 (by rw [hsl]; exact k2_hasslot (q4 k hk)) rfl rfl hdg fun H' e1 e2 e3 => ?_
  rw [hsl] at e1 ⊢
  exact kk H' _ ⟨hw.1.set hl ⟨_, hc.1, t_OB.to (V := updV (vp_V fs) k v) ⟨_, e1, q2, q3, t_set q4 hap hk v⟩ (fun j _ => vp_updV_set hlen v j)⟩ e3, hw.2.put e2 e3 (hw.1.2.2 κ n hl)⟩
theorem r_putF (X : gX p s m args c cc own nL G A) (hin2 : meth.name = "<init>") (hw : gW G A s.heap H locs lv ad con) (κ n k : Nat) (hl : lv κ n) {ci idx N : Nat} {C : String} {T : u_T} {ty : Nat → FieldType} {fs fs' : List Value} {v : Value} (he : con κ n = .inr (ci, fs)) (hv : fs.set k v = fs') (hc : gcl ci C T N ty) (hk : k < N) (hlen : k < fs.length)
    (hlink : Cond.fieldLink own idx (T k).1 (T k).2.1 (T k).2.2.1 ∈ gwl) (hfin : (T k).2.2.2 = true) (hdecl : (T k).1 = own) (hn : narrow (ty k) v = v) (hfit : fits (ty k) v = true) (hdg : decode cc pc = .ok (.putfield idx, 3))
    (kk : ∀ (H : Heap) (locs : List Loc), gW G A s.heap H locs lv ad (g2 con κ n (.inr (ci, fs'))) → W p l e R s m args below meth c H locs cells slots Q (F0 m (pc + 3) ls rest)) : W p l e R s m args below meth c H locs cells slots Q (F0 m pc ls (v :: .ref (ad κ n) :: rest)) := by
  subst hv
  have hts := X.1.2.2.2.2
  have hap := va_apart (own := own) hts hc.2.1 ty hc.2.2.1 hc.2.2.2 X.2.1 hc.1
  obtain ⟨r, h1, cell, q1, q2, q3, q4⟩ := (hw.1.one hl he) 0 _ rfl
  have hr : r = (C, T, N) := Option.some.inj (h1.symm.trans hc.1)
  subst hr
  obtain ⟨hS, hfc, kC, hkC, hkind⟩ := X.2.1.1 ci _ hc.1
  obtain ⟨cf, kf, fi, f, hi, hsl⟩ := hS k hk
  have hlay := hts _ (hc.2.1 _ (u_in_lay hk))
  unfold u_lay at hlay
  rw [if_pos hfin] at hlay
  have hst := (u_facts hfc hkC (u_lays hts hc.2.1 hk) hi).1
  have hcf : m.cls = cf := by
    obtain ⟨_, _, c', _, _, _, -, -, hf', -, -, -, hown2, -⟩ := Cond.laysFinal_spec hlay
    have e1 : c' = cf := by have := hi.symm.trans hf'; simp at this; exact this.1.symm
    rw [hdecl] at hown2
    rw [← e1]; exact Option.some.inj (X.1.2.2.2.1.symm.trans hown2)
  have h6 := u_fits hfc hkC hkind (Or.inr hlay) hi (hc.2.2.1 k hk) hn hfit
  refine W.putFinK X.1.1 X.1.2.1 X.1.2.2.2.1 (hts _ hlink) hi hst hcf hin2 (by rw [q2]; exact h6) q1 q3 (by rw [hsl]; exact k2_hasslot (q4 k hk)) rfl rfl hdg fun H' e1 e2 e3 => ?_
  rw [hsl] at e1 ⊢
  exact kk H' _ ⟨hw.1.set hl ⟨_, hc.1, t_OB.to (V := updV (vp_V fs) k v) ⟨_, e1, q2, q3, t_set q4 hap hk v⟩ (fun j _ => vp_updV_set hlen v j)⟩ e3, hw.2.put e2 e3 (hw.1.2.2 κ n hl)⟩
theorem r_iald (X : gX p s m args c cc own nL G A) (hw : gW G A s.heap H locs lv ad con) (κ n : Nat) (hl : lv κ n) {N : Nat} {f : Nat → Int32} (he : con κ n = .inl (G.2.1, N, .inl f)) {i : Int32} (hin : vp_in i N) (hdg : decode cc pc = .ok (.iaload, 1))
    (kk : W p l e R s m args below meth c H locs cells slots Q (F0 m (pc + 1) ls (.int (f i.toNatClampNeg) :: rest))) : W p l e R s m args below meth c H locs cells slots Q (F0 m pc ls (.int i :: .ref (ad κ n) :: rest)) :=
  va_iald X.1.1 X.1.2.1 X.2.1 (hw.1.one hl he) 0 0 rfl rfl hin hdg kk
theorem r_ialen (X : gX p s m args c cc own nL G A) (hw : gW G A s.heap H locs lv ad con) (κ n : Nat) (hl : lv κ n) {N : Nat} {f : Nat → Int32} (he : con κ n = .inl (G.2.1, N, .inl f)) {v : Int32} (hv : Int32.ofNat N = v) (hdg : decode cc pc = .ok (.arraylength, 1))
    (kk : W p l e R s m args below meth c H locs cells slots Q (F0 m (pc + 1) ls (.int v :: rest))) : W p l e R s m args below meth c H locs cells slots Q (F0 m pc ls (.ref (ad κ n) :: rest)) :=
  va_alen X.1.1 X.1.2.1 X.2.1 (hw.1.one hl he) 0 0 rfl rfl hv hdg kk
theorem r_qalen (X : gX p s m args c cc own nL G A) (hw : gW G A s.heap H locs lv ad con) (κ n : Nat) (hl : lv κ n) {N : Nat} {f : Nat → Option Nat} (he : con κ n = .inl (G.2.2.2.2.1, N, .inr (.inr (.inr (.inr f))))) {v : Int32} (hv : Int32.ofNat N = v) (hdg : decode cc pc = .ok (.arraylength, 1))
    (kk : W p l e R s m args below meth c H locs cells slots Q (F0 m (pc + 1) ls (.int v :: rest))) : W p l e R s m args below meth c H locs cells slots Q (F0 m pc ls (.ref (ad κ n) :: rest)) :=
  va_alen X.1.1 X.1.2.1 X.2.1 (hw.1.one hl he) 0 3 rfl rfl hv hdg kk
theorem r_qald (X : gX p s m args c cc own nL G A) (hw : gW G A s.heap H locs lv ad con) (κ n : Nat) (hl : lv κ n) {N : Nat} {f : Nat → Option Nat} (he : con κ n = .inl (G.2.2.2.2.1, N, .inr (.inr (.inr (.inr f))))) {i : Int32} (hin : vp_in i N) {v : Value} (hv : va_rf (f i.toNatClampNeg) = v) (hdg : decode cc pc = .ok (.aaload, 1))
    (kk : W p l e R s m args below meth c H locs cells slots Q (F0 m (pc + 1) ls (v :: rest))) : W p l e R s m args below meth c H locs cells slots Q (F0 m pc ls (.int i :: .ref (ad κ n) :: rest)) := by
  subst hv
  exact va_aldq X.1.1 X.1.2.1 X.2.1 (hw.1.one hl he) 0 3 rfl rfl hin hdg kk
theorem r_fald (X : gX p s m args c cc own nL G A) (hw : gW G A s.heap H locs lv ad con) (κ n : Nat) (hl : lv κ n) {N : Nat} {f : Nat → Option Nat} (he : con κ n = .inl (G.2.2.2.1, N, .inr (.inr (.inr (.inr f))))) {i : Int32} (hin : vp_in i N) {v : Value} (hv : va_rf (f i.toNatClampNeg) = v) (hdg : decode cc pc = .ok (.aaload, 1))
    (kk : W p l e R s m args below meth c H locs cells slots Q (F0 m (pc + 1) ls (v :: rest))) : W p l e R s m args below meth c H locs cells slots Q (F0 m pc ls (.int i :: .ref (ad κ n) :: rest)) := by
  subst hv
  exact va_aldq X.1.1 X.1.2.1 X.2.1 (hw.1.one hl he) 0 2 rfl rfl hin hdg kk
theorem r_iast (X : gX p s m args c cc own nL G A) (hw : gW G A s.heap H locs lv ad con) (κ n : Nat) (hl : lv κ n) {N : Nat} {f : Nat → Int32} (he : con κ n = .inl (G.2.1, N, .inl f)) {i x : Int32} (hin : vp_in i N) (hdg : decode cc pc = .ok (.iastore, 1))
    (kk : ∀ (H : Heap) (locs : List Loc), gW G A s.heap H locs lv ad (g2 con κ n (.inl (G.2.1, N, .inl (upd f i.toNatClampNeg x)))) → W p l e R s m args below meth c H locs cells slots Q (F0 m (pc + 1) ls rest)) : W p l e R s m args below meth c H locs cells slots Q (F0 m pc ls (.int x :: .int i :: .ref (ad κ n) :: rest)) := by
  refine W.iast X.1.1 X.1.2.1 (hw.1.one hl he 0 _ rfl) ((X.2.1.2 0 _ rfl).1 N (fun j => .int (f j))) (fun q => by cases q) (by show ¬ (i < 0 ∨ (arrV _ _ _).slots.size ≤ _); rw [arrV_size]; exact hin) rfl rfl hdg fun H1 e z oq => ?_
  refine kk H1 _ ⟨hw.1.set hl ?_ oq, hw.2.put z oq (hw.1.2.2 κ n hl)⟩
  show H1[ad κ n]? = some (vp_cell _ _)
  rw [e]
  show some ((vp_cell _ _).setSlot _ _) = _
  rw [vp_cell_i, vp_cell_i, arrV_store]
  congr 2
  funext q
  by_cases hq : q = i.toNatClampNeg
  · subst hq
    simp [updV, upd]
  · simp [updV, upd, hq]
/-- a new object of a class -/
theorem r_new (X : gX p s m args c cc own nL G A) (hw : gW G A s.heap H locs lv ad con) (κ n : Nat) (hl : ¬ lv κ n) {ci idx N : Nat} {C : String} {T : u_T} {ty : Nat → FieldType} {fs : List Value} (hc : gcl ci C T N ty) (hfs : ∀ j, j < N → defaultValue (ty j) = vp_V fs j)
    (h1 : Cond.classLink own idx C ∈ gwl) (h2 : Cond.instantiable C N ∈ gwl) (h3 : Cond.initialized C ∈ gwl) (hcells : cells + 1 ≤ R.cells) (hslots : slots + N ≤ R.slots) (hdg : decode cc pc = .ok (.new idx, 3))
    (kk : ∀ (q : Nat) (H1 : Heap), s.heap.size ≤ q → gW G A s.heap H1 locs (g2 lv κ n True) (g2 ad κ n q) (g2 con κ n (.inr (ci, fs))) → W p l e R s m args below meth c H1 locs (cells + 1) (slots + N) Q (F0 m (pc + 3) ls (.ref q :: rest))) : W p l e R s m args below meth c H locs cells slots Q (F0 m pc ls rest) := by
  have hts := X.1.2.2.2.2
  have hKn := X.2.1.1 ci _ hc.1
  refine W.newcK X.1.1 X.1.2.1 X.1.2.2.2.1 (hts _ h1) (hts _ h2) (hts _ h3) rfl hdg hcells hslots hKn.2.1 rfl fun H1 kC hkC e1 z1 o1 => ?_
  have hb : s.heap.size ≤ H.size := hw.2.1
  refine kk H.size H1 hb ⟨hw.1.push hl (Nat.le_refl _) ?_ o1 (X.2.2.2.2 _ hb), Nat.le_trans hb (by omega), fun x h1 h2 => (o1 x (Nat.lt_of_lt_of_le h1 hb)).trans (hw.2.2.1 x h1 h2), hw.2.2.2⟩
  exact ⟨_, hc.1, (u_born ty hts hc.2.1 hKn hkC e1 hc.2.2.1).to hfs⟩
/-- a new array of ints -/
theorem r_newi (X : gX p s m args c cc own nL G A) (hw : gW G A s.heap H locs lv ad con) (κ n : Nat) (hl : ¬ lv κ n) {z : Int32} {N : Nat} (hn : ¬ z < 0) (hN : z.toNatClampNeg = N) (hbytes : N * 4 ≤ 536870912)
    (h1 : Cond.arrayClass .int ∈ gwl) (hcells : cells + 1 ≤ R.cells) (hslots : slots + N ≤ R.slots) (hdg : decode cc pc = .ok (.newarray .int, 2))
    (kk : ∀ (q : Nat) (H1 : Heap), s.heap.size ≤ q → gW G A s.heap H1 locs (g2 lv κ n True) (g2 ad κ n q) (g2 con κ n (.inl (G.2.1, N, .inl (fun _ => 0)))) → W p l e R s m args below meth c H1 locs (cells + 1) (slots + N) Q (F0 m (pc + 2) ls (.ref q :: rest))) : W p l e R s m args below meth c H locs cells slots Q (F0 m pc ls (.int z :: rest)) := by
  refine va_newaK (atype := .int) X.1.1 X.1.2.1 (X.1.2.2.2.2 _ h1) rfl hdg rfl hn hN hbytes hcells hslots rfl fun H1 cA e1 z1 o1 hAr hNm => ?_
  have hb : s.heap.size ≤ H.size := hw.2.1
  have hcA : cA = G.2.1 := Option.some.inj (hNm.symm.trans (X.2.1.2 0 _ rfl).2)
  subst hcA
  refine kk H.size H1 hb ⟨hw.1.push hl (Nat.le_refl _) ?_ o1 (X.2.2.2.2 _ hb), Nat.le_trans hb (by omega), fun x h1 h2 => (o1 x (Nat.lt_of_lt_of_le h1 hb)).trans (hw.2.2.1 x h1 h2), hw.2.2.2⟩
  exact e1
end GR

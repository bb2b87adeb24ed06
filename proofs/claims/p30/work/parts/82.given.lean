/-! ===== what the Statement gives ===== -/
theorem P_gN {s : State} {args : Array Value} (hts : ∀ w ∈ lw_tbl, w.before args s = true) (hgv : (Jvm.Cond.and given_1 narrow_1).before args s = true) : gN s := by
  have h1 : ∀ q ∈ gNest, Cond.methodLinkNest q.1 q.2.1 q.2.2.1 q.2.2.2 ∈ lw_tbl := by decide +kernel
  have h2 : ∀ q ∈ gCast, Cond.castable q.1 q.2 ∈ lw_tbl := by decide +kernel
  have h3 : ∀ q ∈ gDecl, Cond.declares q ∈ lw_tbl := by decide +kernel
  have h4 : ∀ q ∈ gNot, (Cond.not (Cond.castable q.1 q.2)).before args s = true := by
    have hs := flat_of_before _ hgv
    intro q hq
    simp only [gNot, List.mem_cons, List.not_mem_nil, or_false] at hq
    rcases hq with rfl | rfl | rfl
    · exact hs _ (by decide +kernel)
    · exact hs _ (by decide +kernel)
    · exact hs _ (by decide +kernel)
  have h5 : Cond.arrayOver (.object "AskMachine$Form") ∈ lw_tbl := by decide +kernel
  have h6 : Cond.arrayOver (.object "java/lang/Object") ∈ lw_tbl := by decide +kernel
  exact ⟨fun q hq => va_Nw.of rfl (hts _ (h1 q hq)), fun q hq => va_Nw.of rfl (hts _ (h2 q hq)), fun q hq => va_Nw.of rfl (hts _ (h3 q hq)), fun q hq => va_Nc.of (h4 q hq), va_AO.of (hts _ h5), va_AO.of (hts _ h6)⟩
theorem P_gR {s : State} {args : Array Value} (hts : ∀ w ∈ lw_tbl, w.before args s = true) {cur : Nat} (hcur : s.vm.findClass RX5 = some cur) : gR s := by
  have h1 : ∀ q ∈ gStr, Cond.stringRef q.1 q.2.1 q.2.2 ∈ lw_tbl := by decide +kernel
  have h2 : ∀ q ∈ gStr, q.1 = RX5 := by decide
  intro q hq
  have hb := hts _ (h1 q hq)
  obtain ⟨k, cf, i, a, -, -, -, -, -, ha⟩ := Cond.stringRef_spec (args := args) (first := s) (o := none) (idx := []) (by rw [h2 q hq]; exact hcur) hb
  exact ⟨a, vk_R.of hb ha⟩

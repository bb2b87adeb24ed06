/-! ===== begin, on both sides ===== -/
def hbL (M : gCT) (x y : Int32) : Nat → Nat → Int32
  | _, 0 => 0
  | i, m + 1 => if M 21 15 i = x then (if M 21 16 i = y then 1 else hbL M x y (i + 1) m) else hbL M x y (i + 1) m
theorem hbL_01 (M : gCT) (x y : Int32) : ∀ m i, hbL M x y i m = 0 ∨ hbL M x y i m = 1 := by
  intro m
  induction m with
  | zero => intro i; exact Or.inl rfl
  | succ m ih =>
    intro i
    show (if M 21 15 i = x then (if M 21 16 i = y then 1 else hbL M x y (i + 1) m) else hbL M x y (i + 1) m) = 0 ∨ (if M 21 15 i = x then (if M 21 16 i = y then 1 else hbL M x y (i + 1) m) else hbL M x y (i + 1) m) = 1
    split
    · split
      · exact Or.inr rfl
      · exact ih _
    · exact ih _
theorem m_hasBegun_at {C M : gCT} {rc : Nat} (hc : C 2 24 1 = nI rc) (hrc : rc ≤ 24) {x : Int32} {f : Nat} (hf : f < 4) (hR : ∀ j, j < rc → C 11 j 0 = M 21 15 j ∧ ∃ g, g < 4 ∧ C 11 j 6 = nI g ∧ M 21 16 j = nI g) : ∀ (m n0 i : Nat), i + m = rc → m < n0 → (m_hasBegun_L n0 C x f (nI i)).1 = hbL M x (nI f) i m := by
  intro m
  induction m with
  | zero =>
    intro n0 i hi hn
    obtain ⟨n', rfl⟩ : ∃ k, n0 = k + 1 := ⟨n0 - 1, by omega⟩
    unfold m_hasBegun_L
    dsimp only
    rw [hc, if_pos ((nat_le rfl rfl (by omega) (by omega)).mpr (by omega))]
    rfl
  | succ m ih =>
    intro n0 i hi hn
    obtain ⟨n', rfl⟩ : ∃ k, n0 = k + 1 := ⟨n0 - 1, by omega⟩
    obtain ⟨r1, g, r2, r3, r4⟩ := hR i (by omega)
    have eL : hbL M x (nI f) i (m + 1) = if M 21 15 i = x then (if M 21 16 i = nI f then 1 else hbL M x (nI f) (i + 1) m) else hbL M x (nI f) (i + 1) m := rfl
    rw [eL]
    unfold m_hasBegun_L
    dsimp only
    rw [hc, if_neg (fun z => absurd ((nat_le rfl rfl (by omega) (by omega)).mp z) (by omega)), nI_clamp (by omega), nI_1, r1, r3, r4, nI_clamp (n := g) (by omega)]
    have k := ih n' (i + 1) (by omega) (by omega)
    by_cases c1 : M 21 15 i = x
    · rw [if_pos c1, if_pos c1]
      by_cases c2 : g = f
      · rw [if_pos c2, if_pos (by rw [c2])]
      · rw [if_neg c2, if_neg (fun z => c2 ((nI_eq (by omega) (by omega)).mp z))]; exact k
    · rw [if_neg c1, if_neg c1]; exact k
theorem q_begin_L_end {M : gCT} {rc : Nat} (hc : M 20 0 1 = nI rc) (hrc : rc ≤ 24) (n0 : Nat) (x y ar hs : Int32) : q_begin_L (n0 + 1) M x y ar hs rc = q_begin_L 1 M x y ar hs rc := by
  have h : M 20 0 1 ≤ nI rc := by rw [hc]; exact (nat_le rfl rfl (by omega) (by omega)).mpr (Nat.le_refl _)
  unfold q_begin_L
  dsimp only
  rw [if_pos h, if_pos h]
theorem q_begin_L_one {M : gCT} {rc : Nat} (hc : M 20 0 1 = nI rc) (hrc : rc ≤ 24) (x y ar : Int32) : ∀ (m n0 k : Nat), k + m = rc → m < n0 → q_begin_L n0 M x y ar 1 k = q_begin_L 1 M x y ar 1 rc := by
  intro m
  induction m with
  | zero =>
    intro n0 k hk hn
    obtain ⟨n', rfl⟩ : ∃ k, n0 = k + 1 := ⟨n0 - 1, by omega⟩
    rw [show k = rc by omega]
    exact q_begin_L_end hc hrc n' x y ar 1
  | succ m ih =>
    intro n0 k hk hn
    obtain ⟨n', rfl⟩ : ∃ k, n0 = k + 1 := ⟨n0 - 1, by omega⟩
    have h : ¬ M 20 0 1 ≤ nI k := by rw [hc]; exact fun z => absurd ((nat_le rfl rfl (by omega) (by omega)).mp z) (by omega)
    rw [← ih n' (k + 1) (by omega) (by omega)]
    conv => lhs; unfold q_begin_L
    dsimp only
    rw [if_neg h, if_neg one_ne]
theorem q_begin_L_at {M : gCT} {rc : Nat} (hc : M 20 0 1 = nI rc) (hrc : rc ≤ 24) (x y ar : Int32) : ∀ (m n0 k : Nat), k + m = rc → m < n0 → q_begin_L n0 M x y ar 0 k = q_begin_L 1 M x y ar (hbL M x y k m) rc := by
  intro m
  induction m with
  | zero =>
    intro n0 k hk hn
    obtain ⟨n', rfl⟩ : ∃ k, n0 = k + 1 := ⟨n0 - 1, by omega⟩
    rw [show k = rc by omega]
    exact q_begin_L_end hc hrc n' x y ar 0
  | succ m ih =>
    intro n0 k hk hn
    obtain ⟨n', rfl⟩ : ∃ k, n0 = k + 1 := ⟨n0 - 1, by omega⟩
    have h : ¬ M 20 0 1 ≤ nI k := by rw [hc]; exact fun z => absurd ((nat_le rfl rfl (by omega) (by omega)).mp z) (by omega)
    have eL : hbL M x y k (m + 1) = if M 21 15 k = x then (if M 21 16 k = y then 1 else hbL M x y (k + 1) m) else hbL M x y (k + 1) m := rfl
    have i0 := ih n' (k + 1) (by omega) (by omega)
    have i1 := q_begin_L_one hc hrc x y ar m n' (k + 1) (by omega) (by omega)
    rw [eL]
    conv => lhs; unfold q_begin_L
    dsimp only
    rw [if_neg h, if_pos rfl]
    by_cases c1 : M 21 15 k = x
    · rw [if_pos c1, if_pos c1]
      by_cases c2 : M 21 16 k = y
      · rw [if_pos c2, if_pos c2]; exact i1
      · rw [if_neg c2, if_neg c2]; exact i0
    · rw [if_neg c1, if_neg c1]; exact i0
theorem rLf_none {M : gCT} {r a : Nat} (hr : r < 24) (h : ∀ k, k < a → ∃ s : Nat, s < r ∧ M 21 30 k = nI s) : ∀ (m k : Nat), k + m ≤ a → rLf M r k m = [] := by
  intro m
  induction m with
  | zero => intro k _; rfl
  | succ m ih =>
    intro k hk
    have eL : rLf M r k (m + 1) = if M 21 30 k = nI r then rT M k :: rLf M r (k + 1) m else rLf M r (k + 1) m := rfl
    obtain ⟨s, s1, s2⟩ := h k (by omega)
    rw [eL, if_neg (by rw [s2]; exact fun z => absurd ((nI_eq (by omega) (by omega)).mp z) (by omega))]
    exact ih (k + 1) (by omega)
theorem rem4 {p : Nat} (hp : p < 16) : (nI p : Int32) - nI p / 4 * 4 = nI (p % 4) := by
  have : ∀ p : Nat, p < 16 → (nI p : Int32) - nI p / 4 * 4 = nI (p % 4) := by decide
  exact this p hp
theorem s_begin {n : Nat} (hn : n < 512) {C M : gCT} (hI : gInv C) (hB : MBI M) (h : sRel n C M) (x y : Int32) : sOk n C (w_two (m_begin C x y).1) (w_out C (m_begin C x y)) (q_begin M x y) := by
  have hrc := hI.1
  have h24 := hI.cnt (n := 24) (Or.inr rfl)
  have eC1 : C 2 24 1 = nI (gRc C) := h24.1
  have eM1 : M 20 0 1 = nI (gRc C) := h.rc.symm.trans eC1
  have hend : ∀ (ar hs : Int32), q_begin_L 1 M x y ar hs (gRc C) = if (if q_thr ar (if ar = 0 then 0 else if M 21 6 y.toNatClampNeg ≤ 0 then 0 else if hs = 0 then (if 24 ≤ M 20 0 1 then 0 else 1) else 0) 1 = 0 then (1 : Int32) else 0) = 0 then (0, cs M 20 0 3 (q_thr ar (if ar = 0 then 0 else if M 21 6 y.toNatClampNeg ≤ 0 then 0 else if hs = 0 then (if 24 ≤ M 20 0 1 then 0 else 1) else 0) 1)) else (q_starts (cs (cs (cs (cs (cs M 20 0 3 (q_thr ar (if ar = 0 then 0 else if M 21 6 y.toNatClampNeg ≤ 0 then 0 else if hs = 0 then (if 24 ≤ M 20 0 1 then 0 else 1) else 0) 1)) 21 15 (M 20 0 1).toNatClampNeg x) 21 16 (M 20 0 1).toNatClampNeg y) 21 25 (M 20 0 1).toNatClampNeg (-1)) 20 0 1 (M 20 0 1 + 1)) ((M 20 0 1).toNatClampNeg + 1 - 1) 20 0 1 - 1, q_starts (cs (cs (cs (cs (cs M 20 0 3 (q_thr ar (if ar = 0 then 0 else if M 21 6 y.toNatClampNeg ≤ 0 then 0 else if hs = 0 then (if 24 ≤ M 20 0 1 then 0 else 1) else 0) 1)) 21 15 (M 20 0 1).toNatClampNeg x) 21 16 (M 20 0 1).toNatClampNeg y) 21 25 (M 20 0 1).toNatClampNeg (-1)) 20 0 1 (M 20 0 1 + 1)) ((M 20 0 1).toNatClampNeg + 1 - 1)) := by
    intro ar hs
    have hle : M 20 0 1 ≤ nI (gRc C) := by rw [eM1]; exact (nat_le rfl rfl (by omega) (by omega)).mpr (Nat.le_refl _)
    unfold q_begin_L
    dsimp only
    rw [if_pos hle]
  unfold m_begin q_begin
  dsimp only
  rw [isB16, q_begin_L_at eM1 hrc x y _ (gRc C) 25 0 (by omega) (by omega), hend]
  by_cases c : q_isBelow x 16 = 0
  · rw [if_pos c, if_pos c, thr1 _ _ rfl, goes_no one_ne]
    exact sOk_no' 1 1 (by decide) (by decide) h
  obtain ⟨hxe, hx⟩ := q_isBelow_of (N := 16) rfl (by decide) c
  rw [if_neg c, if_neg c]
  by_cases cy : q_isBelow y 4 = 0
  · rw [formNo cy, if_neg n1_ne, if_pos cy, thr1 _ _ rfl, goes_no one_ne]
    exact sOk_no' 1 1 (by decide) (by decide) h
  obtain ⟨hye, hy⟩ := q_isBelow_of (N := 4) rfl (by decide) cy
  rw [formYes cy, if_pos rfl, if_neg cy, if_neg one_ne]
  generalize hfy : y.toNatClampNeg = f at *
  generalize hpx : x.toNatClampNeg = p at *
  have hvn := hI.vn hy
  have hF := h.2.1 f hy
  have m6 : M 21 6 f = nI (gVn C f) := hF.1.1.symm.trans hvn.2.1
  have hz := h
  obtain ⟨⟨a, k1, k2, k3, k4⟩, k5, k6, k7, k8, k9⟩ := hz
  rw [m6, hvn.2.1]
  by_cases cv : gVn C f = 0
  · rw [cv, if_pos (show nI 0 = 0 from rfl), if_pos (show nI 0 ≤ 0 by decide), thr2 _ one_ne rfl, goes_no (by decide)]
    exact sOk_no' 3 2 (by decide) (by decide) h
  rw [if_neg (nI_ne0 (by omega) (by omega)), if_neg (show ¬ nI (gVn C f) ≤ 0 from fun z => cv (by have := (nat_le (show nI (gVn C f) = nI (gVn C f) from rfl) (show (0 : Int32) = nI 0 from rfl) (by omega) (by decide)).mp z; omega))]
  have hR : ∀ j, j < gRc C → C 11 j 0 = M 21 15 j ∧ ∃ g, g < 4 ∧ C 11 j 6 = nI g ∧ M 21 16 j = nI g := by
    intro j hj
    obtain ⟨⟨g, v, g1, g2, g3, -⟩, ⟨q, -, q2, q3, -⟩, -⟩ := k4 j hj
    exact ⟨q2.trans q3.symm, g, g1, g2, g3⟩
  have eH : (m_hasBegun C x f).1 = hbL M x y 0 (gRc C) := by
    rw [hye]
    exact m_hasBegun_at eC1 hrc hy hR (gRc C) 25 0 (by omega) (by omega)
  rw [eH]
  rcases hbL_01 M x y (gRc C) 0 with e | e
  rotate_left
  · rw [e, if_neg one_ne, if_neg one_ne, thr2 _ one_ne rfl, goes_no (by decide)]
    exact sOk_no' 3 2 (by decide) (by decide) h
  rw [e, if_pos rfl, if_pos rfl, eC1, eM1]
  by_cases c24 : gRc C < 24
  rotate_left
  · rw [if_neg (fun q => c24 ((nat_lt rfl (show (24 : Int32) = nI 24 from rfl) (by omega) (by decide)).mp q)), if_pos ((nat_le (show (24 : Int32) = nI 24 from rfl) rfl (by decide) (by omega)).mpr (by omega)), thr2 _ one_ne rfl, goes_no (by decide)]
    exact sOk_no' 3 2 (by decide) (by decide) h
  rw [if_pos ((nat_lt rfl (show (24 : Int32) = nI 24 from rfl) (by omega) (by decide)).mpr c24), if_neg (fun q => absurd ((nat_le (show (24 : Int32) = nI 24 from rfl) rfl (by decide) (by omega)).mp q) (by omega)), thr0 one_ne one_ne one_ne, goes_yes, nI_clamp (by omega), Nat.add_sub_cancel, nI_1]
  generalize hrr : gRc C = r at *
  have e21 : ∀ k j, k ≠ 15 → k ≠ 16 → k ≠ 25 → cs (cs (cs (cs (cs M 20 0 3 0) 21 15 r x) 21 16 r y) 21 25 r (-1)) 20 0 1 (nI (r + 1)) 21 k j = M 21 k j := fun k j h1 h2 h3 => by
    rw [cs_rd, if_neg (by omega), cs_rd, if_neg (by omega), cs_rd, if_neg (by omega), cs_rd, if_neg (by omega), cs_rd, if_neg (by omega)]
  have e21f : ∀ k, k ≠ 15 → k ≠ 16 → k ≠ 25 → cs (cs (cs (cs (cs M 20 0 3 0) 21 15 r x) 21 16 r y) 21 25 r (-1)) 20 0 1 (nI (r + 1)) 21 k = M 21 k := fun k h1 h2 h3 => funext fun j => e21 k j h1 h2 h3
  have e21n : ∀ k j, j ≠ r → cs (cs (cs (cs (cs M 20 0 3 0) 21 15 r x) 21 16 r y) 21 25 r (-1)) 20 0 1 (nI (r + 1)) 21 k j = M 21 k j := fun k j h1 => by
    rw [cs_rd, if_neg (by omega), cs_rd, if_neg (by omega), cs_rd, if_neg (by omega), cs_rd, if_neg (by omega), cs_rd, if_neg (by omega)]
  have e15 : cs (cs (cs (cs (cs M 20 0 3 0) 21 15 r x) 21 16 r y) 21 25 r (-1)) 20 0 1 (nI (r + 1)) 21 15 r = x := by
    rw [cs_rd, if_neg (by omega), cs_rd, if_neg (by omega), cs_rd, if_neg (by omega), cs_s]
  have e16 : cs (cs (cs (cs (cs M 20 0 3 0) 21 15 r x) 21 16 r y) 21 25 r (-1)) 20 0 1 (nI (r + 1)) 21 16 r = y := by
    rw [cs_rd, if_neg (by omega), cs_rd, if_neg (by omega), cs_s]
  have e200 : cs (cs (cs (cs (cs M 20 0 3 0) 21 15 r x) 21 16 r y) 21 25 r (-1)) 20 0 1 (nI (r + 1)) 20 0 0 = M 20 0 0 := by
    rw [cs_rd, if_neg (by omega), cs_rd, if_neg (by omega), cs_rd, if_neg (by omega), cs_rd, if_neg (by omega), cs_rd, if_neg (by omega)]
  have e201 : cs (cs (cs (cs (cs M 20 0 3 0) 21 15 r x) 21 16 r y) 21 25 r (-1)) 20 0 1 (nI (r + 1)) 20 0 1 = nI (r + 1) := cs_s _ _ _ _ _
  have e202 : cs (cs (cs (cs (cs M 20 0 3 0) 21 15 r x) 21 16 r y) 21 25 r (-1)) 20 0 1 (nI (r + 1)) 20 0 2 = M 20 0 2 := by
    rw [cs_rd, if_neg (by omega), cs_rd, if_neg (by omega), cs_rd, if_neg (by omega), cs_rd, if_neg (by omega), cs_rd, if_neg (by omega)]
  have e203 : cs (cs (cs (cs (cs M 20 0 3 0) 21 15 r x) 21 16 r y) 21 25 r (-1)) 20 0 1 (nI (r + 1)) 20 0 3 = 0 := by
    rw [cs_rd, if_neg (by omega), cs_rd, if_neg (by omega), cs_rd, if_neg (by omega), cs_rd, if_neg (by omega), cs_s]
  have bN : MBI (cs (cs (cs (cs (cs M 20 0 3 0) 21 15 r x) 21 16 r y) 21 25 r (-1)) 20 0 1 (nI (r + 1))) :=
    ((((hB.set0 (by decide)).set (k := 15) rfl (fun _ => ⟨p, hx, hxe⟩)).set (k := 16) rfl (fun _ => ⟨f, hy, hye⟩)).set (k := 25) rfl (fun z => absurd rfl z)).setR ⟨r + 1, by omega, rfl⟩
  generalize cs (cs (cs (cs (cs M 20 0 3 0) 21 15 r x) 21 16 r y) 21 25 r (-1)) 20 0 1 (nI (r + 1)) = N at *
  have cI := m_begun_inv x (f := f) hI (by rw [hrr]; exact c24) hy
  have crc := m_begun_rc C x f (by rw [hrr]; exact c24)
  have cvn := m_begun_vn C x f
  have ccn : ∀ s, s ≠ 24 → gCnt (m_begun C x f) s = if s = r then 0 else gCnt C s := fun s hs => by
    rw [m_begun_cnt C x f (by rw [hrr]; exact c24) s hs, hrr]
  have cnn : ∀ κ s, s ≠ r → s ≠ 24 → m_begun C x f κ s = C κ s := fun κ s h1 h2 => m_begun_n C x f κ (by rw [hrr]; exact h1) h2
  have ckk : ∀ κ s, κ ≠ 3 → κ ≠ 11 → κ ≠ 7 → κ ≠ 8 → κ ≠ 9 → κ ≠ 10 → κ ≠ 12 → κ ≠ 2 → m_begun C x f κ s = C κ s := fun κ s h3 h11 h7 h8 h9 h10 h12 h2 => m_begun_k C x f s h3 h11 h7 h8 h9 h10 h12 h2
  have c11 : m_begun C x f 11 r = fun j => if j = 0 then x else if j = 1 then x - x / 4 * 4 else if j = 6 then nI f else if j = 7 then nI (8 * f + gVn C f) else 0 := by
    have := m_begun_new C x f (by rw [hrr]; exact c24) (κ := 11) (by decide)
    rw [hrr] at this
    rw [this]
    unfold m_newRun
    rw [hrr, if_pos rfl]
    rfl
  have c241 : m_begun C x f 2 24 1 = nI (r + 1) := by
    have := (m_begun_24 C x f (by rw [hrr]; exact c24)).1
    rwa [hrr] at this
  rw [hrr] at crc
  have hkk : ∀ κ, κ ≠ 3 → κ ≠ 11 → κ ≠ 7 → κ ≠ 8 → κ ≠ 9 → κ ≠ 10 → κ ≠ 12 → κ ≠ 2 → m_begun C x f κ = C κ := fun κ h3 h11 h7 h8 h9 h10 h12 h2 => funext fun s => ckk κ s h3 h11 h7 h8 h9 h10 h12 h2
  generalize m_begun C x f = D at *
  have hOD : sOth a r D N := by
    refine ⟨e202.trans k2, fun k hk => ?_, fun s hs hsr => ?_, fun g hg => ?_, fun q hq => ?_, ?_, ?_, fun s hs1 hs2 => ?_⟩
    · obtain ⟨z1, s, z2, z3⟩ := k3 k hk
      rw [e21 33 k (by decide) (by decide) (by decide), e21 30 k (by decide) (by decide) (by decide), crc]
      exact ⟨z1, s, by omega, z3⟩
    · rw [crc] at hs
      have hs' : s < r := by omega
      refine sU_gen hI (by rw [hrr]; exact hs') (fun k => by rw [cvn]; exact Nat.le_refl _) ⟨cnn 11 s hsr (by omega), cnn 12 s hsr (by omega), by rw [cnn 2 s hsr (by omega)], fun j hj => ?_, cnn 7 s hsr (by omega), cnn 8 s hsr (by omega), cnn 9 s hsr (by omega), cnn 10 s hsr (by omega)⟩ (fun k w _ _ => by rw [hkk 15 (by decide) (by decide) (by decide) (by decide) (by decide) (by decide) (by decide) (by decide), hkk 16 (by decide) (by decide) (by decide) (by decide) (by decide) (by decide) (by decide) (by decide), hkk 14 (by decide) (by decide) (by decide) (by decide) (by decide) (by decide) (by decide) (by decide)]; exact ⟨rfl, rfl, rfl⟩) ⟨fun k _ => e21n k s hsr, fun j hj => ⟨e21 19 _ (by decide) (by decide) (by decide), e21 21 _ (by decide) (by decide) (by decide)⟩, fun q hq => ⟨e21 27 _ (by decide) (by decide) (by decide), e21 28 _ (by decide) (by decide) (by decide)⟩⟩ (rLf_cong a 0 (fun j _ => by unfold rT; rw [e21 30 j (by decide) (by decide) (by decide), e21 31 j (by decide) (by decide) (by decide), e21 32 j (by decide) (by decide) (by decide), e21 33 j (by decide) (by decide) (by decide)]; exact ⟨rfl, rfl⟩)) (k4 s hs')
      unfold cT
      rw [hkk 13 (by decide) (by decide) (by decide) (by decide) (by decide) (by decide) (by decide) (by decide)]
    · have := k5 g hg
      unfold sF sCd at this ⊢
      rw [cvn, hkk 4 (by decide) (by decide) (by decide) (by decide) (by decide) (by decide) (by decide) (by decide), hkk 5 (by decide) (by decide) (by decide) (by decide) (by decide) (by decide) (by decide) (by decide), hkk 6 (by decide) (by decide) (by decide) (by decide) (by decide) (by decide) (by decide) (by decide), hkk 14 (by decide) (by decide) (by decide) (by decide) (by decide) (by decide) (by decide) (by decide), hkk 15 (by decide) (by decide) (by decide) (by decide) (by decide) (by decide) (by decide) (by decide), hkk 16 (by decide) (by decide) (by decide) (by decide) (by decide) (by decide) (by decide) (by decide)]
      rw [e21f 6 (by decide) (by decide) (by decide), e21f 7 (by decide) (by decide) (by decide), e21f 8 (by decide) (by decide) (by decide), e21f 9 (by decide) (by decide) (by decide), e21f 10 (by decide) (by decide) (by decide), e21f 2 (by decide) (by decide) (by decide), e21f 0 (by decide) (by decide) (by decide), e21f (0 + 1) (by decide) (by decide) (by decide), e21f 5 (by decide) (by decide) (by decide), e21f 3 (by decide) (by decide) (by decide), e21f (3 + 1) (by decide) (by decide) (by decide)]
      exact this
    · rw [hkk 17 (by decide) (by decide) (by decide) (by decide) (by decide) (by decide) (by decide) (by decide), hkk 18 (by decide) (by decide) (by decide) (by decide) (by decide) (by decide) (by decide) (by decide), hkk 19 (by decide) (by decide) (by decide) (by decide) (by decide) (by decide) (by decide) (by decide), e21 11 q (by decide) (by decide) (by decide), e21 12 q (by decide) (by decide) (by decide), e21 13 q (by decide) (by decide) (by decide)]
      exact k6 q hq
    · rw [hkk 0 (by decide) (by decide) (by decide) (by decide) (by decide) (by decide) (by decide) (by decide), e200]; exact k7
    · rw [c241, e201]
    · rw [crc] at hs1
      rw [e21 26 s (by decide) (by decide) (by decide)]
      exact k9 s (by omega) hs2
  have q26 : N 21 26 r = 0 := by rw [e21 26 r (by decide) (by decide) (by decide)]; exact k9 r (Nat.le_refl _) c24
  have hcl : cLf D r 0 (gCnt D r) = rLf N r 0 a := by
    rw [ccn r (by omega), if_pos rfl]
    refine (rLf_none (M := N) (a := a) c24 (fun k hk => ?_) a 0 (by omega)).symm
    rw [e21 30 k (by decide) (by decide) (by decide)]
    exact (k3 k hk).2
  obtain ⟨z1, z2, z3⟩ := s_start (n := n) (f := f) (p := p) cI bN (by rw [crc]; omega) (by omega) k1 hOD hy (by rw [c11]; rfl) (e16.trans hye) (by rw [cvn]; omega) hx (by rw [c11]; exact hxe) (e15.trans hxe) (by rw [c11]; show x - x / 4 * 4 = _; rw [hxe]; exact rem4 hx) (by rw [c11, q26]; rfl) hcl
  have g241 : m_go (m_startOver D r) r 2 24 1 = nI (r + 1) := by
    rw [(m_go_str gSx.rf r : gSx (m_startOver D r) (m_go (m_startOver D r) r)).1, m_startOver_k D r (by decide) (by decide) (by decide) (by decide) (by decide) (by decide)]
    exact c241
  rw [g241, z2, e201]
  refine sOk_yes ?_ z1.up (z3.trans e203) rfl
  rw [(m_go_str gSx.rf r : gSx (m_startOver D r) (m_go (m_startOver D r) r)).rc]
  exact (m_startOver_inv cI (by rw [crc]; omega)).1

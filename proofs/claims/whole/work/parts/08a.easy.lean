/-! THE AGREEMENT of class and reference, operation by operation, over their mirrors alone. First what needs no arithmetic -/
abbrev thS (T : pT) (w : Int32) : pT := (sgT T, odT T, shT T, ksT T, kgT T, koT T, khT T, kpT T, psT T, poT T, phT T, w)
theorem rel_keep {S : pS} {T u : pT} (h : rel S T) (k : keepT T u) : rel S u := by
  obtain ⟨k1, k2, k3, k4, k5, k6, k7, k8⟩ := k
  unfold rel kpR ksR at h ⊢
  rw [k1, k2, k3, k4, k5, k6, k7, k8]
  exact h
theorem rel_th {S : pS} {T : pT} (h : rel S T) (w : Int32) : rel S (thS T w) := h
theorem no_1 (T : pT) (w : Int32) : f_X1_no T 1 w = (0, thS T 0) := by
  unfold f_X1_no g_X1_no_10
  rw [if_neg (by decide), if_neg (by decide)]
theorem no_0 (T : pT) (w : Int32) : f_X1_no T 0 w = (1, thS T w) := by
  unfold f_X1_no g_X1_no_10
  rw [if_pos rfl, if_pos rfl]
theorem slot_c (p : Int32) : (vp_in p 8 ∧ f_X0_checkSlot p = .ok () ∧ f_X1_isSlot p = 1) ∨ (f_X0_checkSlot p = .error 1 ∧ f_X1_isSlot p = 0) := by
  unfold f_X0_checkSlot g_X0_checkSlot_10 f_X1_isSlot
  by_cases h1 : p < 0
  · rw [if_pos h1, if_pos h1]; exact Or.inr ⟨rfl, rfl⟩
  · rw [if_neg h1, if_neg h1]
    by_cases h2 : p < 8
    · have h3 : ¬ (8 : Int32) ≤ p := fun h => by
        have a := Int32.lt_iff_toInt_lt.mp h2
        have b := Int32.le_iff_toInt_le.mp h
        omega
      rw [if_pos h2, if_neg h3]
      refine Or.inl ⟨vp_in_iff.mpr ⟨?_, ?_⟩, rfl, rfl⟩
      · have a : ¬ p.toInt < (0 : Int32).toInt := fun h => h1 (Int32.lt_iff_toInt_lt.mpr h)
        exact Int.not_lt.mp a
      · exact Int32.lt_iff_toInt_lt.mp h2
    · have h3 : (8 : Int32) ≤ p := by
        refine Int32.le_iff_toInt_le.mpr ?_
        have a : ¬ p.toInt < (8 : Int32).toInt := fun h => h2 (Int32.lt_iff_toInt_lt.mpr h)
        exact Int.not_lt.mp a
      rw [if_neg h2, if_pos h3]
      exact Or.inr ⟨rfl, rfl⟩
theorem range_c (a l u : Int32) : (l.toInt ≤ a.toInt ∧ a.toInt ≤ u.toInt ∧ f_X0_checkRange a l u = .ok () ∧ f_X1_isFrom a l u = 1) ∨ (f_X0_checkRange a l u = .error 2 ∧ f_X1_isFrom a l u = 0) := by
  unfold f_X0_checkRange g_X0_checkRange_10 f_X1_isFrom
  by_cases h1 : a < l
  · rw [if_pos h1, if_pos h1]; exact Or.inr ⟨rfl, rfl⟩
  · rw [if_neg h1, if_neg h1]
    by_cases h2 : a ≤ u
    · have h3 : ¬ u < a := fun h => by
        have a := Int32.lt_iff_toInt_lt.mp h
        have b := Int32.le_iff_toInt_le.mp h2
        omega
      rw [if_pos h2, if_neg h3]
      refine Or.inl ⟨?_, Int32.le_iff_toInt_le.mp h2, rfl, rfl⟩
      have a : ¬ a.toInt < l.toInt := fun h => h1 (Int32.lt_iff_toInt_lt.mpr h)
      exact Int.not_lt.mp a
    · have h3 : u < a := by
        refine Int32.lt_iff_toInt_lt.mpr ?_
        have a : ¬ a.toInt ≤ u.toInt := fun h => h2 (Int32.le_iff_toInt_le.mpr h)
        exact Int.not_le.mp a
      rw [if_neg h2, if_pos h3]
      exact Or.inr ⟨rfl, rfl⟩
theorem o0 (o : Nat → Int64) (v : Int64) : vp_updL o (0 : Int32).toNatClampNeg v 0 = v := by
  show (if 0 = (0 : Int32).toNatClampNeg then v else o 0) = v
  rw [if_pos (by decide)]
theorem agI_ok {S : pS} {T : pT} (h : rel S T) (o : Nat → Int64) (cs : List Nat) {v w : Int32} (h0 : thT T = 0) (e : v = w) : agI (wrI cs S o (.ok v)) (w, T) := ⟨h0, h, fun _ => (o0 o v.toInt64).trans (by rw [e])⟩
theorem agM_ok {S : pS} {T : pT} (h : rel S T) (R : pS) (o : Nat → Int64) (cs : List Nat) {v w : Int32} (h0 : thT T = 0) (e : v = w) : agI (wrM cs R o (.ok (v, S))) (w, T) := ⟨h0, h, fun _ => (o0 o v.toInt64).trans (by rw [e])⟩
theorem agL_ok {S : pS} {T : pT} (h : rel S T) (o : Nat → Int64) (cs : List Nat) {v w : Int64} (h0 : thT T = 0) (e : v = w) : agL (wrL cs S o (.ok v)) (w, T) := ⟨h0, h, fun _ => (o0 o v).trans e⟩
theorem agZ_ok {S : pS} {T : pT} (h : rel S T) (o : Nat → Int64) (cs : List Nat) {v w : Int32} (h0 : thT T = 0) (e : v = 0 ↔ w = 0) : agZ (wrZ cs S o (.ok v)) (w, T) := ⟨h0, h, fun _ => (o0 o (if v = 0 then 0 else 1)).trans (by
  show (if v = 0 then (0 : Int64) else 1) = if w = 0 then 0 else 1
  by_cases c : v = 0
  · rw [if_pos c, if_pos (e.mp c)]
  · rw [if_neg c, if_neg (fun z => c (e.mpr z))])⟩
theorem agI_er {S : pS} {T : pT} (h : rel S T) (o : Nat → Int64) (cs : List Nat) (k : Nat) {w : Int32} (h0 : thT T = nI (posN cs k)) (h1 : ¬ nI (posN cs k) = 0) : agI (wrI cs S o (.error k)) (w, T) := ⟨h0, h, fun z => absurd z h1⟩
theorem agM_er {S : pS} {T : pT} (h : rel S T) (o : Nat → Int64) (cs : List Nat) (k : Nat) {w : Int32} (h0 : thT T = nI (posN cs k)) (h1 : ¬ nI (posN cs k) = 0) : agI (wrM cs S o (.error k)) (w, T) := ⟨h0, h, fun z => absurd z h1⟩
theorem agL_er {S : pS} {T : pT} (h : rel S T) (o : Nat → Int64) (cs : List Nat) (k : Nat) {w : Int64} (h0 : thT T = nI (posN cs k)) (h1 : ¬ nI (posN cs k) = 0) : agL (wrL cs S o (.error k)) (w, T) := ⟨h0, h, fun z => absurd z h1⟩
theorem agZ_er {S : pS} {T : pT} (h : rel S T) (o : Nat → Int64) (cs : List Nat) (k : Nat) {w : Int32} (h0 : thT T = nI (posN cs k)) (h1 : ¬ nI (posN cs k) = 0) : agZ (wrZ cs S o (.error k)) (w, T) := ⟨h0, h, fun z => absurd z h1⟩
theorem ag_sign {S : pS} {T : pT} (hR : rel S T) (o : Nat → Int64) (p0 : Int32) : agI (wrI [1] S o (f_X0_sign S p0)) (f_X1_sign T p0) := by
  unfold f_X0_sign f_X1_sign
  rcases slot_c p0 with ⟨h, e0, e1⟩ | ⟨e0, e1⟩
  · rw [e0, e1, no_1]
    exact agI_ok (rel_th hR 0) o _ rfl (by show sgS S _ = sgT T _; rw [hR.1])
  · rw [e0, e1, no_0]
    exact agI_er (rel_th hR 1) o _ 1 rfl (by decide)
theorem ag_odd {S : pS} {T : pT} (hR : rel S T) (o : Nat → Int64) (p0 : Int32) : agL (wrL [1] S o (f_X0_odd S p0)) (f_X1_odd T p0) := by
  unfold f_X0_odd f_X1_odd
  rcases slot_c p0 with ⟨h, e0, e1⟩ | ⟨e0, e1⟩
  · rw [e0, e1, no_1]
    exact agL_ok (rel_th hR 0) o _ rfl (by show odS S _ = odT T _; rw [hR.2.1])
  · rw [e0, e1, no_0]
    exact agL_er (rel_th hR 1) o _ 1 rfl (by decide)
theorem ag_shift {S : pS} {T : pT} (hR : rel S T) (o : Nat → Int64) (p0 : Int32) : agI (wrI [1] S o (f_X0_shift S p0)) (f_X1_shift T p0) := by
  unfold f_X0_shift f_X1_shift
  rcases slot_c p0 with ⟨h, e0, e1⟩ | ⟨e0, e1⟩
  · rw [e0, e1, no_1]
    exact agI_ok (rel_th hR 0) o _ rfl (by show shS S _ = shT T _; rw [hR.2.2.1])
  · rw [e0, e1, no_0]
    exact agI_er (rel_th hR 1) o _ 1 rfl (by decide)
theorem ag_isWhole {S : pS} {T : pT} (hR : rel S T) (o : Nat → Int64) (p0 : Int32) : agZ (wrZ [1] S o (f_X0_isWhole S p0)) (f_X1_isWhole T p0) := by
  unfold f_X0_isWhole f_X1_isWhole
  rcases slot_c p0 with ⟨h, e0, e1⟩ | ⟨e0, e1⟩
  · rw [e0, e1, no_1]
    dsimp only
    rw [if_pos (show (0 : Int32) = 0 from rfl), show shT (thS T 0) = shS S from hR.2.2.1.symm]
    by_cases c : shS S p0.toNatClampNeg < 0
    · rw [if_pos c, if_pos c]; exact agZ_ok (rel_th hR 0) o _ rfl Iff.rfl
    · rw [if_neg c, if_neg c]; exact agZ_ok (rel_th hR 0) o _ rfl Iff.rfl
  · rw [e0, e1, no_0]
    exact agZ_er (rel_th hR 1) o _ 1 rfl (by decide)

def f_X1_isSlot (p0 : Int32) : Int32 := (if (p0 : Int32) < 0 then 0 else (if (8 : Int32) ≤ p0 then 0 else 1))
set_option maxHeartbeats 4000000 in
set_option maxRecDepth 100000 in
theorem met_X1_isSlot (l : Launch) (p0 : Int32) : Met l yX1_isSlot wsX1_isSlot ({ frames := 0, cells := 0, slots := 0, locals := 0 } : Room) (va_Pc [.int p0] (fun U => True)) (va_Qi (fun (r : Int32) (u : Unit) => f_X1_isSlot p0 = r ∧ (r = 0 ∨ r = 1)) (fun _ _ => True) (fun _ => False)) 0 0 (fun _ => False) := by
  refine Met.ofW (cc := cX1_isSlot) (maxL := 1) (ret := (some .boolean)) (by decide) rfl ?_
  intro p e s m args below meth c s₁ B hml hv
  obtain ⟨rfl, -⟩ := hv
  have hx := B.exec
  have hb := B.bytes
  have hr := B.returns
  have hts := atoms_spec (ws := wsX1_isSlot) B.pre
  have hown : s.vm.findClass RX1 = some m.cls := findClass_of_methodNamed B.named
  have hlocks := B.notSynchronized
  have hS : va_S (fun _ => False) s.heap s.heap [] := va_S.rf
  have hl := lv_entry ([.int p0]) (n := 1) (Nat.le_of_ble_eq_true rfl)
  rw [lg_entry_eq]
  generalize (lg_sl ([.int p0]) ++ List.replicate (1 - (lg_sl ([.int p0])).length) Slot.unset).toArray = ls at hl ⊢
  have hl : lv_has ls 1 [(0, .int p0)] := hl
  obtain ⟨Q, hQ⟩ : ∃ Q : State → Prop, Q = (MQ below (va_Qi (fun (r : Int32) (u : Unit) => f_X1_isSlot p0 = r ∧ (r = 0 ∨ r = 1)) (fun _ _ => True) (fun _ => False)) ([.int p0] : List Value).toArray s 0 0 (fun _ => False)) := ⟨_, rfl⟩
  rw [← hQ]
  have hR : f_X1_isSlot p0 = f_X1_isSlot p0 := rfl
  refine lv_iload_n hx hb dX1_isSlot_0 rfl (lv_at hl 0 rfl) ?_
  refine lv_if_lt (tgt := 14) hx hb dX1_isSlot_1 (by decide) (fun c1 => ?_) (fun c1 => ?_)
  · skip
    refine lv_iconst (v := 0) hx hb dX1_isSlot_14 (by decide) ?_
    rw [hQ]
    exact W.zret (ty := .boolean) (v := 0) hx hb hr (nbool (Or.inl rfl)) (fun t ht hW => ⟨⟨0, (), rfl, ⟨(hR.trans (by simp only [f_X1_isSlot, if_pos c1])), (Or.inl rfl)⟩, trivial⟩, hS.F ht⟩) hS.2.2 dX1_isSlot_15
  · skip
    refine lv_iload_n hx hb dX1_isSlot_4 rfl (lv_at hl 0 rfl) ?_
    refine lv_bipush (v := 8) hx hb dX1_isSlot_5 (by decide) ?_
    refine lv_icmp_ge (tgt := 14) hx hb dX1_isSlot_7 (by decide) (fun c7 => ?_) (fun c7 => ?_)
    · skip
      refine lv_iconst (v := 0) hx hb dX1_isSlot_14 (by decide) ?_
      rw [hQ]
      exact W.zret (ty := .boolean) (v := 0) hx hb hr (nbool (Or.inl rfl)) (fun t ht hW => ⟨⟨0, (), rfl, ⟨(hR.trans (by simp only [f_X1_isSlot, if_neg c1, if_pos c7])), (Or.inl rfl)⟩, trivial⟩, hS.F ht⟩) hS.2.2 dX1_isSlot_15
    · skip
      refine lv_iconst (v := 1) hx hb dX1_isSlot_10 (by decide) ?_
      refine lv_goto (tgt := 15) hx hb dX1_isSlot_11 (by decide) ?_
      rw [hQ]
      exact W.zret (ty := .boolean) (v := 1) hx hb hr (nbool (Or.inr rfl)) (fun t ht hW => ⟨⟨1, (), rfl, ⟨(hR.trans (by simp only [f_X1_isSlot, if_neg c1, if_neg c7])), (Or.inr rfl)⟩, trivial⟩, hS.F ht⟩) hS.2.2 dX1_isSlot_15

def f_X1_isFrom (p0 : Int32) (p1 : Int32) (p2 : Int32) : Int32 := (if (p0 : Int32) < p1 then 0 else (if (p2 : Int32) < p0 then 0 else 1))
set_option maxHeartbeats 4000000 in
set_option maxRecDepth 100000 in
theorem met_X1_isFrom (l : Launch) (p0 : Int32) (p1 : Int32) (p2 : Int32) : Met l yX1_isFrom wsX1_isFrom ({ frames := 0, cells := 0, slots := 0, locals := 0 } : Room) (va_Pc [.int p0, .int p1, .int p2] (fun U => True)) (va_Qi (fun (r : Int32) (u : Unit) => f_X1_isFrom p0 p1 p2 = r ∧ (r = 0 ∨ r = 1)) (fun _ _ => True) (fun _ => False)) 0 0 (fun _ => False) := by
  refine Met.ofW (cc := cX1_isFrom) (maxL := 3) (ret := (some .boolean)) (by decide) rfl ?_
  intro p e s m args below meth c s₁ B hml hv
  obtain ⟨rfl, -⟩ := hv
  have hx := B.exec
  have hb := B.bytes
  have hr := B.returns
  have hts := atoms_spec (ws := wsX1_isFrom) B.pre
  have hown : s.vm.findClass RX1 = some m.cls := findClass_of_methodNamed B.named
  have hlocks := B.notSynchronized
  have hS : va_S (fun _ => False) s.heap s.heap [] := va_S.rf
  have hl := lv_entry ([.int p0, .int p1, .int p2]) (n := 3) (Nat.le_of_ble_eq_true rfl)
  rw [lg_entry_eq]
  generalize (lg_sl ([.int p0, .int p1, .int p2]) ++ List.replicate (3 - (lg_sl ([.int p0, .int p1, .int p2])).length) Slot.unset).toArray = ls at hl ⊢
  have hl : lv_has ls 3 [(0, .int p0), (1, .int p1), (2, .int p2)] := hl
  obtain ⟨Q, hQ⟩ : ∃ Q : State → Prop, Q = (MQ below (va_Qi (fun (r : Int32) (u : Unit) => f_X1_isFrom p0 p1 p2 = r ∧ (r = 0 ∨ r = 1)) (fun _ _ => True) (fun _ => False)) ([.int p0, .int p1, .int p2] : List Value).toArray s 0 0 (fun _ => False)) := ⟨_, rfl⟩
  rw [← hQ]
  have hR : f_X1_isFrom p0 p1 p2 = f_X1_isFrom p0 p1 p2 := rfl
  refine lv_iload_n hx hb dX1_isFrom_0 rfl (lv_at hl 0 rfl) ?_
  refine lv_iload_n hx hb dX1_isFrom_1 rfl (lv_at hl 1 rfl) ?_
  refine lv_icmp_lt (tgt := 14) hx hb dX1_isFrom_2 (by decide) (fun c2 => ?_) (fun c2 => ?_)
  · skip
    refine lv_iconst (v := 0) hx hb dX1_isFrom_14 (by decide) ?_
    rw [hQ]
    exact W.zret (ty := .boolean) (v := 0) hx hb hr (nbool (Or.inl rfl)) (fun t ht hW => ⟨⟨0, (), rfl, ⟨(hR.trans (by simp only [f_X1_isFrom, if_pos c2])), (Or.inl rfl)⟩, trivial⟩, hS.F ht⟩) hS.2.2 dX1_isFrom_15
  · skip
    refine lv_iload_n hx hb dX1_isFrom_5 rfl (lv_at hl 0 rfl) ?_
    refine lv_iload_n hx hb dX1_isFrom_6 rfl (lv_at hl 2 rfl) ?_
    refine lv_icmp_gt (tgt := 14) hx hb dX1_isFrom_7 (by decide) (fun c7 => ?_) (fun c7 => ?_)
    · skip
      refine lv_iconst (v := 0) hx hb dX1_isFrom_14 (by decide) ?_
      rw [hQ]
      exact W.zret (ty := .boolean) (v := 0) hx hb hr (nbool (Or.inl rfl)) (fun t ht hW => ⟨⟨0, (), rfl, ⟨(hR.trans (by simp only [f_X1_isFrom, if_neg c2, if_pos c7])), (Or.inl rfl)⟩, trivial⟩, hS.F ht⟩) hS.2.2 dX1_isFrom_15
    · skip
      refine lv_iconst (v := 1) hx hb dX1_isFrom_10 (by decide) ?_
      refine lv_goto (tgt := 15) hx hb dX1_isFrom_11 (by decide) ?_
      rw [hQ]
      exact W.zret (ty := .boolean) (v := 1) hx hb hr (nbool (Or.inr rfl)) (fun t ht hW => ⟨⟨1, (), rfl, ⟨(hR.trans (by simp only [f_X1_isFrom, if_neg c2, if_neg c7])), (Or.inr rfl)⟩, trivial⟩, hS.F ht⟩) hS.2.2 dX1_isFrom_15

def f_X1_isBase (p0 : Int32) : Int32 := (f_X1_isFrom p0 (-64) 64)
set_option maxHeartbeats 4000000 in
set_option maxRecDepth 100000 in
theorem met_X1_isBase (l : Launch) (p0 : Int32) : Met l yX1_isBase wsX1_isBase ({ frames := 1, cells := 0, slots := 0, locals := 22 } : Room) (va_Pc [.int p0] (fun U => True)) (va_Qi (fun (r : Int32) (u : Unit) => f_X1_isBase p0 = r ∧ (r = 0 ∨ r = 1)) (fun _ _ => True) (fun _ => False)) 0 0 (fun _ => False) := by
  refine Met.ofW (cc := cX1_isBase) (maxL := 1) (ret := (some .boolean)) (by decide) rfl ?_
  intro p e s m args below meth c s₁ B hml hv
  obtain ⟨rfl, -⟩ := hv
  have hx := B.exec
  have hb := B.bytes
  have hr := B.returns
  have hts := atoms_spec (ws := wsX1_isBase) B.pre
  have hown : s.vm.findClass RX1 = some m.cls := findClass_of_methodNamed B.named
  have hlocks := B.notSynchronized
  have hS : va_S (fun _ => False) s.heap s.heap [] := va_S.rf
  have hl := lv_entry ([.int p0]) (n := 1) (Nat.le_of_ble_eq_true rfl)
  rw [lg_entry_eq]
  generalize (lg_sl ([.int p0]) ++ List.replicate (1 - (lg_sl ([.int p0])).length) Slot.unset).toArray = ls at hl ⊢
  have hl : lv_has ls 1 [(0, .int p0)] := hl
  obtain ⟨Q, hQ⟩ : ∃ Q : State → Prop, Q = (MQ below (va_Qi (fun (r : Int32) (u : Unit) => f_X1_isBase p0 = r ∧ (r = 0 ∨ r = 1)) (fun _ _ => True) (fun _ => False)) ([.int p0] : List Value).toArray s 0 0 (fun _ => False)) := ⟨_, rfl⟩
  rw [← hQ]
  have hR : f_X1_isBase p0 = f_X1_isBase p0 := rfl
  refine lv_iload_n hx hb dX1_isBase_0 rfl (lv_at hl 0 rfl) ?_
  refine lv_bipush (v := (-64)) hx hb dX1_isBase_1 (by decide) ?_
  refine lv_bipush (v := 64) hx hb dX1_isBase_3 (by decide) ?_
  refine va_calli (va_runS (As := [.int p0, .int (-64), .int 64]) (rest := []) ⟨hx, hb, hml, hown, hts⟩ (met_X1_isFrom l p0 (-64) 64) (va_cwS 3 hts gX1_isBase_X1_isFrom rfl rfl rfl (by decide +kernel) ⟨Nat.le_of_ble_eq_true rfl, Nat.le_of_ble_eq_true rfl⟩) ⟨fun a U g mk q => q, fun U hU hW => ⟨rfl, trivial⟩⟩ rfl rfl hl.1 rfl (lv_room (Nat.le_of_ble_eq_true rfl)) dX1_isBase_5 ⟨Nat.le_of_ble_eq_true rfl, Nat.le_of_ble_eq_true rfl⟩) hS (fun q _ h => h.elim) (fun q h => h.elim) (fun r5 u5 t H locs ht hvm hw5 hB hz hk hS => ?_)
  obtain ⟨hw5, bz5⟩ := hw5
  subst hw5
  rw [hQ]
  exact W.zret (ty := .boolean) (v := (f_X1_isFrom p0 (-64) 64)) hx hb hr (nbool bz5) (fun t ht hW => ⟨⟨(f_X1_isFrom p0 (-64) 64), (), rfl, ⟨(hR.trans (by simp only [f_X1_isBase])), bz5⟩, trivial⟩, hS.F ht⟩) hS.2.2 dX1_isBase_8

def f_X1_isExponent (p0 : Int32) : Int32 := (f_X1_isFrom p0 0 64)
set_option maxHeartbeats 4000000 in
set_option maxRecDepth 100000 in
theorem met_X1_isExponent (l : Launch) (p0 : Int32) : Met l yX1_isExponent wsX1_isExponent ({ frames := 1, cells := 0, slots := 0, locals := 22 } : Room) (va_Pc [.int p0] (fun U => True)) (va_Qi (fun (r : Int32) (u : Unit) => f_X1_isExponent p0 = r ∧ (r = 0 ∨ r = 1)) (fun _ _ => True) (fun _ => False)) 0 0 (fun _ => False) := by
  refine Met.ofW (cc := cX1_isExponent) (maxL := 1) (ret := (some .boolean)) (by decide) rfl ?_
  intro p e s m args below meth c s₁ B hml hv
  obtain ⟨rfl, -⟩ := hv
  have hx := B.exec
  have hb := B.bytes
  have hr := B.returns
  have hts := atoms_spec (ws := wsX1_isExponent) B.pre
  have hown : s.vm.findClass RX1 = some m.cls := findClass_of_methodNamed B.named
  have hlocks := B.notSynchronized
  have hS : va_S (fun _ => False) s.heap s.heap [] := va_S.rf
  have hl := lv_entry ([.int p0]) (n := 1) (Nat.le_of_ble_eq_true rfl)
  rw [lg_entry_eq]
  generalize (lg_sl ([.int p0]) ++ List.replicate (1 - (lg_sl ([.int p0])).length) Slot.unset).toArray = ls at hl ⊢
  have hl : lv_has ls 1 [(0, .int p0)] := hl
  obtain ⟨Q, hQ⟩ : ∃ Q : State → Prop, Q = (MQ below (va_Qi (fun (r : Int32) (u : Unit) => f_X1_isExponent p0 = r ∧ (r = 0 ∨ r = 1)) (fun _ _ => True) (fun _ => False)) ([.int p0] : List Value).toArray s 0 0 (fun _ => False)) := ⟨_, rfl⟩
  rw [← hQ]
  have hR : f_X1_isExponent p0 = f_X1_isExponent p0 := rfl
  refine lv_iload_n hx hb dX1_isExponent_0 rfl (lv_at hl 0 rfl) ?_
  refine lv_iconst (v := 0) hx hb dX1_isExponent_1 (by decide) ?_
  refine lv_bipush (v := 64) hx hb dX1_isExponent_2 (by decide) ?_
  refine va_calli (va_runS (As := [.int p0, .int 0, .int 64]) (rest := []) ⟨hx, hb, hml, hown, hts⟩ (met_X1_isFrom l p0 0 64) (va_cwS 3 hts gX1_isExponent_X1_isFrom rfl rfl rfl (by decide +kernel) ⟨Nat.le_of_ble_eq_true rfl, Nat.le_of_ble_eq_true rfl⟩) ⟨fun a U g mk q => q, fun U hU hW => ⟨rfl, trivial⟩⟩ rfl rfl hl.1 rfl (lv_room (Nat.le_of_ble_eq_true rfl)) dX1_isExponent_4 ⟨Nat.le_of_ble_eq_true rfl, Nat.le_of_ble_eq_true rfl⟩) hS (fun q _ h => h.elim) (fun q h => h.elim) (fun r4 u4 t H locs ht hvm hw4 hB hz hk hS => ?_)
  obtain ⟨hw4, bz4⟩ := hw4
  subst hw4
  rw [hQ]
  exact W.zret (ty := .boolean) (v := (f_X1_isFrom p0 0 64)) hx hb hr (nbool bz4) (fun t ht hW => ⟨⟨(f_X1_isFrom p0 0 64), (), rfl, ⟨(hR.trans (by simp only [f_X1_isExponent])), bz4⟩, trivial⟩, hS.F ht⟩) hS.2.2 dX1_isExponent_7

theorem isSlot_in {p : Int32} (h : ¬ (f_X1_isSlot p) = 0) : vp_in p 8 := by
  unfold f_X1_isSlot at h
  split at h
  · exact absurd rfl h
  · rename_i c1
    split at h
    · exact absurd rfl h
    · rename_i c2
      rw [fa_lt, i0] at c1
      rw [fa_le, i8] at c2
      exact vp_in_iff.mpr ⟨by omega, by omega⟩
theorem isFrom_in {a lo hi : Int32} (h : ¬ (f_X1_isFrom a lo hi) = 0) : lo.toInt ≤ a.toInt ∧ a.toInt ≤ hi.toInt := by
  unfold f_X1_isFrom at h
  split at h
  · exact absurd rfl h
  · rename_i c1
    split at h
    · exact absurd rfl h
    · rename_i c2
      rw [fa_lt] at c1
      rw [fa_lt] at c2
      exact ⟨by omega, by omega⟩
theorem isFrom1_nz {a hi : Int32} (h : ¬ (f_X1_isFrom a 1 hi) = 0) : ¬ ((a : Int32).toInt64) = 0 := nz_of_ge1 (by have := (isFrom_in h).1; rw [i1] at this; exact this)
theorem isFrom2_nz {a hi : Int32} (h : ¬ (f_X1_isFrom a 2 hi) = 0) : ¬ ((a : Int32).toInt64) = 0 := nz_of_ge1 (by have := (isFrom_in h).1; rw [show (2 : Int32).toInt = 2 by decide] at this; omega)
theorem mu_halfA {v : Int64} {n : Nat} (c : ¬ v = 0) (h : v.toInt.natAbs < n + 1) : (v / 2).toInt.natAbs < n := by
  have hne : (2 : Int64) ≠ -1 := by decide
  rw [Int64.toInt_div_of_ne_right v 2 hne, L2, Int.natAbs_tdiv]
  have h0 : v.toInt ≠ 0 := by
    intro e
    apply c
    rw [fa_eq64, L0]
    exact e
  have : (2 : Int).natAbs = 2 := rfl
  rw [this]
  show v.toInt.natAbs / 2 < n
  omega

def g_X1_lengthOf_4 : Nat → Int32 → Int64 → Int32
  | 0, _, _ => 0
  | n + 1, v4_2, v4_3 => (if (v4_3 : Int64) ≤ 0 then v4_2 else (g_X1_lengthOf_4 n (v4_2 + 1) (v4_3 / 2)))
def f_X1_lengthOf (p0 : Int64) : Int32 := (g_X1_lengthOf_4 (p0.toInt.toNat + 1) 0 p0)
set_option maxHeartbeats 4000000 in
set_option maxRecDepth 100000 in
theorem met_X1_lengthOf (l : Launch) (p0 : Int64) : Met l yX1_lengthOf wsX1_lengthOf ({ frames := 0, cells := 0, slots := 0, locals := 0 } : Room) (va_Pc [.long p0] (fun U => True)) (va_Qi (fun (r : Int32) (u : Unit) => f_X1_lengthOf p0 = r) (fun _ _ => True) (fun _ => False)) 0 0 (fun _ => False) := by
  refine Met.ofW (cc := cX1_lengthOf) (maxL := 5) (ret := (some .int)) (by decide) rfl ?_
  intro p e s m args below meth c s₁ B hml hv
  obtain ⟨rfl, -⟩ := hv
  have hx := B.exec
  have hb := B.bytes
  have hr := B.returns
  have hts := atoms_spec (ws := wsX1_lengthOf) B.pre
  have hown : s.vm.findClass RX1 = some m.cls := findClass_of_methodNamed B.named
  have hlocks := B.notSynchronized
  have hS : va_S (fun _ => False) s.heap s.heap [] := va_S.rf
  have hl := lv_entry ([.long p0]) (n := 5) (Nat.le_of_ble_eq_true rfl)
  rw [lg_entry_eq]
  generalize (lg_sl ([.long p0]) ++ List.replicate (5 - (lg_sl ([.long p0])).length) Slot.unset).toArray = ls at hl ⊢
  have hl : lv_has ls 5 [(0, .long p0)] := hl
  obtain ⟨Q, hQ⟩ : ∃ Q : State → Prop, Q = (MQ below (va_Qi (fun (r : Int32) (u : Unit) => f_X1_lengthOf p0 = r) (fun _ _ => True) (fun _ => False)) ([.long p0] : List Value).toArray s 0 0 (fun _ => False)) := ⟨_, rfl⟩
  rw [← hQ]
  have hR : f_X1_lengthOf p0 = f_X1_lengthOf p0 := rfl
  refine lv_iconst (v := 0) hx hb dX1_lengthOf_0 (by decide) ?_
  refine lv_istore_n (lv' := [(2, .int 0), (0, .long p0)]) hx hb dX1_lengthOf_1 rfl hl (by decide) rfl (fun ls hl => ?_)
  refine lv_lload_n hx hb dX1_lengthOf_2 rfl (lv_at hl 1 rfl) ?_
  refine lv_lstore_n (lv' := [(3, .long p0), (2, .int 0), (0, .long p0)]) hx hb dX1_lengthOf_3 rfl hl (by decide) rfl (fun ls hl => ?_)
  have J4 : ∀ (n4 : Nat) (v4_2 : Int32) (v4_3 : Int64) (ls : Array Slot) (H : Heap) (locs : List Loc), lv_has ls 5 [(0, .long p0), (2, .int v4_2), (3, .long v4_3)] → va_S (fun _ => False) s.heap H locs → f_X1_lengthOf p0 = g_X1_lengthOf_4 n4 v4_2 v4_3 → v4_3.toInt.toNat < n4 → W p l e (headSpec wsX1_lengthOf ({ frames := 0, cells := 0, slots := 0, locals := 0 } : Room)).room s m ([.long p0] : List Value).toArray below meth c H locs 0 0 Q (F0 m 4 ls []) := by
    intro n4
    induction n4 with
    | zero => intro v4_2 v4_3 ls H locs hl hS hR hmu4; exact absurd hmu4 (Nat.not_lt_zero _)
    | succ n4 ih4 =>
      intro v4_2 v4_3 ls H locs hl hS hR hmu4
      refine lv_lload_n hx hb dX1_lengthOf_4 rfl (lv_at hl 2 rfl) ?_
      refine lv_lconst (v := 0) hx hb dX1_lengthOf_5 rfl ?_
      refine W.lcmp hx hb dX1_lengthOf_6 ?_
      refine lv_if_le (tgt := 22) hx hb dX1_lengthOf_7 (by decide) (fun c6 => ?_) (fun c6 => ?_)
      · skip
        have c6 : (v4_3 : Int64) ≤ 0 := (lg_cmp_le _ _).mp c6
        refine lv_iload_n hx hb dX1_lengthOf_22 rfl (lv_at hl 1 rfl) ?_
        rw [hQ]
        exact W.iret (v := v4_2) hx hb hr (fun t ht hW => ⟨⟨v4_2, (), rfl, (hR.trans (by simp only [g_X1_lengthOf_4, if_pos c6])), trivial⟩, hS.F ht⟩) hS.2.2 dX1_lengthOf_23
      · skip
        have c6 : ¬ ((v4_3 : Int64) ≤ 0) := fun h => c6 ((lg_cmp_le _ _).mpr h)
        refine lv_iinc (v := (v4_2 + 1)) (lv' := [(2, .int (v4_2 + 1)), (0, .long p0), (3, .long v4_3)]) hx hb dX1_lengthOf_10 hl (k := 1) rfl (by rfl) (by decide) rfl (fun ls hl => ?_)
        refine lv_lload_n hx hb dX1_lengthOf_13 rfl (lv_at hl 2 rfl) ?_
        refine lv_ldc2 (v := 2) hx hb hown (hts (.constantLong RX1 43 2) (by decide +kernel)) dX1_lengthOf_14 ?_
        refine lv_ldiv hx hb dX1_lengthOf_17 (by decide) ?_
        refine lv_lstore_n (lv' := [(3, .long (v4_3 / 2)), (2, .int (v4_2 + 1)), (0, .long p0)]) hx hb dX1_lengthOf_18 rfl hl (by decide) rfl (fun ls hl => ?_)
        refine lv_goto (tgt := 4) hx hb dX1_lengthOf_19 (by decide) ?_
        exact ih4 (v4_2 + 1) (v4_3 / 2) ls _ _ (lv_sub hl [2, 1, 0] rfl) hS (hR.trans (by simp only [g_X1_lengthOf_4, if_neg c6])) (mu_half c6 hmu4)
  exact J4 (p0.toInt.toNat + 1) 0 p0 ls _ _ (lv_sub hl [2, 1, 0] rfl) hS (hR.trans (by simp only [f_X1_lengthOf])) (Nat.lt_succ_self _)

def g_X1_twosOf_4 : Nat → Int32 → Int64 → Int32
  | 0, _, _ => 0
  | n + 1, v4_2, v4_3 => (if (v4_3 : Int64) = 0 then v4_2 else (if ((v4_3 - v4_3 / 2 * 2) : Int64) = 0 then (g_X1_twosOf_4 n (v4_2 + 1) (v4_3 / 2)) else v4_2))
def f_X1_twosOf (p0 : Int64) : Int32 := (g_X1_twosOf_4 (p0.toInt.natAbs + 1) 0 p0)
set_option maxHeartbeats 4000000 in
set_option maxRecDepth 100000 in
theorem met_X1_twosOf (l : Launch) (p0 : Int64) : Met l yX1_twosOf wsX1_twosOf ({ frames := 0, cells := 0, slots := 0, locals := 0 } : Room) (va_Pc [.long p0] (fun U => True)) (va_Qi (fun (r : Int32) (u : Unit) => f_X1_twosOf p0 = r) (fun _ _ => True) (fun _ => False)) 0 0 (fun _ => False) := by
  refine Met.ofW (cc := cX1_twosOf) (maxL := 5) (ret := (some .int)) (by decide) rfl ?_
  intro p e s m args below meth c s₁ B hml hv
  obtain ⟨rfl, -⟩ := hv
  have hx := B.exec
  have hb := B.bytes
  have hr := B.returns
  have hts := atoms_spec (ws := wsX1_twosOf) B.pre
  have hown : s.vm.findClass RX1 = some m.cls := findClass_of_methodNamed B.named
  have hlocks := B.notSynchronized
  have hS : va_S (fun _ => False) s.heap s.heap [] := va_S.rf
  have hl := lv_entry ([.long p0]) (n := 5) (Nat.le_of_ble_eq_true rfl)
  rw [lg_entry_eq]
  generalize (lg_sl ([.long p0]) ++ List.replicate (5 - (lg_sl ([.long p0])).length) Slot.unset).toArray = ls at hl ⊢
  have hl : lv_has ls 5 [(0, .long p0)] := hl
  obtain ⟨Q, hQ⟩ : ∃ Q : State → Prop, Q = (MQ below (va_Qi (fun (r : Int32) (u : Unit) => f_X1_twosOf p0 = r) (fun _ _ => True) (fun _ => False)) ([.long p0] : List Value).toArray s 0 0 (fun _ => False)) := ⟨_, rfl⟩
  rw [← hQ]
  have hR : f_X1_twosOf p0 = f_X1_twosOf p0 := rfl
  refine lv_iconst (v := 0) hx hb dX1_twosOf_0 (by decide) ?_
  refine lv_istore_n (lv' := [(2, .int 0), (0, .long p0)]) hx hb dX1_twosOf_1 rfl hl (by decide) rfl (fun ls hl => ?_)
  refine lv_lload_n hx hb dX1_twosOf_2 rfl (lv_at hl 1 rfl) ?_
  refine lv_lstore_n (lv' := [(3, .long p0), (2, .int 0), (0, .long p0)]) hx hb dX1_twosOf_3 rfl hl (by decide) rfl (fun ls hl => ?_)
  have J4 : ∀ (n4 : Nat) (v4_2 : Int32) (v4_3 : Int64) (ls : Array Slot) (H : Heap) (locs : List Loc), lv_has ls 5 [(0, .long p0), (2, .int v4_2), (3, .long v4_3)] → va_S (fun _ => False) s.heap H locs → f_X1_twosOf p0 = g_X1_twosOf_4 n4 v4_2 v4_3 → v4_3.toInt.natAbs < n4 → W p l e (headSpec wsX1_twosOf ({ frames := 0, cells := 0, slots := 0, locals := 0 } : Room)).room s m ([.long p0] : List Value).toArray below meth c H locs 0 0 Q (F0 m 4 ls []) := by
    intro n4
    induction n4 with
    | zero => intro v4_2 v4_3 ls H locs hl hS hR hmu4; exact absurd hmu4 (Nat.not_lt_zero _)
    | succ n4 ih4 =>
      intro v4_2 v4_3 ls H locs hl hS hR hmu4
      refine lv_lload_n hx hb dX1_twosOf_4 rfl (lv_at hl 2 rfl) ?_
      refine lv_lconst (v := 0) hx hb dX1_twosOf_5 rfl ?_
      refine W.lcmp hx hb dX1_twosOf_6 ?_
      refine lv_if_eq (tgt := 32) hx hb dX1_twosOf_7 (by decide) (fun c6 => ?_) (fun c6 => ?_)
      · skip
        have c6 : (v4_3 : Int64) = 0 := (lg_cmp_eq _ _).mp c6
        refine lv_iload_n hx hb dX1_twosOf_32 rfl (lv_at hl 1 rfl) ?_
        rw [hQ]
        exact W.iret (v := v4_2) hx hb hr (fun t ht hW => ⟨⟨v4_2, (), rfl, (hR.trans (by simp only [g_X1_twosOf_4, if_pos c6])), trivial⟩, hS.F ht⟩) hS.2.2 dX1_twosOf_33
      · skip
        have c6 : ¬ ((v4_3 : Int64) = 0) := fun h => c6 ((lg_cmp_eq _ _).mpr h)
        refine lv_lload_n hx hb dX1_twosOf_10 rfl (lv_at hl 2 rfl) ?_
        refine lv_ldc2 (v := 2) hx hb hown (hts (.constantLong RX1 43 2) (by decide +kernel)) dX1_twosOf_11 ?_
        refine lv_lrem hx hb dX1_twosOf_14 (by decide) ?_
        refine lv_lconst (v := 0) hx hb dX1_twosOf_15 rfl ?_
        refine W.lcmp hx hb dX1_twosOf_16 ?_
        refine lv_if_ne (tgt := 32) hx hb dX1_twosOf_17 (by decide) (fun c16 => ?_) (fun c16 => ?_)
        · skip
          have c16 : ¬ (((v4_3 - v4_3 / 2 * 2) : Int64) = 0) := fun h => c16 ((lg_cmp_eq _ _).mpr h)
          refine lv_iload_n hx hb dX1_twosOf_32 rfl (lv_at hl 1 rfl) ?_
          rw [hQ]
          exact W.iret (v := v4_2) hx hb hr (fun t ht hW => ⟨⟨v4_2, (), rfl, (hR.trans (by simp only [g_X1_twosOf_4, if_neg c6, if_neg c16])), trivial⟩, hS.F ht⟩) hS.2.2 dX1_twosOf_33
        · skip
          have c16 : ((v4_3 - v4_3 / 2 * 2) : Int64) = 0 := (lg_cmp_eq _ _).mp c16
          refine lv_iinc (v := (v4_2 + 1)) (lv' := [(2, .int (v4_2 + 1)), (0, .long p0), (3, .long v4_3)]) hx hb dX1_twosOf_20 hl (k := 1) rfl (by rfl) (by decide) rfl (fun ls hl => ?_)
          refine lv_lload_n hx hb dX1_twosOf_23 rfl (lv_at hl 2 rfl) ?_
          refine lv_ldc2 (v := 2) hx hb hown (hts (.constantLong RX1 43 2) (by decide +kernel)) dX1_twosOf_24 ?_
          refine lv_ldiv hx hb dX1_twosOf_27 (by decide) ?_
          refine lv_lstore_n (lv' := [(3, .long (v4_3 / 2)), (2, .int (v4_2 + 1)), (0, .long p0)]) hx hb dX1_twosOf_28 rfl hl (by decide) rfl (fun ls hl => ?_)
          refine lv_goto (tgt := 4) hx hb dX1_twosOf_29 (by decide) ?_
          exact ih4 (v4_2 + 1) (v4_3 / 2) ls _ _ (lv_sub hl [2, 1, 0] rfl) hS (hR.trans (by simp only [g_X1_twosOf_4, if_neg c6, if_pos c16])) (mu_halfA c6 hmu4)
  exact J4 (p0.toInt.natAbs + 1) 0 p0 ls _ _ (lv_sub hl [2, 1, 0] rfl) hS (hR.trans (by simp only [f_X1_twosOf])) (Nat.lt_succ_self _)

def f_X1_bitsOf (p0 : Int64) (p1 : Int32) : Int64 := (if (p0 : Int64) = 0 then 0 else (((p0 <<< (((53 - (f_X1_lengthOf p0)) : Int32).toInt64 &&& 63)) - 4503599627370496) + (((((p1 - (53 - (f_X1_lengthOf p0))) + 1075) : Int32).toInt64) * 4503599627370496)))
set_option maxHeartbeats 4000000 in
set_option maxRecDepth 100000 in
theorem met_X1_bitsOf (l : Launch) (p0 : Int64) (p1 : Int32) : Met l yX1_bitsOf wsX1_bitsOf ({ frames := 1, cells := 0, slots := 0, locals := 24 } : Room) (va_Pc [.long p0, .int p1] (fun U => True)) (va_Ql (fun (r : Int64) (u : Unit) => f_X1_bitsOf p0 p1 = r) (fun _ _ => True) (fun _ => False)) 0 0 (fun _ => False) := by
  refine Met.ofW (cc := cX1_bitsOf) (maxL := 6) (ret := (some .long)) (by decide) rfl ?_
  intro p e s m args below meth c s₁ B hml hv
  obtain ⟨rfl, -⟩ := hv
  have hx := B.exec
  have hb := B.bytes
  have hr := B.returns
  have hts := atoms_spec (ws := wsX1_bitsOf) B.pre
  have hown : s.vm.findClass RX1 = some m.cls := findClass_of_methodNamed B.named
  have hlocks := B.notSynchronized
  have hS : va_S (fun _ => False) s.heap s.heap [] := va_S.rf
  have hl := lv_entry ([.long p0, .int p1]) (n := 6) (Nat.le_of_ble_eq_true rfl)
  rw [lg_entry_eq]
  generalize (lg_sl ([.long p0, .int p1]) ++ List.replicate (6 - (lg_sl ([.long p0, .int p1])).length) Slot.unset).toArray = ls at hl ⊢
  have hl : lv_has ls 6 [(0, .long p0), (2, .int p1)] := hl
  obtain ⟨Q, hQ⟩ : ∃ Q : State → Prop, Q = (MQ below (va_Ql (fun (r : Int64) (u : Unit) => f_X1_bitsOf p0 p1 = r) (fun _ _ => True) (fun _ => False)) ([.long p0, .int p1] : List Value).toArray s 0 0 (fun _ => False)) := ⟨_, rfl⟩
  rw [← hQ]
  have hR : f_X1_bitsOf p0 p1 = f_X1_bitsOf p0 p1 := rfl
  refine lv_lload_n hx hb dX1_bitsOf_0 rfl (lv_at hl 0 rfl) ?_
  refine lv_lconst (v := 0) hx hb dX1_bitsOf_1 rfl ?_
  refine W.lcmp hx hb dX1_bitsOf_2 ?_
  refine lv_if_ne (tgt := 8) hx hb dX1_bitsOf_3 (by decide) (fun c2 => ?_) (fun c2 => ?_)
  · skip
    have c2 : ¬ ((p0 : Int64) = 0) := fun h => c2 ((lg_cmp_eq _ _).mpr h)
    refine lv_bipush (v := 53) hx hb dX1_bitsOf_8 (by decide) ?_
    refine lv_lload_n hx hb dX1_bitsOf_10 rfl (lv_at hl 0 rfl) ?_
    refine va_calli (va_runS (As := [.long p0]) (rest := [.int 53]) ⟨hx, hb, hml, hown, hts⟩ (met_X1_lengthOf l p0) (va_cwS 1 hts gX1_bitsOf_X1_lengthOf rfl rfl rfl (by decide +kernel) ⟨Nat.le_of_ble_eq_true rfl, Nat.le_of_ble_eq_true rfl⟩) ⟨fun a U g mk q => q, fun U hU hW => ⟨rfl, trivial⟩⟩ rfl rfl hl.1 rfl (lv_room (Nat.le_of_ble_eq_true rfl)) dX1_bitsOf_11 ⟨Nat.le_of_ble_eq_true rfl, Nat.le_of_ble_eq_true rfl⟩) hS (fun q _ h => h.elim) (fun q h => h.elim) (fun r11 u11 t H locs ht hvm hw11 hB hz hk hS => ?_)
    subst hw11
    refine lv_isub hx hb dX1_bitsOf_14 ?_
    refine lv_istore_n (lv' := [(3, .int (53 - (f_X1_lengthOf p0))), (0, .long p0), (2, .int p1)]) hx hb dX1_bitsOf_15 rfl hl (by decide) rfl (fun ls hl => ?_)
    refine lv_lload_n hx hb dX1_bitsOf_16 rfl (lv_at hl 1 rfl) ?_
    refine lv_iload_n hx hb dX1_bitsOf_17 rfl (lv_at hl 0 rfl) ?_
    refine lv_lshl hx hb dX1_bitsOf_18 rfl ?_
    refine lv_lstore (lv' := [(4, .long (p0 <<< (((53 - (f_X1_lengthOf p0)) : Int32).toInt64 &&& 63))), (3, .int (53 - (f_X1_lengthOf p0))), (0, .long p0), (2, .int p1)]) hx hb dX1_bitsOf_19 hl (by decide) rfl (fun ls hl => ?_)
    refine lv_lload hx hb dX1_bitsOf_21 (lv_at hl 0 rfl) ?_
    refine lv_ldc2 (v := 4503599627370496) hx hb hown (hts (.constantLong RX1 49 4503599627370496) (by decide +kernel)) dX1_bitsOf_23 ?_
    refine lv_lsub hx hb dX1_bitsOf_26 ?_
    refine lv_iload_n hx hb dX1_bitsOf_27 rfl (lv_at hl 3 rfl) ?_
    refine lv_iload_n hx hb dX1_bitsOf_28 rfl (lv_at hl 1 rfl) ?_
    refine lv_isub hx hb dX1_bitsOf_29 ?_
    refine lv_sipush (v := 1075) hx hb dX1_bitsOf_30 (by decide) ?_
    refine lv_iadd hx hb dX1_bitsOf_33 ?_
    refine lv_i2l hx hb dX1_bitsOf_34 rfl ?_
    refine lv_ldc2 (v := 4503599627370496) hx hb hown (hts (.constantLong RX1 49 4503599627370496) (by decide +kernel)) dX1_bitsOf_35 ?_
    refine lv_lmul hx hb dX1_bitsOf_38 ?_
    refine lv_ladd hx hb dX1_bitsOf_39 ?_
    rw [hQ]
    exact W.lret (v := (((p0 <<< (((53 - (f_X1_lengthOf p0)) : Int32).toInt64 &&& 63)) - 4503599627370496) + (((((p1 - (53 - (f_X1_lengthOf p0))) + 1075) : Int32).toInt64) * 4503599627370496))) hx hb hr (fun t ht hW => ⟨⟨(((p0 <<< (((53 - (f_X1_lengthOf p0)) : Int32).toInt64 &&& 63)) - 4503599627370496) + (((((p1 - (53 - (f_X1_lengthOf p0))) + 1075) : Int32).toInt64) * 4503599627370496)), (), rfl, (hR.trans (by simp only [f_X1_bitsOf, if_neg c2])), trivial⟩, hS.F ht⟩) hS.2.2 dX1_bitsOf_40
  · skip
    have c2 : (p0 : Int64) = 0 := (lg_cmp_eq _ _).mp c2
    refine lv_lconst (v := 0) hx hb dX1_bitsOf_6 rfl ?_
    rw [hQ]
    exact W.lret (v := 0) hx hb hr (fun t ht hW => ⟨⟨0, (), rfl, (hR.trans (by simp only [f_X1_bitsOf, if_pos c2])), trivial⟩, hS.F ht⟩) hS.2.2 dX1_bitsOf_7

def g_X1_rootOf_6 (p0 : Int64) : Nat → Int64 → Int32 → Int64
  | 0, _, _ => 0
  | n + 1, v6_2, v6_4 => (if (v6_4 : Int32) < 0 then v6_2 else (if (p0 : Int64) < ((v6_2 ||| ((1 : Int64) <<< ((v6_4 : Int32).toInt64 &&& 63))) * (v6_2 ||| ((1 : Int64) <<< ((v6_4 : Int32).toInt64 &&& 63)))) then (g_X1_rootOf_6 p0 n v6_2 (v6_4 + (-1))) else (g_X1_rootOf_6 p0 n (v6_2 ||| ((1 : Int64) <<< ((v6_4 : Int32).toInt64 &&& 63))) (v6_4 + (-1)))))
def f_X1_rootOf (p0 : Int64) : Int64 := (g_X1_rootOf_6 p0 (((30 : Int32).toInt - (0 : Int32).toInt + 1).toNat + 1) 0 30)
set_option maxHeartbeats 4000000 in
set_option maxRecDepth 100000 in
theorem met_X1_rootOf (l : Launch) (p0 : Int64) : Met l yX1_rootOf wsX1_rootOf ({ frames := 0, cells := 0, slots := 0, locals := 0 } : Room) (va_Pc [.long p0] (fun U => True)) (va_Ql (fun (r : Int64) (u : Unit) => f_X1_rootOf p0 = r) (fun _ _ => True) (fun _ => False)) 0 0 (fun _ => False) := by
  refine Met.ofW (cc := cX1_rootOf) (maxL := 7) (ret := (some .long)) (by decide) rfl ?_
  intro p e s m args below meth c s₁ B hml hv
  obtain ⟨rfl, -⟩ := hv
  have hx := B.exec
  have hb := B.bytes
  have hr := B.returns
  have hts := atoms_spec (ws := wsX1_rootOf) B.pre
  have hown : s.vm.findClass RX1 = some m.cls := findClass_of_methodNamed B.named
  have hlocks := B.notSynchronized
  have hS : va_S (fun _ => False) s.heap s.heap [] := va_S.rf
  have hl := lv_entry ([.long p0]) (n := 7) (Nat.le_of_ble_eq_true rfl)
  rw [lg_entry_eq]
  generalize (lg_sl ([.long p0]) ++ List.replicate (7 - (lg_sl ([.long p0])).length) Slot.unset).toArray = ls at hl ⊢
  have hl : lv_has ls 7 [(0, .long p0)] := hl
  obtain ⟨Q, hQ⟩ : ∃ Q : State → Prop, Q = (MQ below (va_Ql (fun (r : Int64) (u : Unit) => f_X1_rootOf p0 = r) (fun _ _ => True) (fun _ => False)) ([.long p0] : List Value).toArray s 0 0 (fun _ => False)) := ⟨_, rfl⟩
  rw [← hQ]
  have hR : f_X1_rootOf p0 = f_X1_rootOf p0 := rfl
  refine lv_lconst (v := 0) hx hb dX1_rootOf_0 rfl ?_
  refine lv_lstore_n (lv' := [(2, .long 0), (0, .long p0)]) hx hb dX1_rootOf_1 rfl hl (by decide) rfl (fun ls hl => ?_)
  refine lv_bipush (v := 30) hx hb dX1_rootOf_2 (by decide) ?_
  refine lv_istore (lv' := [(4, .int 30), (2, .long 0), (0, .long p0)]) hx hb dX1_rootOf_4 hl (by decide) rfl (fun ls hl => ?_)
  have J6 : ∀ (n6 : Nat) (v6_2 : Int64) (v6_4 : Int32) (ls : Array Slot) (H : Heap) (locs : List Loc), lv_has ls 7 [(0, .long p0), (2, .long v6_2), (4, .int v6_4)] → va_S (fun _ => False) s.heap H locs → f_X1_rootOf p0 = g_X1_rootOf_6 p0 n6 v6_2 v6_4 → (v6_4.toInt - (0 : Int32).toInt + 1).toNat < n6 → W p l e (headSpec wsX1_rootOf ({ frames := 0, cells := 0, slots := 0, locals := 0 } : Room)).room s m ([.long p0] : List Value).toArray below meth c H locs 0 0 Q (F0 m 6 ls []) := by
    intro n6
    induction n6 with
    | zero => intro v6_2 v6_4 ls H locs hl hS hR hmu6; exact absurd hmu6 (Nat.not_lt_zero _)
    | succ n6 ih6 =>
      intro v6_2 v6_4 ls H locs hl hS hR hmu6
      refine lv_iload hx hb dX1_rootOf_6 (lv_at hl 2 rfl) ?_
      refine lv_if_lt (tgt := 38) hx hb dX1_rootOf_8 (by decide) (fun c8 => ?_) (fun c8 => ?_)
      · skip
        refine lv_lload_n hx hb dX1_rootOf_38 rfl (lv_at hl 1 rfl) ?_
        rw [hQ]
        exact W.lret (v := v6_2) hx hb hr (fun t ht hW => ⟨⟨v6_2, (), rfl, (hR.trans (by simp only [g_X1_rootOf_6, if_pos c8])), trivial⟩, hS.F ht⟩) hS.2.2 dX1_rootOf_39
      · skip
        refine lv_lload_n hx hb dX1_rootOf_11 rfl (lv_at hl 1 rfl) ?_
        refine lv_lconst (v := 1) hx hb dX1_rootOf_12 rfl ?_
        refine lv_iload hx hb dX1_rootOf_13 (lv_at hl 2 rfl) ?_
        refine lv_lshl hx hb dX1_rootOf_15 rfl ?_
        refine lv_lor hx hb dX1_rootOf_16 ?_
        refine lv_lstore (lv' := [(5, .long (v6_2 ||| ((1 : Int64) <<< ((v6_4 : Int32).toInt64 &&& 63)))), (0, .long p0), (2, .long v6_2), (4, .int v6_4)]) hx hb dX1_rootOf_17 hl (by decide) rfl (fun ls hl => ?_)
        refine lv_lload hx hb dX1_rootOf_19 (lv_at hl 0 rfl) ?_
        refine lv_lload hx hb dX1_rootOf_21 (lv_at hl 0 rfl) ?_
        refine lv_lmul hx hb dX1_rootOf_23 ?_
        refine lv_lload_n hx hb dX1_rootOf_24 rfl (lv_at hl 1 rfl) ?_
        refine W.lcmp hx hb dX1_rootOf_25 ?_
        refine lv_if_gt (tgt := 32) hx hb dX1_rootOf_26 (by decide) (fun c25 => ?_) (fun c25 => ?_)
        · skip
          have c25 : (p0 : Int64) < ((v6_2 ||| ((1 : Int64) <<< ((v6_4 : Int32).toInt64 &&& 63))) * (v6_2 ||| ((1 : Int64) <<< ((v6_4 : Int32).toInt64 &&& 63)))) := (lg_cmp_gt _ _).mp c25
          refine lv_iinc (v := (v6_4 + (-1))) (lv' := [(4, .int (v6_4 + (-1))), (5, .long (v6_2 ||| ((1 : Int64) <<< ((v6_4 : Int32).toInt64 &&& 63)))), (0, .long p0), (2, .long v6_2)]) hx hb dX1_rootOf_32 hl (k := 3) rfl (by rfl) (by decide) rfl (fun ls hl => ?_)
          refine lv_goto (tgt := 6) hx hb dX1_rootOf_35 (by decide) ?_
          exact ih6 v6_2 (v6_4 + (-1)) ls _ _ (lv_sub hl [2, 3, 0] rfl) hS (hR.trans (by simp only [g_X1_rootOf_6, if_neg c8, if_pos c25])) (mu_dn (by decide) c8 hmu6)
        · skip
          have c25 : ¬ ((p0 : Int64) < ((v6_2 ||| ((1 : Int64) <<< ((v6_4 : Int32).toInt64 &&& 63))) * (v6_2 ||| ((1 : Int64) <<< ((v6_4 : Int32).toInt64 &&& 63))))) := fun h => c25 ((lg_cmp_gt _ _).mpr h)
          refine lv_lload hx hb dX1_rootOf_29 (lv_at hl 0 rfl) ?_
          refine lv_lstore_n (lv' := [(2, .long (v6_2 ||| ((1 : Int64) <<< ((v6_4 : Int32).toInt64 &&& 63)))), (5, .long (v6_2 ||| ((1 : Int64) <<< ((v6_4 : Int32).toInt64 &&& 63)))), (0, .long p0), (4, .int v6_4)]) hx hb dX1_rootOf_31 rfl hl (by decide) rfl (fun ls hl => ?_)
          refine lv_iinc (v := (v6_4 + (-1))) (lv' := [(4, .int (v6_4 + (-1))), (2, .long (v6_2 ||| ((1 : Int64) <<< ((v6_4 : Int32).toInt64 &&& 63)))), (5, .long (v6_2 ||| ((1 : Int64) <<< ((v6_4 : Int32).toInt64 &&& 63)))), (0, .long p0)]) hx hb dX1_rootOf_32 hl (k := 3) rfl (by rfl) (by decide) rfl (fun ls hl => ?_)
          refine lv_goto (tgt := 6) hx hb dX1_rootOf_35 (by decide) ?_
          exact ih6 (v6_2 ||| ((1 : Int64) <<< ((v6_4 : Int32).toInt64 &&& 63))) (v6_4 + (-1)) ls _ _ (lv_sub hl [3, 1, 0] rfl) hS (hR.trans (by simp only [g_X1_rootOf_6, if_neg c8, if_neg c25])) (mu_dn (by decide) c8 hmu6)
  exact J6 (((30 : Int32).toInt - (0 : Int32).toInt + 1).toNat + 1) 0 30 ls _ _ (lv_sub hl [2, 1, 0] rfl) hS (hR.trans (by simp only [f_X1_rootOf])) (Nat.lt_succ_self _)

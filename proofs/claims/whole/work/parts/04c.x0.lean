theorem range_in {a lo hi : Int32} {u : Unit} (h : f_X0_checkRange a lo hi = .ok u) : lo.toInt ≤ a.toInt ∧ a.toInt ≤ hi.toInt := by
  unfold f_X0_checkRange g_X0_checkRange_10 at h
  split at h
  · cases h
  · rename_i c1
    split at h
    · rename_i c2
      rw [fa_lt] at c1
      rw [fa_le] at c2
      exact ⟨by omega, c2⟩
    · cases h
theorem nz_of_ge1 {a : Int32} (h : 1 ≤ a.toInt) : ¬ ((a : Int32).toInt64) = 0 := by
  intro e
  have h2 := congrArg Int64.toInt e
  rw [Int32.toInt_toInt64, L0] at h2
  omega
theorem range1_nz {a hi : Int32} {u : Unit} (h : f_X0_checkRange a 1 hi = .ok u) : ¬ ((a : Int32).toInt64) = 0 := nz_of_ge1 (by have := (range_in h).1; rw [i1] at this; exact this)
theorem digitBase_nz {a : Int32} {u : Unit} (h : f_X0_checkDigitBase a = .ok u) : ¬ ((a : Int32).toInt64) = 0 := by
  unfold f_X0_checkDigitBase at h
  split at h
  · cases h
  · rename_i h2
    have := (range_in h2).1
    have e : (2 : Int32).toInt = 2 := by decide
    rw [e] at this
    exact nz_of_ge1 (by omega)
theorem rootLength_go (p : Int32) : ∀ (n : Nat) (v : Int32), 0 ≤ v.toInt → v.toInt ≤ 6 → ((6 : Int32).toInt - v.toInt).toNat < n → 0 ≤ (g_X0_rootLength_2 p n v).toInt ∧ (g_X0_rootLength_2 p n v).toInt ≤ 6 := by
  have e6 : (6 : Int32).toInt = 6 := by decide
  intro n
  induction n with
  | zero => intro v h1 h2 h; exact absurd h (Nat.not_lt_zero _)
  | succ n ih =>
    intro v h1 h2 h
    rw [g_X0_rootLength_2]
    by_cases c1 : (6 : Int32) ≤ v
    · rw [if_pos c1]; exact ⟨h1, h2⟩
    · rw [if_neg c1]
      by_cases c2 : (p >>> ((2 * v) &&& 31) : Int32) ≤ 0
      · rw [if_pos c2]; exact ⟨h1, h2⟩
      · rw [if_neg c2]
        have hi := inc_toInt c1
        have c3 := c1
        rw [fa_le, e6] at c3
        exact ih _ (by omega) (by omega) (mu_up c1 h)
theorem rootLength_rng (p : Int32) : 0 ≤ (f_X0_rootLength p).toInt ∧ (f_X0_rootLength p).toInt ≤ 6 := by
  have e6 : (6 : Int32).toInt = 6 := by decide
  exact rootLength_go p _ 0 (by decide) (by decide) (Nat.lt_succ_self _)
theorem rl_pre (p : Int32) : -2147483648 < (-(54 - (f_X0_rootLength p)) : Int32).toInt := by
  have h := rootLength_rng p
  have e : (54 : Int32).toInt = 54 := by decide
  have e1 : (54 - f_X0_rootLength p).toInt = 54 - (f_X0_rootLength p).toInt := by rw [fb_subI (by omega) (by omega), e]
  rw [fb_negI (by omega), e1]
  omega
theorem ra_pre {a : Int32} {u : Unit} (h : f_X0_checkRange a 0 16 = .ok u) : -2147483648 < (-a : Int32).toInt := by
  have h := range_in h
  have e : (16 : Int32).toInt = 16 := by decide
  rw [i0, e] at h
  rw [fb_negI (by omega)]
  omega

def f_X0_nearestRoot (p0 : Int32) : Int64 := (((f_X0_floorRoot p0 (54 - (f_X0_rootLength p0))) + 1) >>> ((1 : Int32).toInt64 &&& 63))
set_option maxHeartbeats 4000000 in
set_option maxRecDepth 100000 in
theorem met_X0_nearestRoot (l : Launch) (p0 : Int32) : Met l yX0_nearestRoot wsX0_nearestRoot ({ frames := 1, cells := 0, slots := 0, locals := 29 } : Room) (va_Pc [.int p0] (fun U => True)) (va_Ql (fun (r : Int64) (u : Unit) => f_X0_nearestRoot p0 = r) (fun _ _ => True) (fun _ => False)) 0 0 (fun _ => False) := by
  refine Met.ofW (cc := cX0_nearestRoot) (maxL := 1) (ret := (some .long)) (by decide) rfl ?_
  intro p e s m args below meth c s₁ B hml hv
  obtain ⟨rfl, -⟩ := hv
  have hx := B.exec
  have hb := B.bytes
  have hr := B.returns
  have hts := atoms_spec (ws := wsX0_nearestRoot) B.pre
  have hown : s.vm.findClass RX0 = some m.cls := findClass_of_methodNamed B.named
  have hlocks := B.notSynchronized
  have hS : va_S (fun _ => False) s.heap s.heap [] := va_S.rf
  have hl := lv_entry ([.int p0]) (n := 1) (Nat.le_of_ble_eq_true rfl)
  rw [lg_entry_eq]
  generalize (lg_sl ([.int p0]) ++ List.replicate (1 - (lg_sl ([.int p0])).length) Slot.unset).toArray = ls at hl ⊢
  have hl : lv_has ls 1 [(0, .int p0)] := hl
  obtain ⟨Q, hQ⟩ : ∃ Q : State → Prop, Q = (MQ below (va_Ql (fun (r : Int64) (u : Unit) => f_X0_nearestRoot p0 = r) (fun _ _ => True) (fun _ => False)) ([.int p0] : List Value).toArray s 0 0 (fun _ => False)) := ⟨_, rfl⟩
  rw [← hQ]
  have hR : f_X0_nearestRoot p0 = f_X0_nearestRoot p0 := rfl
  refine lv_iload_n hx hb dX0_nearestRoot_0 rfl (lv_at hl 0 rfl) ?_
  refine lv_bipush (v := 54) hx hb dX0_nearestRoot_1 (by decide) ?_
  refine lv_iload_n hx hb dX0_nearestRoot_3 rfl (lv_at hl 0 rfl) ?_
  refine va_calli (va_runS (As := [.int p0]) (rest := [.int 54, .int p0]) ⟨hx, hb, hml, hown, hts⟩ (met_X0_rootLength l p0) (va_cwS 1 hts gX0_nearestRoot_X0_rootLength rfl rfl rfl (by decide +kernel) ⟨Nat.le_of_ble_eq_true rfl, Nat.le_of_ble_eq_true rfl⟩) ⟨fun a U g mk q => q, fun U hU hW => ⟨rfl, trivial⟩⟩ rfl rfl hl.1 rfl (lv_room (Nat.le_of_ble_eq_true rfl)) dX0_nearestRoot_4 ⟨Nat.le_of_ble_eq_true rfl, Nat.le_of_ble_eq_true rfl⟩) hS (fun q _ h => h.elim) (fun q h => h.elim) (fun r4 u4 t H locs ht hvm hw4 hB hz hk hS => ?_)
  subst hw4
  refine lv_isub hx hb dX0_nearestRoot_7 ?_
  refine va_calll (va_runS (As := [.int p0, .int (54 - (f_X0_rootLength p0))]) (rest := []) ⟨hx, hb, hml, hown, hts⟩ (met_X0_floorRoot l p0 (54 - (f_X0_rootLength p0)) (rl_pre p0)) (va_cwS 2 hts gX0_nearestRoot_X0_floorRoot rfl rfl rfl (by decide +kernel) ⟨Nat.le_of_ble_eq_true rfl, Nat.le_of_ble_eq_true rfl⟩) ⟨fun a U g mk q => q, fun U hU hW => ⟨rfl, trivial⟩⟩ rfl rfl hl.1 rfl (lv_room (Nat.le_of_ble_eq_true rfl)) dX0_nearestRoot_8 ⟨Nat.le_of_ble_eq_true rfl, Nat.le_of_ble_eq_true rfl⟩) hS (fun q _ h => h.elim) (fun q h => h.elim) (fun r8 u8 t H locs ht hvm hw8 hB hz hk hS => ?_)
  subst hw8
  refine lv_lconst (v := 1) hx hb dX0_nearestRoot_11 rfl ?_
  refine lv_ladd hx hb dX0_nearestRoot_12 ?_
  refine lv_iconst (v := 1) hx hb dX0_nearestRoot_13 (by decide) ?_
  refine lv_lshr hx hb dX0_nearestRoot_14 rfl ?_
  rw [hQ]
  exact W.lret (v := (((f_X0_floorRoot p0 (54 - (f_X0_rootLength p0))) + 1) >>> ((1 : Int32).toInt64 &&& 63))) hx hb hr (fun t ht hW => ⟨⟨(((f_X0_floorRoot p0 (54 - (f_X0_rootLength p0))) + 1) >>> ((1 : Int32).toInt64 &&& 63)), (), rfl, (hR.trans (by simp only [f_X0_nearestRoot])), trivial⟩, hS.F ht⟩) hS.2.2 dX0_nearestRoot_15

def f_X0_rootExponent (p0 : Int32) : Int32 := ((f_X0_rootLength p0) - 53)
set_option maxHeartbeats 4000000 in
set_option maxRecDepth 100000 in
theorem met_X0_rootExponent (l : Launch) (p0 : Int32) : Met l yX0_rootExponent wsX0_rootExponent ({ frames := 1, cells := 0, slots := 0, locals := 21 } : Room) (va_Pc [.int p0] (fun U => True)) (va_Qi (fun (r : Int32) (u : Unit) => f_X0_rootExponent p0 = r) (fun _ _ => True) (fun _ => False)) 0 0 (fun _ => False) := by
  refine Met.ofW (cc := cX0_rootExponent) (maxL := 1) (ret := (some .int)) (by decide) rfl ?_
  intro p e s m args below meth c s₁ B hml hv
  obtain ⟨rfl, -⟩ := hv
  have hx := B.exec
  have hb := B.bytes
  have hr := B.returns
  have hts := atoms_spec (ws := wsX0_rootExponent) B.pre
  have hown : s.vm.findClass RX0 = some m.cls := findClass_of_methodNamed B.named
  have hlocks := B.notSynchronized
  have hS : va_S (fun _ => False) s.heap s.heap [] := va_S.rf
  have hl := lv_entry ([.int p0]) (n := 1) (Nat.le_of_ble_eq_true rfl)
  rw [lg_entry_eq]
  generalize (lg_sl ([.int p0]) ++ List.replicate (1 - (lg_sl ([.int p0])).length) Slot.unset).toArray = ls at hl ⊢
  have hl : lv_has ls 1 [(0, .int p0)] := hl
  obtain ⟨Q, hQ⟩ : ∃ Q : State → Prop, Q = (MQ below (va_Qi (fun (r : Int32) (u : Unit) => f_X0_rootExponent p0 = r) (fun _ _ => True) (fun _ => False)) ([.int p0] : List Value).toArray s 0 0 (fun _ => False)) := ⟨_, rfl⟩
  rw [← hQ]
  have hR : f_X0_rootExponent p0 = f_X0_rootExponent p0 := rfl
  refine lv_iload_n hx hb dX0_rootExponent_0 rfl (lv_at hl 0 rfl) ?_
  refine va_calli (va_runS (As := [.int p0]) (rest := []) ⟨hx, hb, hml, hown, hts⟩ (met_X0_rootLength l p0) (va_cwS 1 hts gX0_rootExponent_X0_rootLength rfl rfl rfl (by decide +kernel) ⟨Nat.le_of_ble_eq_true rfl, Nat.le_of_ble_eq_true rfl⟩) ⟨fun a U g mk q => q, fun U hU hW => ⟨rfl, trivial⟩⟩ rfl rfl hl.1 rfl (lv_room (Nat.le_of_ble_eq_true rfl)) dX0_rootExponent_1 ⟨Nat.le_of_ble_eq_true rfl, Nat.le_of_ble_eq_true rfl⟩) hS (fun q _ h => h.elim) (fun q h => h.elim) (fun r1 u1 t H locs ht hvm hw1 hB hz hk hS => ?_)
  subst hw1
  refine lv_bipush (v := 53) hx hb dX0_rootExponent_4 (by decide) ?_
  refine lv_isub hx hb dX0_rootExponent_6 ?_
  rw [hQ]
  exact W.iret (v := ((f_X0_rootLength p0) - 53)) hx hb hr (fun t ht hW => ⟨⟨((f_X0_rootLength p0) - 53), (), rfl, (hR.trans (by simp only [f_X0_rootExponent])), trivial⟩, hS.F ht⟩) hS.2.2 dX0_rootExponent_7

def f_X0_nearestRootBits (p0 : Int32) : Int64 := (if (p0 : Int32) = 0 then 0 else (f_X0_pack 0 (f_X0_nearestRoot p0) (f_X0_rootExponent p0)))
set_option maxHeartbeats 4000000 in
set_option maxRecDepth 100000 in
theorem met_X0_nearestRootBits (l : Launch) (p0 : Int32) : Met l yX0_nearestRootBits wsX0_nearestRootBits ({ frames := 2, cells := 0, slots := 0, locals := 49 } : Room) (va_Pc [.int p0] (fun U => True)) (va_Ql (fun (r : Int64) (u : Unit) => f_X0_nearestRootBits p0 = r) (fun _ _ => True) (fun _ => False)) 0 0 (fun _ => False) := by
  refine Met.ofW (cc := cX0_nearestRootBits) (maxL := 1) (ret := (some .long)) (by decide) rfl ?_
  intro p e s m args below meth c s₁ B hml hv
  obtain ⟨rfl, -⟩ := hv
  have hx := B.exec
  have hb := B.bytes
  have hr := B.returns
  have hts := atoms_spec (ws := wsX0_nearestRootBits) B.pre
  have hown : s.vm.findClass RX0 = some m.cls := findClass_of_methodNamed B.named
  have hlocks := B.notSynchronized
  have hS : va_S (fun _ => False) s.heap s.heap [] := va_S.rf
  have hl := lv_entry ([.int p0]) (n := 1) (Nat.le_of_ble_eq_true rfl)
  rw [lg_entry_eq]
  generalize (lg_sl ([.int p0]) ++ List.replicate (1 - (lg_sl ([.int p0])).length) Slot.unset).toArray = ls at hl ⊢
  have hl : lv_has ls 1 [(0, .int p0)] := hl
  obtain ⟨Q, hQ⟩ : ∃ Q : State → Prop, Q = (MQ below (va_Ql (fun (r : Int64) (u : Unit) => f_X0_nearestRootBits p0 = r) (fun _ _ => True) (fun _ => False)) ([.int p0] : List Value).toArray s 0 0 (fun _ => False)) := ⟨_, rfl⟩
  rw [← hQ]
  have hR : f_X0_nearestRootBits p0 = f_X0_nearestRootBits p0 := rfl
  refine lv_iload_n hx hb dX0_nearestRootBits_0 rfl (lv_at hl 0 rfl) ?_
  refine lv_if_ne (tgt := 8) hx hb dX0_nearestRootBits_1 (by decide) (fun c1 => ?_) (fun c1 => ?_)
  · skip
    refine lv_iconst (v := 0) hx hb dX0_nearestRootBits_8 (by decide) ?_
    refine lv_iload_n hx hb dX0_nearestRootBits_9 rfl (lv_at hl 0 rfl) ?_
    refine va_calll (va_runS (As := [.int p0]) (rest := [.int 0]) ⟨hx, hb, hml, hown, hts⟩ (met_X0_nearestRoot l p0) (va_cwS 1 hts gX0_nearestRootBits_X0_nearestRoot rfl rfl rfl (by decide +kernel) ⟨Nat.le_of_ble_eq_true rfl, Nat.le_of_ble_eq_true rfl⟩) ⟨fun a U g mk q => q, fun U hU hW => ⟨rfl, trivial⟩⟩ rfl rfl hl.1 rfl (lv_room (Nat.le_of_ble_eq_true rfl)) dX0_nearestRootBits_10 ⟨Nat.le_of_ble_eq_true rfl, Nat.le_of_ble_eq_true rfl⟩) hS (fun q _ h => h.elim) (fun q h => h.elim) (fun r10 u10 t H locs ht hvm hw10 hB hz hk hS => ?_)
    subst hw10
    refine lv_iload_n hx hb dX0_nearestRootBits_13 rfl (lv_at hl 0 rfl) ?_
    refine va_calli (va_runS (As := [.int p0]) (rest := [.long (f_X0_nearestRoot p0), .int 0]) ⟨hx, hb, hml, hown, hts⟩ (met_X0_rootExponent l p0) (va_cwS 1 hts gX0_nearestRootBits_X0_rootExponent rfl rfl rfl (by decide +kernel) ⟨Nat.le_of_ble_eq_true rfl, Nat.le_of_ble_eq_true rfl⟩) ⟨fun a U g mk q => q, fun U hU hW => ⟨rfl, trivial⟩⟩ rfl rfl hl.1 rfl (lv_room (Nat.le_of_ble_eq_true rfl)) dX0_nearestRootBits_14 ⟨Nat.le_of_ble_eq_true rfl, Nat.le_of_ble_eq_true rfl⟩) hS (fun q _ h => h.elim) (fun q h => h.elim) (fun r14 u14 t H locs ht hvm hw14 hB hz hk hS => ?_)
    subst hw14
    refine va_calll (va_runS (As := [.int 0, .long (f_X0_nearestRoot p0), .int (f_X0_rootExponent p0)]) (rest := []) ⟨hx, hb, hml, hown, hts⟩ (met_X0_pack l 0 (f_X0_nearestRoot p0) (f_X0_rootExponent p0)) (va_cwS 3 hts gX0_nearestRootBits_X0_pack rfl rfl rfl (by decide +kernel) ⟨Nat.le_of_ble_eq_true rfl, Nat.le_of_ble_eq_true rfl⟩) ⟨fun a U g mk q => q, fun U hU hW => ⟨rfl, trivial⟩⟩ rfl rfl hl.1 rfl (lv_room (Nat.le_of_ble_eq_true rfl)) dX0_nearestRootBits_17 ⟨Nat.le_of_ble_eq_true rfl, Nat.le_of_ble_eq_true rfl⟩) hS (fun q _ h => h.elim) (fun q h => h.elim) (fun r17 u17 t H locs ht hvm hw17 hB hz hk hS => ?_)
    subst hw17
    rw [hQ]
    exact W.lret (v := (f_X0_pack 0 (f_X0_nearestRoot p0) (f_X0_rootExponent p0))) hx hb hr (fun t ht hW => ⟨⟨(f_X0_pack 0 (f_X0_nearestRoot p0) (f_X0_rootExponent p0)), (), rfl, (hR.trans (by simp only [f_X0_nearestRootBits, if_neg c1])), trivial⟩, hS.F ht⟩) hS.2.2 dX0_nearestRootBits_20
  · skip
    refine lv_lconst (v := 0) hx hb dX0_nearestRootBits_4 rfl ?_
    refine lv_goto (tgt := 20) hx hb dX0_nearestRootBits_5 (by decide) ?_
    rw [hQ]
    exact W.lret (v := 0) hx hb hr (fun t ht hW => ⟨⟨0, (), rfl, (hR.trans (by simp only [f_X0_nearestRootBits, if_pos c1])), trivial⟩, hS.F ht⟩) hS.2.2 dX0_nearestRootBits_20

def f_X0_squareLow (p0 : Int64) : Int64 := ((p0 * p0) &&& 18014398509481983)
set_option maxHeartbeats 4000000 in
set_option maxRecDepth 100000 in
theorem met_X0_squareLow (l : Launch) (p0 : Int64) : Met l yX0_squareLow wsX0_squareLow ({ frames := 0, cells := 0, slots := 0, locals := 0 } : Room) (va_Pc [.long p0] (fun U => True)) (va_Ql (fun (r : Int64) (u : Unit) => f_X0_squareLow p0 = r) (fun _ _ => True) (fun _ => False)) 0 0 (fun _ => False) := by
  refine Met.ofW (cc := cX0_squareLow) (maxL := 2) (ret := (some .long)) (by decide) rfl ?_
  intro p e s m args below meth c s₁ B hml hv
  obtain ⟨rfl, -⟩ := hv
  have hx := B.exec
  have hb := B.bytes
  have hr := B.returns
  have hts := atoms_spec (ws := wsX0_squareLow) B.pre
  have hown : s.vm.findClass RX0 = some m.cls := findClass_of_methodNamed B.named
  have hlocks := B.notSynchronized
  have hS : va_S (fun _ => False) s.heap s.heap [] := va_S.rf
  have hl := lv_entry ([.long p0]) (n := 2) (Nat.le_of_ble_eq_true rfl)
  rw [lg_entry_eq]
  generalize (lg_sl ([.long p0]) ++ List.replicate (2 - (lg_sl ([.long p0])).length) Slot.unset).toArray = ls at hl ⊢
  have hl : lv_has ls 2 [(0, .long p0)] := hl
  obtain ⟨Q, hQ⟩ : ∃ Q : State → Prop, Q = (MQ below (va_Ql (fun (r : Int64) (u : Unit) => f_X0_squareLow p0 = r) (fun _ _ => True) (fun _ => False)) ([.long p0] : List Value).toArray s 0 0 (fun _ => False)) := ⟨_, rfl⟩
  rw [← hQ]
  have hR : f_X0_squareLow p0 = f_X0_squareLow p0 := rfl
  refine lv_lload_n hx hb dX0_squareLow_0 rfl (lv_at hl 0 rfl) ?_
  refine lv_lload_n hx hb dX0_squareLow_1 rfl (lv_at hl 0 rfl) ?_
  refine lv_lmul hx hb dX0_squareLow_2 ?_
  refine lv_ldc2 (v := 18014398509481983) hx hb hown (hts (.constantLong RX0 261 18014398509481983) (by decide +kernel)) dX0_squareLow_3 ?_
  refine lv_land hx hb dX0_squareLow_6 ?_
  rw [hQ]
  exact W.lret (v := ((p0 * p0) &&& 18014398509481983)) hx hb hr (fun t ht hW => ⟨⟨((p0 * p0) &&& 18014398509481983), (), rfl, (hR.trans (by simp only [f_X0_squareLow])), trivial⟩, hS.F ht⟩) hS.2.2 dX0_squareLow_7

def g_X0_squareHigh_33n (p0 : Int64) (x33 : Int64) : Int64 := ((((p0 >>> ((27 : Int32).toInt64 &&& 63)) * (p0 >>> ((27 : Int32).toInt64 &&& 63))) + (((p0 >>> ((27 : Int32).toInt64 &&& 63)) * (p0 &&& 134217727)) >>> ((26 : Int32).toInt64 &&& 63))) + (x33 >>> ((54 : Int32).toInt64 &&& 63)))
def f_X0_squareHigh (p0 : Int64) : Int64 := (g_X0_squareHigh_33n p0 (((p0 &&& 134217727) * (p0 &&& 134217727)) + ((((p0 >>> ((27 : Int32).toInt64 &&& 63)) * (p0 &&& 134217727)) &&& 67108863) <<< ((28 : Int32).toInt64 &&& 63))))
set_option maxHeartbeats 4000000 in
set_option maxRecDepth 100000 in
theorem met_X0_squareHigh (l : Launch) (p0 : Int64) : Met l yX0_squareHigh wsX0_squareHigh ({ frames := 0, cells := 0, slots := 0, locals := 0 } : Room) (va_Pc [.long p0] (fun U => True)) (va_Ql (fun (r : Int64) (u : Unit) => f_X0_squareHigh p0 = r) (fun _ _ => True) (fun _ => False)) 0 0 (fun _ => False) := by
  refine Met.ofW (cc := cX0_squareHigh) (maxL := 10) (ret := (some .long)) (by decide) rfl ?_
  intro p e s m args below meth c s₁ B hml hv
  obtain ⟨rfl, -⟩ := hv
  have hx := B.exec
  have hb := B.bytes
  have hr := B.returns
  have hts := atoms_spec (ws := wsX0_squareHigh) B.pre
  have hown : s.vm.findClass RX0 = some m.cls := findClass_of_methodNamed B.named
  have hlocks := B.notSynchronized
  have hS : va_S (fun _ => False) s.heap s.heap [] := va_S.rf
  have hl := lv_entry ([.long p0]) (n := 10) (Nat.le_of_ble_eq_true rfl)
  rw [lg_entry_eq]
  generalize (lg_sl ([.long p0]) ++ List.replicate (10 - (lg_sl ([.long p0])).length) Slot.unset).toArray = ls at hl ⊢
  have hl : lv_has ls 10 [(0, .long p0)] := hl
  obtain ⟨Q, hQ⟩ : ∃ Q : State → Prop, Q = (MQ below (va_Ql (fun (r : Int64) (u : Unit) => f_X0_squareHigh p0 = r) (fun _ _ => True) (fun _ => False)) ([.long p0] : List Value).toArray s 0 0 (fun _ => False)) := ⟨_, rfl⟩
  rw [← hQ]
  have hR : f_X0_squareHigh p0 = f_X0_squareHigh p0 := rfl
  refine lv_lload_n hx hb dX0_squareHigh_0 rfl (lv_at hl 0 rfl) ?_
  refine lv_bipush (v := 27) hx hb dX0_squareHigh_1 (by decide) ?_
  refine lv_lshr hx hb dX0_squareHigh_3 rfl ?_
  refine lv_lstore_n (lv' := [(2, .long (p0 >>> ((27 : Int32).toInt64 &&& 63))), (0, .long p0)]) hx hb dX0_squareHigh_4 rfl hl (by decide) rfl (fun ls hl => ?_)
  refine lv_lload_n hx hb dX0_squareHigh_5 rfl (lv_at hl 1 rfl) ?_
  refine lv_ldc2 (v := 134217727) hx hb hown (hts (.constantLong RX0 263 134217727) (by decide +kernel)) dX0_squareHigh_6 ?_
  refine lv_land hx hb dX0_squareHigh_9 ?_
  refine lv_lstore (lv' := [(4, .long (p0 &&& 134217727)), (2, .long (p0 >>> ((27 : Int32).toInt64 &&& 63))), (0, .long p0)]) hx hb dX0_squareHigh_10 hl (by decide) rfl (fun ls hl => ?_)
  refine lv_lload_n hx hb dX0_squareHigh_12 rfl (lv_at hl 1 rfl) ?_
  refine lv_lload hx hb dX0_squareHigh_13 (lv_at hl 0 rfl) ?_
  refine lv_lmul hx hb dX0_squareHigh_15 ?_
  refine lv_lstore (lv' := [(6, .long ((p0 >>> ((27 : Int32).toInt64 &&& 63)) * (p0 &&& 134217727))), (4, .long (p0 &&& 134217727)), (2, .long (p0 >>> ((27 : Int32).toInt64 &&& 63))), (0, .long p0)]) hx hb dX0_squareHigh_16 hl (by decide) rfl (fun ls hl => ?_)
  refine lv_lload hx hb dX0_squareHigh_18 (lv_at hl 1 rfl) ?_
  refine lv_lload hx hb dX0_squareHigh_20 (lv_at hl 1 rfl) ?_
  refine lv_lmul hx hb dX0_squareHigh_22 ?_
  refine lv_lload hx hb dX0_squareHigh_23 (lv_at hl 0 rfl) ?_
  refine lv_ldc2 (v := 67108863) hx hb hown (hts (.constantLong RX0 265 67108863) (by decide +kernel)) dX0_squareHigh_25 ?_
  refine lv_land hx hb dX0_squareHigh_28 ?_
  refine lv_bipush (v := 28) hx hb dX0_squareHigh_29 (by decide) ?_
  refine lv_lshl hx hb dX0_squareHigh_31 rfl ?_
  refine lv_ladd hx hb dX0_squareHigh_32 ?_
  refine lv_topl (fun x33 ex33 => ?_)
  refine lv_lstore (lv' := [(8, .long x33), (6, .long ((p0 >>> ((27 : Int32).toInt64 &&& 63)) * (p0 &&& 134217727))), (4, .long (p0 &&& 134217727)), (2, .long (p0 >>> ((27 : Int32).toInt64 &&& 63))), (0, .long p0)]) hx hb dX0_squareHigh_33 hl (by decide) rfl (fun ls hl => ?_)
  have hR : f_X0_squareHigh p0 = g_X0_squareHigh_33n p0 x33 := hR.trans (by simp only [f_X0_squareHigh, ex33])
  refine lv_lload_n hx hb dX0_squareHigh_35 rfl (lv_at hl 3 rfl) ?_
  refine lv_lload_n hx hb dX0_squareHigh_36 rfl (lv_at hl 3 rfl) ?_
  refine lv_lmul hx hb dX0_squareHigh_37 ?_
  refine lv_lload hx hb dX0_squareHigh_38 (lv_at hl 1 rfl) ?_
  refine lv_bipush (v := 26) hx hb dX0_squareHigh_40 (by decide) ?_
  refine lv_lshr hx hb dX0_squareHigh_42 rfl ?_
  refine lv_ladd hx hb dX0_squareHigh_43 ?_
  refine lv_lload hx hb dX0_squareHigh_44 (lv_at hl 0 rfl) ?_
  refine lv_bipush (v := 54) hx hb dX0_squareHigh_46 (by decide) ?_
  refine lv_lshr hx hb dX0_squareHigh_48 rfl ?_
  refine lv_ladd hx hb dX0_squareHigh_49 ?_
  rw [hQ]
  exact W.lret (v := ((((p0 >>> ((27 : Int32).toInt64 &&& 63)) * (p0 >>> ((27 : Int32).toInt64 &&& 63))) + (((p0 >>> ((27 : Int32).toInt64 &&& 63)) * (p0 &&& 134217727)) >>> ((26 : Int32).toInt64 &&& 63))) + (x33 >>> ((54 : Int32).toInt64 &&& 63)))) hx hb hr (fun t ht hW => ⟨⟨((((p0 >>> ((27 : Int32).toInt64 &&& 63)) * (p0 >>> ((27 : Int32).toInt64 &&& 63))) + (((p0 >>> ((27 : Int32).toInt64 &&& 63)) * (p0 &&& 134217727)) >>> ((26 : Int32).toInt64 &&& 63))) + (x33 >>> ((54 : Int32).toInt64 &&& 63))), (), rfl, (hR.trans (by simp only [g_X0_squareHigh_33n])), trivial⟩, hS.F ht⟩) hS.2.2 dX0_squareHigh_50

def g_X0_nearestSquareBits_113 (p0 : Int64) (p1 : Int32) (w45_0 : Int32) (v113_9 : Int64) : Int64 := (f_X0_pack 0 v113_9 ((2 * (p1 - (f_X0_doublings p0))) + w45_0))
def g_X0_nearestSquareBits_107 (p0 : Int64) (p1 : Int32) (w45_0 : Int32) (x61 : Int64) : Int64 := (g_X0_nearestSquareBits_113 p0 p1 w45_0 (x61 + 1))
def g_X0_nearestSquareBits_61n (p0 : Int64) (p1 : Int32) (x27 : Int64) (w45_0 : Int32) (x61 : Int64) : Int64 := (if (((1 : Int64) <<< (((w45_0 - 1) : Int32).toInt64 &&& 63)) : Int64) < (x27 &&& (((1 : Int64) <<< ((w45_0 : Int32).toInt64 &&& 63)) - 1)) then (g_X0_nearestSquareBits_107 p0 p1 w45_0 x61) else (if ((x27 &&& (((1 : Int64) <<< ((w45_0 : Int32).toInt64 &&& 63)) - 1)) : Int64) = ((1 : Int64) <<< (((w45_0 - 1) : Int32).toInt64 &&& 63)) then (if ((x61 &&& 1) : Int64) = 1 then (g_X0_nearestSquareBits_107 p0 p1 w45_0 x61) else (g_X0_nearestSquareBits_113 p0 p1 w45_0 x61)) else (g_X0_nearestSquareBits_113 p0 p1 w45_0 x61)))
def g_X0_nearestSquareBits_45 (p0 : Int64) (p1 : Int32) (x19 : Int64) (x27 : Int64) (w45_0 : Int32) : Int64 := (g_X0_nearestSquareBits_61n p0 p1 x27 w45_0 ((x19 <<< (((54 - w45_0) : Int32).toInt64 &&& 63)) + (x27 >>> ((w45_0 : Int32).toInt64 &&& 63))))
def g_X0_nearestSquareBits_27n (p0 : Int64) (p1 : Int32) (x19 : Int64) (x27 : Int64) : Int64 := (if (2251799813685248 : Int64) ≤ x19 then (g_X0_nearestSquareBits_45 p0 p1 x19 x27 53) else (g_X0_nearestSquareBits_45 p0 p1 x19 x27 52))
def g_X0_nearestSquareBits_19n (p0 : Int64) (p1 : Int32) (x19 : Int64) : Int64 := (g_X0_nearestSquareBits_27n p0 p1 x19 (f_X0_squareLow (p0 <<< (((f_X0_doublings p0) : Int32).toInt64 &&& 63))))
def f_X0_nearestSquareBits (p0 : Int64) (p1 : Int32) : Int64 := (if (p0 : Int64) = 0 then 0 else (g_X0_nearestSquareBits_19n p0 p1 (f_X0_squareHigh (p0 <<< (((f_X0_doublings p0) : Int32).toInt64 &&& 63)))))
set_option maxHeartbeats 4000000 in
set_option maxRecDepth 100000 in
theorem met_X0_nearestSquareBits (l : Launch) (p0 : Int64) (p1 : Int32) : Met l yX0_nearestSquareBits wsX0_nearestSquareBits ({ frames := 1, cells := 0, slots := 0, locals := 29 } : Room) (va_Pc [.long p0, .int p1] (fun U => True)) (va_Ql (fun (r : Int64) (u : Unit) => f_X0_nearestSquareBits p0 p1 = r) (fun _ _ => True) (fun _ => False)) 0 0 (fun _ => False) := by
  refine Met.ofW (cc := cX0_nearestSquareBits) (maxL := 15) (ret := (some .long)) (by decide) rfl ?_
  intro p e s m args below meth c s₁ B hml hv
  obtain ⟨rfl, -⟩ := hv
  have hx := B.exec
  have hb := B.bytes
  have hr := B.returns
  have hts := atoms_spec (ws := wsX0_nearestSquareBits) B.pre
  have hown : s.vm.findClass RX0 = some m.cls := findClass_of_methodNamed B.named
  have hlocks := B.notSynchronized
  have hS : va_S (fun _ => False) s.heap s.heap [] := va_S.rf
  have hl := lv_entry ([.long p0, .int p1]) (n := 15) (Nat.le_of_ble_eq_true rfl)
  rw [lg_entry_eq]
  generalize (lg_sl ([.long p0, .int p1]) ++ List.replicate (15 - (lg_sl ([.long p0, .int p1])).length) Slot.unset).toArray = ls at hl ⊢
  have hl : lv_has ls 15 [(0, .long p0), (2, .int p1)] := hl
  obtain ⟨Q, hQ⟩ : ∃ Q : State → Prop, Q = (MQ below (va_Ql (fun (r : Int64) (u : Unit) => f_X0_nearestSquareBits p0 p1 = r) (fun _ _ => True) (fun _ => False)) ([.long p0, .int p1] : List Value).toArray s 0 0 (fun _ => False)) := ⟨_, rfl⟩
  rw [← hQ]
  have hR : f_X0_nearestSquareBits p0 p1 = f_X0_nearestSquareBits p0 p1 := rfl
  refine lv_lload_n hx hb dX0_nearestSquareBits_0 rfl (lv_at hl 0 rfl) ?_
  refine lv_lconst (v := 0) hx hb dX0_nearestSquareBits_1 rfl ?_
  refine W.lcmp hx hb dX0_nearestSquareBits_2 ?_
  refine lv_if_ne (tgt := 8) hx hb dX0_nearestSquareBits_3 (by decide) (fun c2 => ?_) (fun c2 => ?_)
  · skip
    have c2 : ¬ ((p0 : Int64) = 0) := fun h => c2 ((lg_cmp_eq _ _).mpr h)
    refine lv_lload_n hx hb dX0_nearestSquareBits_8 rfl (lv_at hl 0 rfl) ?_
    refine va_calli (va_runS (As := [.long p0]) (rest := []) ⟨hx, hb, hml, hown, hts⟩ (met_X0_doublings l p0) (va_cwS 1 hts gX0_nearestSquareBits_X0_doublings rfl rfl rfl (by decide +kernel) ⟨Nat.le_of_ble_eq_true rfl, Nat.le_of_ble_eq_true rfl⟩) ⟨fun a U g mk q => q, fun U hU hW => ⟨rfl, trivial⟩⟩ rfl rfl hl.1 rfl (lv_room (Nat.le_of_ble_eq_true rfl)) dX0_nearestSquareBits_9 ⟨Nat.le_of_ble_eq_true rfl, Nat.le_of_ble_eq_true rfl⟩) hS (fun q _ h => h.elim) (fun q h => h.elim) (fun r9 u9 t H locs ht hvm hw9 hB hz hk hS => ?_)
    subst hw9
    refine lv_istore_n (lv' := [(3, .int (f_X0_doublings p0)), (0, .long p0), (2, .int p1)]) hx hb dX0_nearestSquareBits_12 rfl hl (by decide) rfl (fun ls hl => ?_)
    refine lv_lload_n hx hb dX0_nearestSquareBits_13 rfl (lv_at hl 1 rfl) ?_
    refine lv_iload_n hx hb dX0_nearestSquareBits_14 rfl (lv_at hl 0 rfl) ?_
    refine lv_lshl hx hb dX0_nearestSquareBits_15 rfl ?_
    refine va_calll (va_runS (As := [.long (p0 <<< (((f_X0_doublings p0) : Int32).toInt64 &&& 63))]) (rest := []) ⟨hx, hb, hml, hown, hts⟩ (met_X0_squareHigh l (p0 <<< (((f_X0_doublings p0) : Int32).toInt64 &&& 63))) (va_cwS 1 hts gX0_nearestSquareBits_X0_squareHigh rfl rfl rfl (by decide +kernel) ⟨Nat.le_of_ble_eq_true rfl, Nat.le_of_ble_eq_true rfl⟩) ⟨fun a U g mk q => q, fun U hU hW => ⟨rfl, trivial⟩⟩ rfl rfl hl.1 rfl (lv_room (Nat.le_of_ble_eq_true rfl)) dX0_nearestSquareBits_16 ⟨Nat.le_of_ble_eq_true rfl, Nat.le_of_ble_eq_true rfl⟩) hS (fun q _ h => h.elim) (fun q h => h.elim) (fun r16 u16 t H locs ht hvm hw16 hB hz hk hS => ?_)
    subst hw16
    refine lv_topl (fun x19 ex19 => ?_)
    refine lv_lstore (lv' := [(4, .long x19), (3, .int (f_X0_doublings p0)), (0, .long p0), (2, .int p1)]) hx hb dX0_nearestSquareBits_19 hl (by decide) rfl (fun ls hl => ?_)
    have hR : f_X0_nearestSquareBits p0 p1 = g_X0_nearestSquareBits_19n p0 p1 x19 := hR.trans (by simp only [f_X0_nearestSquareBits, if_neg c2, ex19])
    refine lv_lload_n hx hb dX0_nearestSquareBits_21 rfl (lv_at hl 2 rfl) ?_
    refine lv_iload_n hx hb dX0_nearestSquareBits_22 rfl (lv_at hl 1 rfl) ?_
    refine lv_lshl hx hb dX0_nearestSquareBits_23 rfl ?_
    refine va_calll (va_runS (As := [.long (p0 <<< (((f_X0_doublings p0) : Int32).toInt64 &&& 63))]) (rest := []) ⟨hx, hb, hml, hown, hts⟩ (met_X0_squareLow l (p0 <<< (((f_X0_doublings p0) : Int32).toInt64 &&& 63))) (va_cwS 1 hts gX0_nearestSquareBits_X0_squareLow rfl rfl rfl (by decide +kernel) ⟨Nat.le_of_ble_eq_true rfl, Nat.le_of_ble_eq_true rfl⟩) ⟨fun a U g mk q => q, fun U hU hW => ⟨rfl, trivial⟩⟩ rfl rfl hl.1 rfl (lv_room (Nat.le_of_ble_eq_true rfl)) dX0_nearestSquareBits_24 ⟨Nat.le_of_ble_eq_true rfl, Nat.le_of_ble_eq_true rfl⟩) hS (fun q _ h => h.elim) (fun q h => h.elim) (fun r24 u24 t H locs ht hvm hw24 hB hz hk hS => ?_)
    subst hw24
    refine lv_topl (fun x27 ex27 => ?_)
    refine lv_lstore (lv' := [(6, .long x27), (4, .long x19), (3, .int (f_X0_doublings p0)), (0, .long p0), (2, .int p1)]) hx hb dX0_nearestSquareBits_27 hl (by decide) rfl (fun ls hl => ?_)
    have hR : f_X0_nearestSquareBits p0 p1 = g_X0_nearestSquareBits_27n p0 p1 x19 x27 := hR.trans (by simp only [g_X0_nearestSquareBits_19n, ex27])
    refine lv_lload hx hb dX0_nearestSquareBits_29 (lv_at hl 1 rfl) ?_
    refine lv_ldc2 (v := 2251799813685248) hx hb hown (hts (.constantLong RX0 267 2251799813685248) (by decide +kernel)) dX0_nearestSquareBits_31 ?_
    have J45 : ∀ (w45_0 : Int32) (ls : Array Slot) (H : Heap) (locs : List Loc), lv_has ls 15 [(0, .long p0), (2, .int p1), (3, .int (f_X0_doublings p0)), (4, .long x19), (6, .long x27)] → va_S (fun _ => False) s.heap H locs → f_X0_nearestSquareBits p0 p1 = g_X0_nearestSquareBits_45 p0 p1 x19 x27 w45_0 → W p l e (headSpec wsX0_nearestSquareBits ({ frames := 1, cells := 0, slots := 0, locals := 29 } : Room)).room s m ([.long p0, .int p1] : List Value).toArray below meth c H locs 0 0 Q (F0 m 45 ls [.int w45_0]) := by
      intro w45_0 ls H locs hl hS hR
      refine lv_istore (lv' := [(8, .int w45_0), (0, .long p0), (2, .int p1), (3, .int (f_X0_doublings p0)), (4, .long x19), (6, .long x27)]) hx hb dX0_nearestSquareBits_45 hl (by decide) rfl (fun ls hl => ?_)
      refine lv_lload hx hb dX0_nearestSquareBits_47 (lv_at hl 4 rfl) ?_
      refine lv_bipush (v := 54) hx hb dX0_nearestSquareBits_49 (by decide) ?_
      refine lv_iload hx hb dX0_nearestSquareBits_51 (lv_at hl 0 rfl) ?_
      refine lv_isub hx hb dX0_nearestSquareBits_53 ?_
      refine lv_lshl hx hb dX0_nearestSquareBits_54 rfl ?_
      refine lv_lload hx hb dX0_nearestSquareBits_55 (lv_at hl 5 rfl) ?_
      refine lv_iload hx hb dX0_nearestSquareBits_57 (lv_at hl 0 rfl) ?_
      refine lv_lshr hx hb dX0_nearestSquareBits_59 rfl ?_
      refine lv_ladd hx hb dX0_nearestSquareBits_60 ?_
      refine lv_topl (fun x61 ex61 => ?_)
      refine lv_lstore (lv' := [(9, .long x61), (8, .int w45_0), (0, .long p0), (2, .int p1), (3, .int (f_X0_doublings p0)), (4, .long x19), (6, .long x27)]) hx hb dX0_nearestSquareBits_61 hl (by decide) rfl (fun ls hl => ?_)
      have hR : f_X0_nearestSquareBits p0 p1 = g_X0_nearestSquareBits_61n p0 p1 x27 w45_0 x61 := hR.trans (by simp only [g_X0_nearestSquareBits_45, ex61])
      refine lv_lload hx hb dX0_nearestSquareBits_63 (lv_at hl 6 rfl) ?_
      refine lv_lconst (v := 1) hx hb dX0_nearestSquareBits_65 rfl ?_
      refine lv_iload hx hb dX0_nearestSquareBits_66 (lv_at hl 1 rfl) ?_
      refine lv_lshl hx hb dX0_nearestSquareBits_68 rfl ?_
      refine lv_lconst (v := 1) hx hb dX0_nearestSquareBits_69 rfl ?_
      refine lv_lsub hx hb dX0_nearestSquareBits_70 ?_
      refine lv_land hx hb dX0_nearestSquareBits_71 ?_
      refine lv_lstore (lv' := [(11, .long (x27 &&& (((1 : Int64) <<< ((w45_0 : Int32).toInt64 &&& 63)) - 1))), (9, .long x61), (8, .int w45_0), (0, .long p0), (2, .int p1), (3, .int (f_X0_doublings p0)), (4, .long x19), (6, .long x27)]) hx hb dX0_nearestSquareBits_72 hl (by decide) rfl (fun ls hl => ?_)
      refine lv_lconst (v := 1) hx hb dX0_nearestSquareBits_74 rfl ?_
      refine lv_iload hx hb dX0_nearestSquareBits_75 (lv_at hl 2 rfl) ?_
      refine lv_iconst (v := 1) hx hb dX0_nearestSquareBits_77 (by decide) ?_
      refine lv_isub hx hb dX0_nearestSquareBits_78 ?_
      refine lv_lshl hx hb dX0_nearestSquareBits_79 rfl ?_
      refine lv_lstore (lv' := [(13, .long ((1 : Int64) <<< (((w45_0 - 1) : Int32).toInt64 &&& 63))), (11, .long (x27 &&& (((1 : Int64) <<< ((w45_0 : Int32).toInt64 &&& 63)) - 1))), (9, .long x61), (8, .int w45_0), (0, .long p0), (2, .int p1), (3, .int (f_X0_doublings p0)), (4, .long x19), (6, .long x27)]) hx hb dX0_nearestSquareBits_80 hl (by decide) rfl (fun ls hl => ?_)
      refine lv_lload hx hb dX0_nearestSquareBits_82 (lv_at hl 1 rfl) ?_
      refine lv_lload hx hb dX0_nearestSquareBits_84 (lv_at hl 0 rfl) ?_
      have J113 : ∀ (v113_9 : Int64) (ls : Array Slot) (H : Heap) (locs : List Loc), lv_has ls 15 [(0, .long p0), (2, .int p1), (3, .int (f_X0_doublings p0)), (4, .long x19), (6, .long x27), (8, .int w45_0), (9, .long v113_9), (11, .long (x27 &&& (((1 : Int64) <<< ((w45_0 : Int32).toInt64 &&& 63)) - 1))), (13, .long ((1 : Int64) <<< (((w45_0 - 1) : Int32).toInt64 &&& 63)))] → va_S (fun _ => False) s.heap H locs → f_X0_nearestSquareBits p0 p1 = g_X0_nearestSquareBits_113 p0 p1 w45_0 v113_9 → W p l e (headSpec wsX0_nearestSquareBits ({ frames := 1, cells := 0, slots := 0, locals := 29 } : Room)).room s m ([.long p0, .int p1] : List Value).toArray below meth c H locs 0 0 Q (F0 m 113 ls []) := by
        intro v113_9 ls H locs hl hS hR
        refine lv_iconst (v := 0) hx hb dX0_nearestSquareBits_113 (by decide) ?_
        refine lv_lload hx hb dX0_nearestSquareBits_114 (lv_at hl 6 rfl) ?_
        refine lv_iconst (v := 2) hx hb dX0_nearestSquareBits_116 (by decide) ?_
        refine lv_iload_n hx hb dX0_nearestSquareBits_117 rfl (lv_at hl 1 rfl) ?_
        refine lv_iload_n hx hb dX0_nearestSquareBits_118 rfl (lv_at hl 2 rfl) ?_
        refine lv_isub hx hb dX0_nearestSquareBits_119 ?_
        refine lv_imul hx hb dX0_nearestSquareBits_120 ?_
        refine lv_iload hx hb dX0_nearestSquareBits_121 (lv_at hl 5 rfl) ?_
        refine lv_iadd hx hb dX0_nearestSquareBits_123 ?_
        refine va_calll (va_runS (As := [.int 0, .long v113_9, .int ((2 * (p1 - (f_X0_doublings p0))) + w45_0)]) (rest := []) ⟨hx, hb, hml, hown, hts⟩ (met_X0_pack l 0 v113_9 ((2 * (p1 - (f_X0_doublings p0))) + w45_0)) (va_cwS 3 hts gX0_nearestSquareBits_X0_pack rfl rfl rfl (by decide +kernel) ⟨Nat.le_of_ble_eq_true rfl, Nat.le_of_ble_eq_true rfl⟩) ⟨fun a U g mk q => q, fun U hU hW => ⟨rfl, trivial⟩⟩ rfl rfl hl.1 rfl (lv_room (Nat.le_of_ble_eq_true rfl)) dX0_nearestSquareBits_124 ⟨Nat.le_of_ble_eq_true rfl, Nat.le_of_ble_eq_true rfl⟩) hS (fun q _ h => h.elim) (fun q h => h.elim) (fun r124 u124 t H locs ht hvm hw124 hB hz hk hS => ?_)
        subst hw124
        rw [hQ]
        exact W.lret (v := (f_X0_pack 0 v113_9 ((2 * (p1 - (f_X0_doublings p0))) + w45_0))) hx hb hr (fun t ht hW => ⟨⟨(f_X0_pack 0 v113_9 ((2 * (p1 - (f_X0_doublings p0))) + w45_0)), (), rfl, (hR.trans (by simp only [g_X0_nearestSquareBits_113])), trivial⟩, hS.F ht⟩) hS.2.2 dX0_nearestSquareBits_127
      have J107 : ∀ (ls : Array Slot) (H : Heap) (locs : List Loc), lv_has ls 15 [(0, .long p0), (2, .int p1), (3, .int (f_X0_doublings p0)), (4, .long x19), (6, .long x27), (8, .int w45_0), (9, .long x61), (11, .long (x27 &&& (((1 : Int64) <<< ((w45_0 : Int32).toInt64 &&& 63)) - 1))), (13, .long ((1 : Int64) <<< (((w45_0 - 1) : Int32).toInt64 &&& 63)))] → va_S (fun _ => False) s.heap H locs → f_X0_nearestSquareBits p0 p1 = g_X0_nearestSquareBits_107 p0 p1 w45_0 x61 → W p l e (headSpec wsX0_nearestSquareBits ({ frames := 1, cells := 0, slots := 0, locals := 29 } : Room)).room s m ([.long p0, .int p1] : List Value).toArray below meth c H locs 0 0 Q (F0 m 107 ls []) := by
        intro ls H locs hl hS hR
        refine lv_lload hx hb dX0_nearestSquareBits_107 (lv_at hl 6 rfl) ?_
        refine lv_lconst (v := 1) hx hb dX0_nearestSquareBits_109 rfl ?_
        refine lv_ladd hx hb dX0_nearestSquareBits_110 ?_
        refine lv_lstore (lv' := [(9, .long (x61 + 1)), (0, .long p0), (2, .int p1), (3, .int (f_X0_doublings p0)), (4, .long x19), (6, .long x27), (8, .int w45_0), (11, .long (x27 &&& (((1 : Int64) <<< ((w45_0 : Int32).toInt64 &&& 63)) - 1))), (13, .long ((1 : Int64) <<< (((w45_0 - 1) : Int32).toInt64 &&& 63)))]) hx hb dX0_nearestSquareBits_111 hl (by decide) rfl (fun ls hl => ?_)
        exact J113 (x61 + 1) ls _ _ (lv_sub hl [1, 2, 3, 4, 5, 6, 0, 7, 8] rfl) hS (hR.trans (by simp only [g_X0_nearestSquareBits_107]))
      refine W.lcmp hx hb dX0_nearestSquareBits_86 ?_
      refine lv_if_gt (tgt := 107) hx hb dX0_nearestSquareBits_87 (by decide) (fun c86 => ?_) (fun c86 => ?_)
      · skip
        have c86 : (((1 : Int64) <<< (((w45_0 - 1) : Int32).toInt64 &&& 63)) : Int64) < (x27 &&& (((1 : Int64) <<< ((w45_0 : Int32).toInt64 &&& 63)) - 1)) := (lg_cmp_gt _ _).mp c86
        exact J107 ls _ _ (lv_sub hl [4, 5, 6, 7, 8, 3, 2, 1, 0] rfl) hS (hR.trans (by simp only [g_X0_nearestSquareBits_61n, if_pos c86]))
      · skip
        have c86 : ¬ ((((1 : Int64) <<< (((w45_0 - 1) : Int32).toInt64 &&& 63)) : Int64) < (x27 &&& (((1 : Int64) <<< ((w45_0 : Int32).toInt64 &&& 63)) - 1))) := fun h => c86 ((lg_cmp_gt _ _).mpr h)
        refine lv_lload hx hb dX0_nearestSquareBits_90 (lv_at hl 1 rfl) ?_
        refine lv_lload hx hb dX0_nearestSquareBits_92 (lv_at hl 0 rfl) ?_
        refine W.lcmp hx hb dX0_nearestSquareBits_94 ?_
        refine lv_if_ne (tgt := 113) hx hb dX0_nearestSquareBits_95 (by decide) (fun c94 => ?_) (fun c94 => ?_)
        · skip
          have c94 : ¬ (((x27 &&& (((1 : Int64) <<< ((w45_0 : Int32).toInt64 &&& 63)) - 1)) : Int64) = ((1 : Int64) <<< (((w45_0 - 1) : Int32).toInt64 &&& 63))) := fun h => c94 ((lg_cmp_eq _ _).mpr h)
          exact J113 x61 ls _ _ (lv_sub hl [4, 5, 6, 7, 8, 3, 2, 1, 0] rfl) hS (hR.trans (by simp only [g_X0_nearestSquareBits_61n, if_neg c86, if_neg c94]))
        · skip
          have c94 : ((x27 &&& (((1 : Int64) <<< ((w45_0 : Int32).toInt64 &&& 63)) - 1)) : Int64) = ((1 : Int64) <<< (((w45_0 - 1) : Int32).toInt64 &&& 63)) := (lg_cmp_eq _ _).mp c94
          refine lv_lload hx hb dX0_nearestSquareBits_98 (lv_at hl 2 rfl) ?_
          refine lv_lconst (v := 1) hx hb dX0_nearestSquareBits_100 rfl ?_
          refine lv_land hx hb dX0_nearestSquareBits_101 ?_
          refine lv_lconst (v := 1) hx hb dX0_nearestSquareBits_102 rfl ?_
          refine W.lcmp hx hb dX0_nearestSquareBits_103 ?_
          refine lv_if_ne (tgt := 113) hx hb dX0_nearestSquareBits_104 (by decide) (fun c103 => ?_) (fun c103 => ?_)
          · skip
            have c103 : ¬ (((x61 &&& 1) : Int64) = 1) := fun h => c103 ((lg_cmp_eq _ _).mpr h)
            exact J113 x61 ls _ _ (lv_sub hl [4, 5, 6, 7, 8, 3, 2, 1, 0] rfl) hS (hR.trans (by simp only [g_X0_nearestSquareBits_61n, if_neg c86, if_pos c94, if_neg c103]))
          · skip
            have c103 : ((x61 &&& 1) : Int64) = 1 := (lg_cmp_eq _ _).mp c103
            exact J107 ls _ _ (lv_sub hl [4, 5, 6, 7, 8, 3, 2, 1, 0] rfl) hS (hR.trans (by simp only [g_X0_nearestSquareBits_61n, if_neg c86, if_pos c94, if_pos c103]))
    refine W.lcmp hx hb dX0_nearestSquareBits_34 ?_
    refine lv_if_ge (tgt := 43) hx hb dX0_nearestSquareBits_35 (by decide) (fun c34 => ?_) (fun c34 => ?_)
    · skip
      have c34 : (2251799813685248 : Int64) ≤ x19 := (lg_cmp_ge _ _).mp c34
      refine lv_bipush (v := 53) hx hb dX0_nearestSquareBits_43 (by decide) ?_
      exact J45 53 ls _ _ (lv_sub hl [3, 4, 2, 1, 0] rfl) hS (hR.trans (by simp only [g_X0_nearestSquareBits_27n, if_pos c34]))
    · skip
      have c34 : ¬ ((2251799813685248 : Int64) ≤ x19) := fun h => c34 ((lg_cmp_ge _ _).mpr h)
      refine lv_bipush (v := 52) hx hb dX0_nearestSquareBits_38 (by decide) ?_
      refine lv_goto (tgt := 45) hx hb dX0_nearestSquareBits_40 (by decide) ?_
      exact J45 52 ls _ _ (lv_sub hl [3, 4, 2, 1, 0] rfl) hS (hR.trans (by simp only [g_X0_nearestSquareBits_27n, if_neg c34]))
  · skip
    have c2 : (p0 : Int64) = 0 := (lg_cmp_eq _ _).mp c2
    refine lv_lconst (v := 0) hx hb dX0_nearestSquareBits_6 rfl ?_
    rw [hQ]
    exact W.lret (v := 0) hx hb hr (fun t ht hW => ⟨⟨0, (), rfl, (hR.trans (by simp only [f_X0_nearestSquareBits, if_pos c2])), trivial⟩, hS.F ht⟩) hS.2.2 dX0_nearestSquareBits_7

def f_X0_nearestBackBits (p0 : Int32) : Int64 := (if (p0 : Int32) = 0 then 0 else (f_X0_nearestSquareBits (f_X0_nearestRoot p0) (f_X0_rootExponent p0)))
set_option maxHeartbeats 4000000 in
set_option maxRecDepth 100000 in
theorem met_X0_nearestBackBits (l : Launch) (p0 : Int32) : Met l yX0_nearestBackBits wsX0_nearestBackBits ({ frames := 2, cells := 0, slots := 0, locals := 63 } : Room) (va_Pc [.int p0] (fun U => True)) (va_Ql (fun (r : Int64) (u : Unit) => f_X0_nearestBackBits p0 = r) (fun _ _ => True) (fun _ => False)) 0 0 (fun _ => False) := by
  refine Met.ofW (cc := cX0_nearestBackBits) (maxL := 1) (ret := (some .long)) (by decide) rfl ?_
  intro p e s m args below meth c s₁ B hml hv
  obtain ⟨rfl, -⟩ := hv
  have hx := B.exec
  have hb := B.bytes
  have hr := B.returns
  have hts := atoms_spec (ws := wsX0_nearestBackBits) B.pre
  have hown : s.vm.findClass RX0 = some m.cls := findClass_of_methodNamed B.named
  have hlocks := B.notSynchronized
  have hS : va_S (fun _ => False) s.heap s.heap [] := va_S.rf
  have hl := lv_entry ([.int p0]) (n := 1) (Nat.le_of_ble_eq_true rfl)
  rw [lg_entry_eq]
  generalize (lg_sl ([.int p0]) ++ List.replicate (1 - (lg_sl ([.int p0])).length) Slot.unset).toArray = ls at hl ⊢
  have hl : lv_has ls 1 [(0, .int p0)] := hl
  obtain ⟨Q, hQ⟩ : ∃ Q : State → Prop, Q = (MQ below (va_Ql (fun (r : Int64) (u : Unit) => f_X0_nearestBackBits p0 = r) (fun _ _ => True) (fun _ => False)) ([.int p0] : List Value).toArray s 0 0 (fun _ => False)) := ⟨_, rfl⟩
  rw [← hQ]
  have hR : f_X0_nearestBackBits p0 = f_X0_nearestBackBits p0 := rfl
  refine lv_iload_n hx hb dX0_nearestBackBits_0 rfl (lv_at hl 0 rfl) ?_
  refine lv_if_ne (tgt := 8) hx hb dX0_nearestBackBits_1 (by decide) (fun c1 => ?_) (fun c1 => ?_)
  · skip
    refine lv_iload_n hx hb dX0_nearestBackBits_8 rfl (lv_at hl 0 rfl) ?_
    refine va_calll (va_runS (As := [.int p0]) (rest := []) ⟨hx, hb, hml, hown, hts⟩ (met_X0_nearestRoot l p0) (va_cwS 1 hts gX0_nearestBackBits_X0_nearestRoot rfl rfl rfl (by decide +kernel) ⟨Nat.le_of_ble_eq_true rfl, Nat.le_of_ble_eq_true rfl⟩) ⟨fun a U g mk q => q, fun U hU hW => ⟨rfl, trivial⟩⟩ rfl rfl hl.1 rfl (lv_room (Nat.le_of_ble_eq_true rfl)) dX0_nearestBackBits_9 ⟨Nat.le_of_ble_eq_true rfl, Nat.le_of_ble_eq_true rfl⟩) hS (fun q _ h => h.elim) (fun q h => h.elim) (fun r9 u9 t H locs ht hvm hw9 hB hz hk hS => ?_)
    subst hw9
    refine lv_iload_n hx hb dX0_nearestBackBits_12 rfl (lv_at hl 0 rfl) ?_
    refine va_calli (va_runS (As := [.int p0]) (rest := [.long (f_X0_nearestRoot p0)]) ⟨hx, hb, hml, hown, hts⟩ (met_X0_rootExponent l p0) (va_cwS 1 hts gX0_nearestBackBits_X0_rootExponent rfl rfl rfl (by decide +kernel) ⟨Nat.le_of_ble_eq_true rfl, Nat.le_of_ble_eq_true rfl⟩) ⟨fun a U g mk q => q, fun U hU hW => ⟨rfl, trivial⟩⟩ rfl rfl hl.1 rfl (lv_room (Nat.le_of_ble_eq_true rfl)) dX0_nearestBackBits_13 ⟨Nat.le_of_ble_eq_true rfl, Nat.le_of_ble_eq_true rfl⟩) hS (fun q _ h => h.elim) (fun q h => h.elim) (fun r13 u13 t H locs ht hvm hw13 hB hz hk hS => ?_)
    subst hw13
    refine va_calll (va_runS (As := [.long (f_X0_nearestRoot p0), .int (f_X0_rootExponent p0)]) (rest := []) ⟨hx, hb, hml, hown, hts⟩ (met_X0_nearestSquareBits l (f_X0_nearestRoot p0) (f_X0_rootExponent p0)) (va_cwS 2 hts gX0_nearestBackBits_X0_nearestSquareBits rfl rfl rfl (by decide +kernel) ⟨Nat.le_of_ble_eq_true rfl, Nat.le_of_ble_eq_true rfl⟩) ⟨fun a U g mk q => q, fun U hU hW => ⟨rfl, trivial⟩⟩ rfl rfl hl.1 rfl (lv_room (Nat.le_of_ble_eq_true rfl)) dX0_nearestBackBits_16 ⟨Nat.le_of_ble_eq_true rfl, Nat.le_of_ble_eq_true rfl⟩) hS (fun q _ h => h.elim) (fun q h => h.elim) (fun r16 u16 t H locs ht hvm hw16 hB hz hk hS => ?_)
    subst hw16
    rw [hQ]
    exact W.lret (v := (f_X0_nearestSquareBits (f_X0_nearestRoot p0) (f_X0_rootExponent p0))) hx hb hr (fun t ht hW => ⟨⟨(f_X0_nearestSquareBits (f_X0_nearestRoot p0) (f_X0_rootExponent p0)), (), rfl, (hR.trans (by simp only [f_X0_nearestBackBits, if_neg c1])), trivial⟩, hS.F ht⟩) hS.2.2 dX0_nearestBackBits_19
  · skip
    refine lv_lconst (v := 0) hx hb dX0_nearestBackBits_4 rfl ?_
    refine lv_goto (tgt := 19) hx hb dX0_nearestBackBits_5 (by decide) ?_
    rw [hQ]
    exact W.lret (v := 0) hx hb hr (fun t ht hW => ⟨⟨0, (), rfl, (hR.trans (by simp only [f_X0_nearestBackBits, if_pos c1])), trivial⟩, hS.F ht⟩) hS.2.2 dX0_nearestBackBits_19

def g_X0_isNearestRoot_33n (p1 : Int64) (x33 : Int64) : Int32 := (if (x33 : Int64) < 0 then 0 else (if (x33 : Int64) ≤ 1 then (if (((x33 <<< ((54 : Int32).toInt64 &&& 63)) - (f_X0_squareLow p1)) : Int64) ≤ (-p1) then 0 else (if (p1 : Int64) < ((x33 <<< ((54 : Int32).toInt64 &&& 63)) - (f_X0_squareLow p1)) then 0 else 1)) else 0))
def f_X0_isNearestRoot (p0 : Int32) (p1 : Int64) : Int32 := (if (p0 : Int32) = 0 then (if (p1 : Int64) = 0 then 1 else 0) else (g_X0_isNearestRoot_33n p1 ((((p0 : Int32).toInt64) <<< (((52 - (2 * (f_X0_rootLength p0))) : Int32).toInt64 &&& 63)) - (f_X0_squareHigh p1))))
set_option maxHeartbeats 4000000 in
set_option maxRecDepth 100000 in
theorem met_X0_isNearestRoot (l : Launch) (p0 : Int32) (p1 : Int64) : Met l yX0_isNearestRoot wsX0_isNearestRoot ({ frames := 1, cells := 0, slots := 0, locals := 29 } : Room) (va_Pc [.int p0, .long p1] (fun U => True)) (va_Qi (fun (r : Int32) (u : Unit) => f_X0_isNearestRoot p0 p1 = r ∧ (r = 0 ∨ r = 1)) (fun _ _ => True) (fun _ => False)) 0 0 (fun _ => False) := by
  refine Met.ofW (cc := cX0_isNearestRoot) (maxL := 7) (ret := (some .boolean)) (by decide) rfl ?_
  intro p e s m args below meth c s₁ B hml hv
  obtain ⟨rfl, -⟩ := hv
  have hx := B.exec
  have hb := B.bytes
  have hr := B.returns
  have hts := atoms_spec (ws := wsX0_isNearestRoot) B.pre
  have hown : s.vm.findClass RX0 = some m.cls := findClass_of_methodNamed B.named
  have hlocks := B.notSynchronized
  have hS : va_S (fun _ => False) s.heap s.heap [] := va_S.rf
  have hl := lv_entry ([.int p0, .long p1]) (n := 7) (Nat.le_of_ble_eq_true rfl)
  rw [lg_entry_eq]
  generalize (lg_sl ([.int p0, .long p1]) ++ List.replicate (7 - (lg_sl ([.int p0, .long p1])).length) Slot.unset).toArray = ls at hl ⊢
  have hl : lv_has ls 7 [(0, .int p0), (1, .long p1)] := hl
  obtain ⟨Q, hQ⟩ : ∃ Q : State → Prop, Q = (MQ below (va_Qi (fun (r : Int32) (u : Unit) => f_X0_isNearestRoot p0 p1 = r ∧ (r = 0 ∨ r = 1)) (fun _ _ => True) (fun _ => False)) ([.int p0, .long p1] : List Value).toArray s 0 0 (fun _ => False)) := ⟨_, rfl⟩
  rw [← hQ]
  have hR : f_X0_isNearestRoot p0 p1 = f_X0_isNearestRoot p0 p1 := rfl
  refine lv_iload_n hx hb dX0_isNearestRoot_0 rfl (lv_at hl 0 rfl) ?_
  refine lv_if_ne (tgt := 16) hx hb dX0_isNearestRoot_1 (by decide) (fun c1 => ?_) (fun c1 => ?_)
  · skip
    refine lv_iload_n hx hb dX0_isNearestRoot_16 rfl (lv_at hl 0 rfl) ?_
    refine lv_i2l hx hb dX0_isNearestRoot_17 rfl ?_
    refine lv_bipush (v := 52) hx hb dX0_isNearestRoot_18 (by decide) ?_
    refine lv_iconst (v := 2) hx hb dX0_isNearestRoot_20 (by decide) ?_
    refine lv_iload_n hx hb dX0_isNearestRoot_21 rfl (lv_at hl 0 rfl) ?_
    refine va_calli (va_runS (As := [.int p0]) (rest := [.int 2, .int 52, .long ((p0 : Int32).toInt64)]) ⟨hx, hb, hml, hown, hts⟩ (met_X0_rootLength l p0) (va_cwS 1 hts gX0_isNearestRoot_X0_rootLength rfl rfl rfl (by decide +kernel) ⟨Nat.le_of_ble_eq_true rfl, Nat.le_of_ble_eq_true rfl⟩) ⟨fun a U g mk q => q, fun U hU hW => ⟨rfl, trivial⟩⟩ rfl rfl hl.1 rfl (lv_room (Nat.le_of_ble_eq_true rfl)) dX0_isNearestRoot_22 ⟨Nat.le_of_ble_eq_true rfl, Nat.le_of_ble_eq_true rfl⟩) hS (fun q _ h => h.elim) (fun q h => h.elim) (fun r22 u22 t H locs ht hvm hw22 hB hz hk hS => ?_)
    subst hw22
    refine lv_imul hx hb dX0_isNearestRoot_25 ?_
    refine lv_isub hx hb dX0_isNearestRoot_26 ?_
    refine lv_lshl hx hb dX0_isNearestRoot_27 rfl ?_
    refine lv_lload_n hx hb dX0_isNearestRoot_28 rfl (lv_at hl 1 rfl) ?_
    refine va_calll (va_runS (As := [.long p1]) (rest := [.long (((p0 : Int32).toInt64) <<< (((52 - (2 * (f_X0_rootLength p0))) : Int32).toInt64 &&& 63))]) ⟨hx, hb, hml, hown, hts⟩ (met_X0_squareHigh l p1) (va_cwS 1 hts gX0_isNearestRoot_X0_squareHigh rfl rfl rfl (by decide +kernel) ⟨Nat.le_of_ble_eq_true rfl, Nat.le_of_ble_eq_true rfl⟩) ⟨fun a U g mk q => q, fun U hU hW => ⟨rfl, trivial⟩⟩ rfl rfl hl.1 rfl (lv_room (Nat.le_of_ble_eq_true rfl)) dX0_isNearestRoot_29 ⟨Nat.le_of_ble_eq_true rfl, Nat.le_of_ble_eq_true rfl⟩) hS (fun q _ h => h.elim) (fun q h => h.elim) (fun r29 u29 t H locs ht hvm hw29 hB hz hk hS => ?_)
    subst hw29
    refine lv_lsub hx hb dX0_isNearestRoot_32 ?_
    refine lv_topl (fun x33 ex33 => ?_)
    refine lv_lstore_n (lv' := [(3, .long x33), (0, .int p0), (1, .long p1)]) hx hb dX0_isNearestRoot_33 rfl hl (by decide) rfl (fun ls hl => ?_)
    have hR : f_X0_isNearestRoot p0 p1 = g_X0_isNearestRoot_33n p1 x33 := hR.trans (by simp only [f_X0_isNearestRoot, if_neg c1, ex33])
    refine lv_lload_n hx hb dX0_isNearestRoot_34 rfl (lv_at hl 0 rfl) ?_
    refine lv_lconst (v := 0) hx hb dX0_isNearestRoot_35 rfl ?_
    refine W.lcmp hx hb dX0_isNearestRoot_36 ?_
    refine lv_if_lt (tgt := 46) hx hb dX0_isNearestRoot_37 (by decide) (fun c36 => ?_) (fun c36 => ?_)
    · skip
      have c36 : (x33 : Int64) < 0 := (lg_cmp_lt _ _).mp c36
      refine lv_iconst (v := 0) hx hb dX0_isNearestRoot_46 (by decide) ?_
      rw [hQ]
      exact W.zret (ty := .boolean) (v := 0) hx hb hr (nbool (Or.inl rfl)) (fun t ht hW => ⟨⟨0, (), rfl, ⟨(hR.trans (by simp only [g_X0_isNearestRoot_33n, if_pos c36])), (Or.inl rfl)⟩, trivial⟩, hS.F ht⟩) hS.2.2 dX0_isNearestRoot_47
    · skip
      have c36 : ¬ ((x33 : Int64) < 0) := fun h => c36 ((lg_cmp_lt _ _).mpr h)
      refine lv_lload_n hx hb dX0_isNearestRoot_40 rfl (lv_at hl 0 rfl) ?_
      refine lv_lconst (v := 1) hx hb dX0_isNearestRoot_41 rfl ?_
      refine W.lcmp hx hb dX0_isNearestRoot_42 ?_
      refine lv_if_le (tgt := 48) hx hb dX0_isNearestRoot_43 (by decide) (fun c42 => ?_) (fun c42 => ?_)
      · skip
        have c42 : (x33 : Int64) ≤ 1 := (lg_cmp_le _ _).mp c42
        refine lv_lload_n hx hb dX0_isNearestRoot_48 rfl (lv_at hl 0 rfl) ?_
        refine lv_bipush (v := 54) hx hb dX0_isNearestRoot_49 (by decide) ?_
        refine lv_lshl hx hb dX0_isNearestRoot_51 rfl ?_
        refine lv_lload_n hx hb dX0_isNearestRoot_52 rfl (lv_at hl 2 rfl) ?_
        refine va_calll (va_runS (As := [.long p1]) (rest := [.long (x33 <<< ((54 : Int32).toInt64 &&& 63))]) ⟨hx, hb, hml, hown, hts⟩ (met_X0_squareLow l p1) (va_cwS 1 hts gX0_isNearestRoot_X0_squareLow rfl rfl rfl (by decide +kernel) ⟨Nat.le_of_ble_eq_true rfl, Nat.le_of_ble_eq_true rfl⟩) ⟨fun a U g mk q => q, fun U hU hW => ⟨rfl, trivial⟩⟩ rfl rfl hl.1 rfl (lv_room (Nat.le_of_ble_eq_true rfl)) dX0_isNearestRoot_53 ⟨Nat.le_of_ble_eq_true rfl, Nat.le_of_ble_eq_true rfl⟩) hS (fun q _ h => h.elim) (fun q h => h.elim) (fun r53 u53 t H locs ht hvm hw53 hB hz hk hS => ?_)
        subst hw53
        refine lv_lsub hx hb dX0_isNearestRoot_56 ?_
        refine lv_lstore (lv' := [(5, .long ((x33 <<< ((54 : Int32).toInt64 &&& 63)) - (f_X0_squareLow p1))), (3, .long x33), (0, .int p0), (1, .long p1)]) hx hb dX0_isNearestRoot_57 hl (by decide) rfl (fun ls hl => ?_)
        refine lv_lload hx hb dX0_isNearestRoot_59 (lv_at hl 0 rfl) ?_
        refine lv_lload_n hx hb dX0_isNearestRoot_61 rfl (lv_at hl 3 rfl) ?_
        refine lv_lneg hx hb dX0_isNearestRoot_62 ?_
        refine W.lcmp hx hb dX0_isNearestRoot_63 ?_
        refine lv_if_le (tgt := 78) hx hb dX0_isNearestRoot_64 (by decide) (fun c63 => ?_) (fun c63 => ?_)
        · skip
          have c63 : (((x33 <<< ((54 : Int32).toInt64 &&& 63)) - (f_X0_squareLow p1)) : Int64) ≤ (-p1) := (lg_cmp_le _ _).mp c63
          refine lv_iconst (v := 0) hx hb dX0_isNearestRoot_78 (by decide) ?_
          rw [hQ]
          exact W.zret (ty := .boolean) (v := 0) hx hb hr (nbool (Or.inl rfl)) (fun t ht hW => ⟨⟨0, (), rfl, ⟨(hR.trans (by simp only [g_X0_isNearestRoot_33n, if_neg c36, if_pos c42, if_pos c63])), (Or.inl rfl)⟩, trivial⟩, hS.F ht⟩) hS.2.2 dX0_isNearestRoot_79
        · skip
          have c63 : ¬ ((((x33 <<< ((54 : Int32).toInt64 &&& 63)) - (f_X0_squareLow p1)) : Int64) ≤ (-p1)) := fun h => c63 ((lg_cmp_le _ _).mpr h)
          refine lv_lload hx hb dX0_isNearestRoot_67 (lv_at hl 0 rfl) ?_
          refine lv_lload_n hx hb dX0_isNearestRoot_69 rfl (lv_at hl 3 rfl) ?_
          refine W.lcmp hx hb dX0_isNearestRoot_70 ?_
          refine lv_if_gt (tgt := 78) hx hb dX0_isNearestRoot_71 (by decide) (fun c70 => ?_) (fun c70 => ?_)
          · skip
            have c70 : (p1 : Int64) < ((x33 <<< ((54 : Int32).toInt64 &&& 63)) - (f_X0_squareLow p1)) := (lg_cmp_gt _ _).mp c70
            refine lv_iconst (v := 0) hx hb dX0_isNearestRoot_78 (by decide) ?_
            rw [hQ]
            exact W.zret (ty := .boolean) (v := 0) hx hb hr (nbool (Or.inl rfl)) (fun t ht hW => ⟨⟨0, (), rfl, ⟨(hR.trans (by simp only [g_X0_isNearestRoot_33n, if_neg c36, if_pos c42, if_neg c63, if_pos c70])), (Or.inl rfl)⟩, trivial⟩, hS.F ht⟩) hS.2.2 dX0_isNearestRoot_79
          · skip
            have c70 : ¬ ((p1 : Int64) < ((x33 <<< ((54 : Int32).toInt64 &&& 63)) - (f_X0_squareLow p1))) := fun h => c70 ((lg_cmp_gt _ _).mpr h)
            refine lv_iconst (v := 1) hx hb dX0_isNearestRoot_74 (by decide) ?_
            refine lv_goto (tgt := 79) hx hb dX0_isNearestRoot_75 (by decide) ?_
            rw [hQ]
            exact W.zret (ty := .boolean) (v := 1) hx hb hr (nbool (Or.inr rfl)) (fun t ht hW => ⟨⟨1, (), rfl, ⟨(hR.trans (by simp only [g_X0_isNearestRoot_33n, if_neg c36, if_pos c42, if_neg c63, if_neg c70])), (Or.inr rfl)⟩, trivial⟩, hS.F ht⟩) hS.2.2 dX0_isNearestRoot_79
      · skip
        have c42 : ¬ ((x33 : Int64) ≤ 1) := fun h => c42 ((lg_cmp_le _ _).mpr h)
        refine lv_iconst (v := 0) hx hb dX0_isNearestRoot_46 (by decide) ?_
        rw [hQ]
        exact W.zret (ty := .boolean) (v := 0) hx hb hr (nbool (Or.inl rfl)) (fun t ht hW => ⟨⟨0, (), rfl, ⟨(hR.trans (by simp only [g_X0_isNearestRoot_33n, if_neg c36, if_neg c42])), (Or.inl rfl)⟩, trivial⟩, hS.F ht⟩) hS.2.2 dX0_isNearestRoot_47
  · skip
    refine lv_lload_n hx hb dX0_isNearestRoot_4 rfl (lv_at hl 1 rfl) ?_
    refine lv_lconst (v := 0) hx hb dX0_isNearestRoot_5 rfl ?_
    refine W.lcmp hx hb dX0_isNearestRoot_6 ?_
    refine lv_if_ne (tgt := 14) hx hb dX0_isNearestRoot_7 (by decide) (fun c6 => ?_) (fun c6 => ?_)
    · skip
      have c6 : ¬ ((p1 : Int64) = 0) := fun h => c6 ((lg_cmp_eq _ _).mpr h)
      refine lv_iconst (v := 0) hx hb dX0_isNearestRoot_14 (by decide) ?_
      rw [hQ]
      exact W.zret (ty := .boolean) (v := 0) hx hb hr (nbool (Or.inl rfl)) (fun t ht hW => ⟨⟨0, (), rfl, ⟨(hR.trans (by simp only [f_X0_isNearestRoot, if_pos c1, if_neg c6])), (Or.inl rfl)⟩, trivial⟩, hS.F ht⟩) hS.2.2 dX0_isNearestRoot_15
    · skip
      have c6 : (p1 : Int64) = 0 := (lg_cmp_eq _ _).mp c6
      refine lv_iconst (v := 1) hx hb dX0_isNearestRoot_10 (by decide) ?_
      refine lv_goto (tgt := 15) hx hb dX0_isNearestRoot_11 (by decide) ?_
      rw [hQ]
      exact W.zret (ty := .boolean) (v := 1) hx hb hr (nbool (Or.inr rfl)) (fun t ht hW => ⟨⟨1, (), rfl, ⟨(hR.trans (by simp only [f_X0_isNearestRoot, if_pos c1, if_pos c6])), (Or.inr rfl)⟩, trivial⟩, hS.F ht⟩) hS.2.2 dX0_isNearestRoot_15

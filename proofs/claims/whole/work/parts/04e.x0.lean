def f_J9_floorMod_f86c9 (p0 : Int64) (p1 : Int64) : Int64 := (if (0 : Int64) ≤ (p0 ^^^ p1) then (p0 - p0 / p1 * p1) else (if ((p0 - p0 / p1 * p1) : Int64) = 0 then (p0 - p0 / p1 * p1) else ((p0 - p0 / p1 * p1) + p1)))
set_option maxHeartbeats 4000000 in
set_option maxRecDepth 100000 in
theorem met_J9_floorMod_f86c9 (l : Launch) (p0 : Int64) (p1 : Int64) (z1 : ¬ p1 = 0) : Met l yJ9_floorMod_f86c9 wsJ9_floorMod_f86c9 ({ frames := 0, cells := 0, slots := 0, locals := 0 } : Room) (va_Pc [.long p0, .long p1] (fun U => True)) (va_Ql (fun (r : Int64) (u : Unit) => f_J9_floorMod_f86c9 p0 p1 = r) (fun _ _ => True) (fun _ => False)) 0 0 (fun _ => False) := by
  refine xMet_ofWF (cc := cJ9_floorMod_f86c9) (maxL := 6) (ret := (some .long)) (by decide +kernel) rfl ?_
  intro p e s m args below meth c s₁ B hml hv
  obtain ⟨rfl, -⟩ := hv
  have hx := B.exec
  have hb := B.bytes
  have hr := B.returns
  have hts := atoms_spec (ws := wsJ9_floorMod_f86c9) B.pre
  have hown : s.vm.findClass RJ9 = some m.cls := findClass_of_methodNamed B.named
  have hlocks := B.notSynchronized
  have hS : va_S (fun _ => False) s.heap s.heap [] := va_S.rf
  have hl := lv_entry ([.long p0, .long p1]) (n := 6) (Nat.le_of_ble_eq_true rfl)
  rw [lg_entry_eq]
  generalize (lg_sl ([.long p0, .long p1]) ++ List.replicate (6 - (lg_sl ([.long p0, .long p1])).length) Slot.unset).toArray = ls at hl ⊢
  have hl : lv_has ls 6 [(0, .long p0), (2, .long p1)] := hl
  obtain ⟨Q, hQ⟩ : ∃ Q : State → Prop, Q = (MQ below (va_Ql (fun (r : Int64) (u : Unit) => f_J9_floorMod_f86c9 p0 p1 = r) (fun _ _ => True) (fun _ => False)) ([.long p0, .long p1] : List Value).toArray s 0 0 (fun _ => False)) := ⟨_, rfl⟩
  rw [← hQ]
  have hR : f_J9_floorMod_f86c9 p0 p1 = f_J9_floorMod_f86c9 p0 p1 := rfl
  refine lv_lload_n hx hb dJ9_floorMod_f86c9_0 rfl (lv_at hl 0 rfl) ?_
  refine lv_lload_n hx hb dJ9_floorMod_f86c9_1 rfl (lv_at hl 1 rfl) ?_
  refine lv_lrem hx hb dJ9_floorMod_f86c9_2 (z1) ?_
  refine lv_lstore (lv' := [(4, .long (p0 - p0 / p1 * p1)), (0, .long p0), (2, .long p1)]) hx hb dJ9_floorMod_f86c9_3 hl (by decide) rfl (fun ls hl => ?_)
  refine lv_lload_n hx hb dJ9_floorMod_f86c9_5 rfl (lv_at hl 1 rfl) ?_
  refine lv_lload_n hx hb dJ9_floorMod_f86c9_6 rfl (lv_at hl 2 rfl) ?_
  refine lv_lxor hx hb dJ9_floorMod_f86c9_7 ?_
  refine lv_lconst (v := 0) hx hb dJ9_floorMod_f86c9_8 rfl ?_
  refine W.lcmp hx hb dJ9_floorMod_f86c9_9 ?_
  refine lv_if_ge (tgt := 25) hx hb dJ9_floorMod_f86c9_10 (by decide) (fun c9 => ?_) (fun c9 => ?_)
  · skip
    have c9 : (0 : Int64) ≤ (p0 ^^^ p1) := (lg_cmp_ge _ _).mp c9
    refine lv_lload hx hb dJ9_floorMod_f86c9_25 (lv_at hl 0 rfl) ?_
    rw [hQ]
    exact W.lret (v := (p0 - p0 / p1 * p1)) hx hb hr (fun t ht hW => ⟨⟨(p0 - p0 / p1 * p1), (), rfl, (hR.trans (by simp only [f_J9_floorMod_f86c9, if_pos c9])), trivial⟩, hS.F ht⟩) hS.2.2 dJ9_floorMod_f86c9_27
  · skip
    have c9 : ¬ ((0 : Int64) ≤ (p0 ^^^ p1)) := fun h => c9 ((lg_cmp_ge _ _).mpr h)
    refine lv_lload hx hb dJ9_floorMod_f86c9_13 (lv_at hl 0 rfl) ?_
    refine lv_lconst (v := 0) hx hb dJ9_floorMod_f86c9_15 rfl ?_
    refine W.lcmp hx hb dJ9_floorMod_f86c9_16 ?_
    refine lv_if_eq (tgt := 25) hx hb dJ9_floorMod_f86c9_17 (by decide) (fun c16 => ?_) (fun c16 => ?_)
    · skip
      have c16 : ((p0 - p0 / p1 * p1) : Int64) = 0 := (lg_cmp_eq _ _).mp c16
      refine lv_lload hx hb dJ9_floorMod_f86c9_25 (lv_at hl 0 rfl) ?_
      rw [hQ]
      exact W.lret (v := (p0 - p0 / p1 * p1)) hx hb hr (fun t ht hW => ⟨⟨(p0 - p0 / p1 * p1), (), rfl, (hR.trans (by simp only [f_J9_floorMod_f86c9, if_neg c9, if_pos c16])), trivial⟩, hS.F ht⟩) hS.2.2 dJ9_floorMod_f86c9_27
    · skip
      have c16 : ¬ (((p0 - p0 / p1 * p1) : Int64) = 0) := fun h => c16 ((lg_cmp_eq _ _).mpr h)
      refine lv_lload hx hb dJ9_floorMod_f86c9_20 (lv_at hl 0 rfl) ?_
      refine lv_lload_n hx hb dJ9_floorMod_f86c9_22 rfl (lv_at hl 2 rfl) ?_
      refine lv_ladd hx hb dJ9_floorMod_f86c9_23 ?_
      rw [hQ]
      exact W.lret (v := ((p0 - p0 / p1 * p1) + p1)) hx hb hr (fun t ht hW => ⟨⟨((p0 - p0 / p1 * p1) + p1), (), rfl, (hR.trans (by simp only [f_J9_floorMod_f86c9, if_neg c9, if_neg c16])), trivial⟩, hS.F ht⟩) hS.2.2 dJ9_floorMod_f86c9_24

def f_X0_rest (S : pS) (p0 : Int32) (p1 : Int32) (p2 : Int32) : Except Nat Int32 := (match f_X0_checkBaseAndExponent p0 p1 with | .error k => .error k | .ok _ => (match f_X0_checkRange p2 1 1000 with | .error k => .error k | .ok _ => (match f_X0_checkPowerNear p0 p1 with | .error k => .error k | .ok _ => (.ok (((f_J9_floorMod_f86c9 (f_X0_nearPower p0 p1) ((p2 : Int32).toInt64)) : Int64).toInt32)))))
set_option maxHeartbeats 4000000 in
set_option maxRecDepth 100000 in
theorem met_X0_rest (l : Launch) (hfl : l.stackTraces = false) (D : va_G) (cI cJ : ClassId) (ad : Nat → Nat) (S : pS) (p0 : Int32) (p1 : Int32) (p2 : Int32) : vx_Met l yX0_rest wsX0_rest ({ frames := 8, cells := 4, slots := 24, locals := 127 } : Room) (va_Pc [.ref (ad 0), .int p0, .int p1, .int p2] (fun U => b0R D cI cJ ad S U ∧ xE (fun _ => False) U U.heap)) (va_Qi (fun (r : Int32) (u : Unit) => f_X0_rest S p0 p1 p2 = .ok r) (fun _ _ => True) (fun _ => False)) (vx_X (fun k : Nat => f_X0_rest S p0 p1 p2 = .error k) (fun E k _ => E = exN k) (fun _ => False)) 4 24 (fun _ => False) := by
  refine vx_ofW (cc := cX0_rest) (maxL := 4) (ret := (some .int)) (by decide) rfl ?_
  intro p e s m args below meth c s₁ B hml hno hv
  obtain ⟨rfl, ⟨hP, hK⟩, hE⟩ := hv
  have hx := B.exec
  have hb := B.bytes
  have hr := B.returns
  have hts := atoms_spec (ws := wsX0_rest) B.pre
  have hown : s.vm.findClass RX0 = some m.cls := findClass_of_methodNamed B.named
  have hlocks := B.notSynchronized
  have hS : va_S (fun _ => False) s.heap s.heap [] := va_S.rf
  have hl := lv_entry ([.ref (ad 0), .int p0, .int p1, .int p2]) (n := 4) (Nat.le_of_ble_eq_true rfl)
  rw [lg_entry_eq]
  generalize (lg_sl ([.ref (ad 0), .int p0, .int p1, .int p2]) ++ List.replicate (4 - (lg_sl ([.ref (ad 0), .int p0, .int p1, .int p2])).length) Slot.unset).toArray = ls at hl ⊢
  have hl : lv_has ls 4 [(0, .ref (ad 0)), (1, .int p0), (2, .int p1), (3, .int p2)] := hl
  obtain ⟨Q, hQ⟩ : ∃ Q : State → Prop, Q = (vx_MQ below (va_Qi (fun (r : Int32) (u : Unit) => f_X0_rest S p0 p1 p2 = .ok r) (fun _ _ => True) (fun _ => False)) (vx_X (fun k : Nat => f_X0_rest S p0 p1 p2 = .error k) (fun E k _ => E = exN k) (fun _ => False)) ([.ref (ad 0), .int p0, .int p1, .int p2] : List Value).toArray s 4 24 (fun _ => False)) := ⟨_, rfl⟩
  rw [← hQ]
  have hR : f_X0_rest S p0 p1 p2 = f_X0_rest S p0 p1 p2 := rfl
  refine lv_iload_n hx hb dX0_rest_0 rfl (lv_at hl 1 rfl) ?_
  refine lv_iload_n hx hb dX0_rest_1 rfl (lv_at hl 2 rfl) ?_
  refine vx_callv (vx_runS (As := [.int p0, .int p1]) (rest := []) ⟨hx, hb, hml, hown, hts⟩ (met_X0_checkBaseAndExponent l hfl p0 p1) (va_cwS 2 hts gX0_rest_X0_checkBaseAndExponent rfl rfl rfl (by decide +kernel) ⟨Nat.le_of_ble_eq_true rfl, Nat.le_of_ble_eq_true rfl⟩) ⟨fun a U g mk q => ⟨q.1, xE_calling q.2⟩, fun U hU hW => ⟨rfl, xE_at hE hS hU hW⟩⟩ rfl rfl hl.1 rfl (lv_room (Nat.le_of_ble_eq_true rfl)) dX0_rest_2 ⟨Nat.le_of_ble_eq_true rfl, Nat.le_of_ble_eq_true rfl⟩) hS (fun q _ h => h.elim) (fun q h => h.elim) (fun q _ h => h.elim) (fun E ce q9 k2 t H locs ht hvm hw2 hB hz hk hS hc9 hv9 hf9 => ?_) (fun u2 t H locs ht hvm hw2 hB hz hk hS => ?_)
  · skip
    rw [hQ]
    exact vx_out (fun x hx => (hno x hx).elim) hlocks hc9 hv9 hf9 (fun t9 ht9 hvm9 => ⟨k2, (hR.trans (by simp only [f_X0_rest, hw2])), hB, hS.F ht9⟩) hS.2.2 (Nat.le_of_ble_eq_true rfl) (Nat.le_of_ble_eq_true rfl)
  · skip
    have hP := hP.kept (fun k q hk9 => hk _ (vx_lt hP hk9) (fun h => h))
    refine lv_iload_n hx hb dX0_rest_5 rfl (lv_at hl 3 rfl) ?_
    refine lv_iconst (v := 1) hx hb dX0_rest_6 (by decide) ?_
    refine lv_sipush (v := 1000) hx hb dX0_rest_7 (by decide) ?_
    refine vx_callv (vx_runS (As := [.int p2, .int 1, .int 1000]) (rest := []) ⟨hx, hb, hml, hown, hts⟩ (met_X0_checkRange l hfl p2 1 1000) (va_cwS 3 hts gX0_rest_X0_checkRange rfl rfl rfl (by decide +kernel) ⟨Nat.le_of_ble_eq_true rfl, Nat.le_of_ble_eq_true rfl⟩) ⟨fun a U g mk q => ⟨q.1, xE_calling q.2⟩, fun U hU hW => ⟨rfl, xE_at hE hS hU hW⟩⟩ rfl rfl hl.1 rfl (lv_room (Nat.le_of_ble_eq_true rfl)) dX0_rest_10 ⟨Nat.le_of_ble_eq_true rfl, Nat.le_of_ble_eq_true rfl⟩) hS (fun q _ h => h.elim) (fun q h => h.elim) (fun q _ h => h.elim) (fun E ce q9 k10 t H locs ht hvm hw10 hB hz hk hS hc9 hv9 hf9 => ?_) (fun u10 t H locs ht hvm hw10 hB hz hk hS => ?_)
    · skip
      rw [hQ]
      exact vx_out (fun x hx => (hno x hx).elim) hlocks hc9 hv9 hf9 (fun t9 ht9 hvm9 => ⟨k10, (hR.trans (by simp only [f_X0_rest, hw2, hw10])), hB, hS.F ht9⟩) hS.2.2 (Nat.le_of_ble_eq_true rfl) (Nat.le_of_ble_eq_true rfl)
    · skip
      have hP := hP.kept (fun k q hk9 => hk _ (vx_lt hP hk9) (fun h => h))
      have hz10 : ¬ ((p2 : Int32).toInt64) = 0 := range1_nz hw10
      refine lv_iload_n hx hb dX0_rest_13 rfl (lv_at hl 1 rfl) ?_
      refine lv_iload_n hx hb dX0_rest_14 rfl (lv_at hl 2 rfl) ?_
      refine vx_callv (vx_runS (As := [.int p0, .int p1]) (rest := []) ⟨hx, hb, hml, hown, hts⟩ (met_X0_checkPowerNear l hfl p0 p1) (va_cwS 2 hts gX0_rest_X0_checkPowerNear rfl rfl rfl (by decide +kernel) ⟨Nat.le_of_ble_eq_true rfl, Nat.le_of_ble_eq_true rfl⟩) ⟨fun a U g mk q => ⟨q.1, xE_calling q.2⟩, fun U hU hW => ⟨rfl, xE_at hE hS hU hW⟩⟩ rfl rfl hl.1 rfl (lv_room (Nat.le_of_ble_eq_true rfl)) dX0_rest_15 ⟨Nat.le_of_ble_eq_true rfl, Nat.le_of_ble_eq_true rfl⟩) hS (fun q _ h => h.elim) (fun q h => h.elim) (fun q _ h => h.elim) (fun E ce q9 k15 t H locs ht hvm hw15 hB hz hk hS hc9 hv9 hf9 => ?_) (fun u15 t H locs ht hvm hw15 hB hz hk hS => ?_)
      · skip
        rw [hQ]
        exact vx_out (fun x hx => (hno x hx).elim) hlocks hc9 hv9 hf9 (fun t9 ht9 hvm9 => ⟨k15, (hR.trans (by simp only [f_X0_rest, hw2, hw10, hw15])), hB, hS.F ht9⟩) hS.2.2 (Nat.le_of_ble_eq_true rfl) (Nat.le_of_ble_eq_true rfl)
      · skip
        have hP := hP.kept (fun k q hk9 => hk _ (vx_lt hP hk9) (fun h => h))
        refine lv_iload_n hx hb dX0_rest_18 rfl (lv_at hl 1 rfl) ?_
        refine lv_iload_n hx hb dX0_rest_19 rfl (lv_at hl 2 rfl) ?_
        refine va_calll (va_runS (As := [.int p0, .int p1]) (rest := []) ⟨hx, hb, hml, hown, hts⟩ (met_X0_nearPower l p0 p1) (va_cwS 2 hts gX0_rest_X0_nearPower rfl rfl rfl (by decide +kernel) ⟨Nat.le_of_ble_eq_true rfl, Nat.le_of_ble_eq_true rfl⟩) ⟨fun a U g mk q => q, fun U hU hW => ⟨rfl, trivial⟩⟩ rfl rfl hl.1 rfl (lv_room (Nat.le_of_ble_eq_true rfl)) dX0_rest_20 ⟨Nat.le_of_ble_eq_true rfl, Nat.le_of_ble_eq_true rfl⟩) hS (fun q _ h => h.elim) (fun q h => h.elim) (fun r20 u20 t H locs ht hvm hw20 hB hz hk hS => ?_)
        subst hw20
        have hP := hP.kept (fun k q hk9 => hk _ (vx_lt hP hk9) (fun h => h))
        refine lv_iload_n hx hb dX0_rest_23 rfl (lv_at hl 3 rfl) ?_
        refine lv_i2l hx hb dX0_rest_24 rfl ?_
        refine va_calll (va_runS (As := [.long (f_X0_nearPower p0 p1), .long ((p2 : Int32).toInt64)]) (rest := []) ⟨hx, hb, hml, hown, hts⟩ (met_J9_floorMod_f86c9 l (f_X0_nearPower p0 p1) ((p2 : Int32).toInt64) (hz10)) (va_cwS 2 hts gX0_rest_J9_floorMod_f86c9 rfl rfl rfl (by decide +kernel) ⟨Nat.le_of_ble_eq_true rfl, Nat.le_of_ble_eq_true rfl⟩) ⟨fun a U g mk q => q, fun U hU hW => ⟨rfl, trivial⟩⟩ rfl rfl hl.1 rfl (lv_room (Nat.le_of_ble_eq_true rfl)) dX0_rest_25 ⟨Nat.le_of_ble_eq_true rfl, Nat.le_of_ble_eq_true rfl⟩) hS (fun q _ h => h.elim) (fun q h => h.elim) (fun r25 u25 t H locs ht hvm hw25 hB hz hk hS => ?_)
        subst hw25
        have hP := hP.kept (fun k q hk9 => hk _ (vx_lt hP hk9) (fun h => h))
        refine lv_l2i hx hb dX0_rest_28 rfl ?_
        rw [hQ]
        refine vx_ret ?_
        exact W.iret (v := (((f_J9_floorMod_f86c9 (f_X0_nearPower p0 p1) ((p2 : Int32).toInt64)) : Int64).toInt32)) hx hb hr (fun t ht hW => ⟨⟨(((f_J9_floorMod_f86c9 (f_X0_nearPower p0 p1) ((p2 : Int32).toInt64)) : Int64).toInt32), (), rfl, (hR.trans (by simp only [f_X0_rest, hw2, hw10, hw15])), trivial⟩, hS.F ht⟩) hS.2.2 dX0_rest_29

def f_X0_isFermat (S : pS) (p0 : Int32) (p1 : Int32) : Except Nat Int32 := (match f_X0_checkBaseAndExponent p0 p1 with | .error k => .error k | .ok _ => (match f_X0_checkRange p1 1 64 with | .error k => .error k | .ok _ => (match f_X0_checkPowerNear p0 p1 with | .error k => .error k | .ok _ => (if ((((f_X0_nearPower p0 p1) - ((p0 : Int32).toInt64)) - ((f_X0_nearPower p0 p1) - ((p0 : Int32).toInt64)) / ((p1 : Int32).toInt64) * ((p1 : Int32).toInt64)) : Int64) = 0 then (.ok 1) else (.ok 0)))))
set_option maxHeartbeats 4000000 in
set_option maxRecDepth 100000 in
theorem met_X0_isFermat (l : Launch) (hfl : l.stackTraces = false) (D : va_G) (cI cJ : ClassId) (ad : Nat → Nat) (S : pS) (p0 : Int32) (p1 : Int32) : vx_Met l yX0_isFermat wsX0_isFermat ({ frames := 8, cells := 4, slots := 24, locals := 127 } : Room) (va_Pc [.ref (ad 0), .int p0, .int p1] (fun U => b0R D cI cJ ad S U ∧ xE (fun _ => False) U U.heap)) (va_Qi (fun (r : Int32) (u : Unit) => f_X0_isFermat S p0 p1 = .ok r ∧ (r = 0 ∨ r = 1)) (fun _ _ => True) (fun _ => False)) (vx_X (fun k : Nat => f_X0_isFermat S p0 p1 = .error k) (fun E k _ => E = exN k) (fun _ => False)) 4 24 (fun _ => False) := by
  refine vx_ofW (cc := cX0_isFermat) (maxL := 3) (ret := (some .boolean)) (by decide) rfl ?_
  intro p e s m args below meth c s₁ B hml hno hv
  obtain ⟨rfl, ⟨hP, hK⟩, hE⟩ := hv
  have hx := B.exec
  have hb := B.bytes
  have hr := B.returns
  have hts := atoms_spec (ws := wsX0_isFermat) B.pre
  have hown : s.vm.findClass RX0 = some m.cls := findClass_of_methodNamed B.named
  have hlocks := B.notSynchronized
  have hS : va_S (fun _ => False) s.heap s.heap [] := va_S.rf
  have hl := lv_entry ([.ref (ad 0), .int p0, .int p1]) (n := 3) (Nat.le_of_ble_eq_true rfl)
  rw [lg_entry_eq]
  generalize (lg_sl ([.ref (ad 0), .int p0, .int p1]) ++ List.replicate (3 - (lg_sl ([.ref (ad 0), .int p0, .int p1])).length) Slot.unset).toArray = ls at hl ⊢
  have hl : lv_has ls 3 [(0, .ref (ad 0)), (1, .int p0), (2, .int p1)] := hl
  obtain ⟨Q, hQ⟩ : ∃ Q : State → Prop, Q = (vx_MQ below (va_Qi (fun (r : Int32) (u : Unit) => f_X0_isFermat S p0 p1 = .ok r ∧ (r = 0 ∨ r = 1)) (fun _ _ => True) (fun _ => False)) (vx_X (fun k : Nat => f_X0_isFermat S p0 p1 = .error k) (fun E k _ => E = exN k) (fun _ => False)) ([.ref (ad 0), .int p0, .int p1] : List Value).toArray s 4 24 (fun _ => False)) := ⟨_, rfl⟩
  rw [← hQ]
  have hR : f_X0_isFermat S p0 p1 = f_X0_isFermat S p0 p1 := rfl
  refine lv_iload_n hx hb dX0_isFermat_0 rfl (lv_at hl 1 rfl) ?_
  refine lv_iload_n hx hb dX0_isFermat_1 rfl (lv_at hl 2 rfl) ?_
  refine vx_callv (vx_runS (As := [.int p0, .int p1]) (rest := []) ⟨hx, hb, hml, hown, hts⟩ (met_X0_checkBaseAndExponent l hfl p0 p1) (va_cwS 2 hts gX0_isFermat_X0_checkBaseAndExponent rfl rfl rfl (by decide +kernel) ⟨Nat.le_of_ble_eq_true rfl, Nat.le_of_ble_eq_true rfl⟩) ⟨fun a U g mk q => ⟨q.1, xE_calling q.2⟩, fun U hU hW => ⟨rfl, xE_at hE hS hU hW⟩⟩ rfl rfl hl.1 rfl (lv_room (Nat.le_of_ble_eq_true rfl)) dX0_isFermat_2 ⟨Nat.le_of_ble_eq_true rfl, Nat.le_of_ble_eq_true rfl⟩) hS (fun q _ h => h.elim) (fun q h => h.elim) (fun q _ h => h.elim) (fun E ce q9 k2 t H locs ht hvm hw2 hB hz hk hS hc9 hv9 hf9 => ?_) (fun u2 t H locs ht hvm hw2 hB hz hk hS => ?_)
  · skip
    rw [hQ]
    exact vx_out (fun x hx => (hno x hx).elim) hlocks hc9 hv9 hf9 (fun t9 ht9 hvm9 => ⟨k2, (hR.trans (by simp only [f_X0_isFermat, hw2])), hB, hS.F ht9⟩) hS.2.2 (Nat.le_of_ble_eq_true rfl) (Nat.le_of_ble_eq_true rfl)
  · skip
    have hP := hP.kept (fun k q hk9 => hk _ (vx_lt hP hk9) (fun h => h))
    refine lv_iload_n hx hb dX0_isFermat_5 rfl (lv_at hl 2 rfl) ?_
    refine lv_iconst (v := 1) hx hb dX0_isFermat_6 (by decide) ?_
    refine lv_bipush (v := 64) hx hb dX0_isFermat_7 (by decide) ?_
    refine vx_callv (vx_runS (As := [.int p1, .int 1, .int 64]) (rest := []) ⟨hx, hb, hml, hown, hts⟩ (met_X0_checkRange l hfl p1 1 64) (va_cwS 3 hts gX0_isFermat_X0_checkRange rfl rfl rfl (by decide +kernel) ⟨Nat.le_of_ble_eq_true rfl, Nat.le_of_ble_eq_true rfl⟩) ⟨fun a U g mk q => ⟨q.1, xE_calling q.2⟩, fun U hU hW => ⟨rfl, xE_at hE hS hU hW⟩⟩ rfl rfl hl.1 rfl (lv_room (Nat.le_of_ble_eq_true rfl)) dX0_isFermat_9 ⟨Nat.le_of_ble_eq_true rfl, Nat.le_of_ble_eq_true rfl⟩) hS (fun q _ h => h.elim) (fun q h => h.elim) (fun q _ h => h.elim) (fun E ce q9 k9 t H locs ht hvm hw9 hB hz hk hS hc9 hv9 hf9 => ?_) (fun u9 t H locs ht hvm hw9 hB hz hk hS => ?_)
    · skip
      rw [hQ]
      exact vx_out (fun x hx => (hno x hx).elim) hlocks hc9 hv9 hf9 (fun t9 ht9 hvm9 => ⟨k9, (hR.trans (by simp only [f_X0_isFermat, hw2, hw9])), hB, hS.F ht9⟩) hS.2.2 (Nat.le_of_ble_eq_true rfl) (Nat.le_of_ble_eq_true rfl)
    · skip
      have hP := hP.kept (fun k q hk9 => hk _ (vx_lt hP hk9) (fun h => h))
      have hz9 : ¬ ((p1 : Int32).toInt64) = 0 := range1_nz hw9
      refine lv_iload_n hx hb dX0_isFermat_12 rfl (lv_at hl 1 rfl) ?_
      refine lv_iload_n hx hb dX0_isFermat_13 rfl (lv_at hl 2 rfl) ?_
      refine vx_callv (vx_runS (As := [.int p0, .int p1]) (rest := []) ⟨hx, hb, hml, hown, hts⟩ (met_X0_checkPowerNear l hfl p0 p1) (va_cwS 2 hts gX0_isFermat_X0_checkPowerNear rfl rfl rfl (by decide +kernel) ⟨Nat.le_of_ble_eq_true rfl, Nat.le_of_ble_eq_true rfl⟩) ⟨fun a U g mk q => ⟨q.1, xE_calling q.2⟩, fun U hU hW => ⟨rfl, xE_at hE hS hU hW⟩⟩ rfl rfl hl.1 rfl (lv_room (Nat.le_of_ble_eq_true rfl)) dX0_isFermat_14 ⟨Nat.le_of_ble_eq_true rfl, Nat.le_of_ble_eq_true rfl⟩) hS (fun q _ h => h.elim) (fun q h => h.elim) (fun q _ h => h.elim) (fun E ce q9 k14 t H locs ht hvm hw14 hB hz hk hS hc9 hv9 hf9 => ?_) (fun u14 t H locs ht hvm hw14 hB hz hk hS => ?_)
      · skip
        rw [hQ]
        exact vx_out (fun x hx => (hno x hx).elim) hlocks hc9 hv9 hf9 (fun t9 ht9 hvm9 => ⟨k14, (hR.trans (by simp only [f_X0_isFermat, hw2, hw9, hw14])), hB, hS.F ht9⟩) hS.2.2 (Nat.le_of_ble_eq_true rfl) (Nat.le_of_ble_eq_true rfl)
      · skip
        have hP := hP.kept (fun k q hk9 => hk _ (vx_lt hP hk9) (fun h => h))
        refine lv_iload_n hx hb dX0_isFermat_17 rfl (lv_at hl 1 rfl) ?_
        refine lv_iload_n hx hb dX0_isFermat_18 rfl (lv_at hl 2 rfl) ?_
        refine va_calll (va_runS (As := [.int p0, .int p1]) (rest := []) ⟨hx, hb, hml, hown, hts⟩ (met_X0_nearPower l p0 p1) (va_cwS 2 hts gX0_isFermat_X0_nearPower rfl rfl rfl (by decide +kernel) ⟨Nat.le_of_ble_eq_true rfl, Nat.le_of_ble_eq_true rfl⟩) ⟨fun a U g mk q => q, fun U hU hW => ⟨rfl, trivial⟩⟩ rfl rfl hl.1 rfl (lv_room (Nat.le_of_ble_eq_true rfl)) dX0_isFermat_19 ⟨Nat.le_of_ble_eq_true rfl, Nat.le_of_ble_eq_true rfl⟩) hS (fun q _ h => h.elim) (fun q h => h.elim) (fun r19 u19 t H locs ht hvm hw19 hB hz hk hS => ?_)
        subst hw19
        have hP := hP.kept (fun k q hk9 => hk _ (vx_lt hP hk9) (fun h => h))
        refine lv_iload_n hx hb dX0_isFermat_22 rfl (lv_at hl 1 rfl) ?_
        refine lv_i2l hx hb dX0_isFermat_23 rfl ?_
        refine lv_lsub hx hb dX0_isFermat_24 ?_
        refine lv_iload_n hx hb dX0_isFermat_25 rfl (lv_at hl 2 rfl) ?_
        refine lv_i2l hx hb dX0_isFermat_26 rfl ?_
        refine lv_lrem hx hb dX0_isFermat_27 (hz9) ?_
        refine lv_lconst (v := 0) hx hb dX0_isFermat_28 rfl ?_
        refine W.lcmp hx hb dX0_isFermat_29 ?_
        refine lv_if_ne (tgt := 37) hx hb dX0_isFermat_30 (by decide) (fun c29 => ?_) (fun c29 => ?_)
        · skip
          have c29 : ¬ (((((f_X0_nearPower p0 p1) - ((p0 : Int32).toInt64)) - ((f_X0_nearPower p0 p1) - ((p0 : Int32).toInt64)) / ((p1 : Int32).toInt64) * ((p1 : Int32).toInt64)) : Int64) = 0) := fun h => c29 ((lg_cmp_eq _ _).mpr h)
          refine lv_iconst (v := 0) hx hb dX0_isFermat_37 (by decide) ?_
          rw [hQ]
          refine vx_ret ?_
          exact W.zret (ty := .boolean) (v := 0) hx hb hr (nbool (Or.inl rfl)) (fun t ht hW => ⟨⟨0, (), rfl, ⟨(hR.trans (by simp only [f_X0_isFermat, hw2, hw9, hw14, if_neg c29])), (Or.inl rfl)⟩, trivial⟩, hS.F ht⟩) hS.2.2 dX0_isFermat_38
        · skip
          have c29 : ((((f_X0_nearPower p0 p1) - ((p0 : Int32).toInt64)) - ((f_X0_nearPower p0 p1) - ((p0 : Int32).toInt64)) / ((p1 : Int32).toInt64) * ((p1 : Int32).toInt64)) : Int64) = 0 := (lg_cmp_eq _ _).mp c29
          refine lv_iconst (v := 1) hx hb dX0_isFermat_33 (by decide) ?_
          refine lv_goto (tgt := 38) hx hb dX0_isFermat_34 (by decide) ?_
          rw [hQ]
          refine vx_ret ?_
          exact W.zret (ty := .boolean) (v := 1) hx hb hr (nbool (Or.inr rfl)) (fun t ht hW => ⟨⟨1, (), rfl, ⟨(hR.trans (by simp only [f_X0_isFermat, hw2, hw9, hw14, if_pos c29])), (Or.inr rfl)⟩, trivial⟩, hS.F ht⟩) hS.2.2 dX0_isFermat_38

def g_X0_isNested_80n (p0 : Int32) (p1 : Int32) (p2 : Int32) (x80 : Int64) : Except Nat Int32 := (if (x80 : Int64) = (f_X0_powerBits p0 (p1 * p2)) then (.ok 1) else (.ok 0))
def f_X0_isNested (S : pS) (p0 : Int32) (p1 : Int32) (p2 : Int32) : Except Nat Int32 := (match f_X0_checkBaseAndExponent p0 p1 with | .error k => .error k | .ok _ => (match f_X0_checkRange p2 0 64 with | .error k => .error k | .ok _ => (match f_X0_checkRange (p1 * p2) 0 64 with | .error k => .error k | .ok _ => (match f_X0_checkTold p0 p1 with | .error k => .error k | .ok _ => (match f_X0_checkTold p0 (p1 * p2) with | .error k => .error k | .ok _ => (g_X0_isNested_80n p0 p1 p2 (f_X0_bitsOf (f_X0_powerSign (f_X0_powerSign (f_X0_signOf p0) p1) p2) (f_X0_powerOdd (f_X0_powerOdd (f_X0_oddOf p0) p1) p2) (((f_X0_shiftOf p0) * p1) * p2))))))))
set_option maxHeartbeats 4000000 in
set_option maxRecDepth 100000 in
theorem met_X0_isNested (l : Launch) (hfl : l.stackTraces = false) (D : va_G) (cI cJ : ClassId) (ad : Nat → Nat) (S : pS) (p0 : Int32) (p1 : Int32) (p2 : Int32) : vx_Met l yX0_isNested wsX0_isNested ({ frames := 8, cells := 6, slots := 36, locals := 127 } : Room) (va_Pc [.ref (ad 0), .int p0, .int p1, .int p2] (fun U => b0R D cI cJ ad S U ∧ xE (fun _ => False) U U.heap)) (va_Qi (fun (r : Int32) (u : Unit) => f_X0_isNested S p0 p1 p2 = .ok r ∧ (r = 0 ∨ r = 1)) (fun _ _ => True) (fun _ => False)) (vx_X (fun k : Nat => f_X0_isNested S p0 p1 p2 = .error k) (fun E k _ => E = exN k) (fun _ => False)) 6 36 (fun _ => False) := by
  refine vx_ofW (cc := cX0_isNested) (maxL := 10) (ret := (some .boolean)) (by decide) rfl ?_
  intro p e s m args below meth c s₁ B hml hno hv
  obtain ⟨rfl, ⟨hP, hK⟩, hE⟩ := hv
  have hx := B.exec
  have hb := B.bytes
  have hr := B.returns
  have hts := atoms_spec (ws := wsX0_isNested) B.pre
  have hown : s.vm.findClass RX0 = some m.cls := findClass_of_methodNamed B.named
  have hlocks := B.notSynchronized
  have hS : va_S (fun _ => False) s.heap s.heap [] := va_S.rf
  have hl := lv_entry ([.ref (ad 0), .int p0, .int p1, .int p2]) (n := 10) (Nat.le_of_ble_eq_true rfl)
  rw [lg_entry_eq]
  generalize (lg_sl ([.ref (ad 0), .int p0, .int p1, .int p2]) ++ List.replicate (10 - (lg_sl ([.ref (ad 0), .int p0, .int p1, .int p2])).length) Slot.unset).toArray = ls at hl ⊢
  have hl : lv_has ls 10 [(0, .ref (ad 0)), (1, .int p0), (2, .int p1), (3, .int p2)] := hl
  obtain ⟨Q, hQ⟩ : ∃ Q : State → Prop, Q = (vx_MQ below (va_Qi (fun (r : Int32) (u : Unit) => f_X0_isNested S p0 p1 p2 = .ok r ∧ (r = 0 ∨ r = 1)) (fun _ _ => True) (fun _ => False)) (vx_X (fun k : Nat => f_X0_isNested S p0 p1 p2 = .error k) (fun E k _ => E = exN k) (fun _ => False)) ([.ref (ad 0), .int p0, .int p1, .int p2] : List Value).toArray s 6 36 (fun _ => False)) := ⟨_, rfl⟩
  rw [← hQ]
  have hR : f_X0_isNested S p0 p1 p2 = f_X0_isNested S p0 p1 p2 := rfl
  refine lv_iload_n hx hb dX0_isNested_0 rfl (lv_at hl 1 rfl) ?_
  refine lv_iload_n hx hb dX0_isNested_1 rfl (lv_at hl 2 rfl) ?_
  refine vx_callv (vx_runS (As := [.int p0, .int p1]) (rest := []) ⟨hx, hb, hml, hown, hts⟩ (met_X0_checkBaseAndExponent l hfl p0 p1) (va_cwS 2 hts gX0_isNested_X0_checkBaseAndExponent rfl rfl rfl (by decide +kernel) ⟨Nat.le_of_ble_eq_true rfl, Nat.le_of_ble_eq_true rfl⟩) ⟨fun a U g mk q => ⟨q.1, xE_calling q.2⟩, fun U hU hW => ⟨rfl, xE_at hE hS hU hW⟩⟩ rfl rfl hl.1 rfl (lv_room (Nat.le_of_ble_eq_true rfl)) dX0_isNested_2 ⟨Nat.le_of_ble_eq_true rfl, Nat.le_of_ble_eq_true rfl⟩) hS (fun q _ h => h.elim) (fun q h => h.elim) (fun q _ h => h.elim) (fun E ce q9 k2 t H locs ht hvm hw2 hB hz hk hS hc9 hv9 hf9 => ?_) (fun u2 t H locs ht hvm hw2 hB hz hk hS => ?_)
  · skip
    rw [hQ]
    exact vx_out (fun x hx => (hno x hx).elim) hlocks hc9 hv9 hf9 (fun t9 ht9 hvm9 => ⟨k2, (hR.trans (by simp only [f_X0_isNested, hw2])), hB, hS.F ht9⟩) hS.2.2 (Nat.le_of_ble_eq_true rfl) (Nat.le_of_ble_eq_true rfl)
  · skip
    have hP := hP.kept (fun k q hk9 => hk _ (vx_lt hP hk9) (fun h => h))
    refine lv_iload_n hx hb dX0_isNested_5 rfl (lv_at hl 3 rfl) ?_
    refine lv_iconst (v := 0) hx hb dX0_isNested_6 (by decide) ?_
    refine lv_bipush (v := 64) hx hb dX0_isNested_7 (by decide) ?_
    refine vx_callv (vx_runS (As := [.int p2, .int 0, .int 64]) (rest := []) ⟨hx, hb, hml, hown, hts⟩ (met_X0_checkRange l hfl p2 0 64) (va_cwS 3 hts gX0_isNested_X0_checkRange rfl rfl rfl (by decide +kernel) ⟨Nat.le_of_ble_eq_true rfl, Nat.le_of_ble_eq_true rfl⟩) ⟨fun a U g mk q => ⟨q.1, xE_calling q.2⟩, fun U hU hW => ⟨rfl, xE_at hE hS hU hW⟩⟩ rfl rfl hl.1 rfl (lv_room (Nat.le_of_ble_eq_true rfl)) dX0_isNested_9 ⟨Nat.le_of_ble_eq_true rfl, Nat.le_of_ble_eq_true rfl⟩) hS (fun q _ h => h.elim) (fun q h => h.elim) (fun q _ h => h.elim) (fun E ce q9 k9 t H locs ht hvm hw9 hB hz hk hS hc9 hv9 hf9 => ?_) (fun u9 t H locs ht hvm hw9 hB hz hk hS => ?_)
    · skip
      rw [hQ]
      exact vx_out (fun x hx => (hno x hx).elim) hlocks hc9 hv9 hf9 (fun t9 ht9 hvm9 => ⟨k9, (hR.trans (by simp only [f_X0_isNested, hw2, hw9])), hB, hS.F ht9⟩) hS.2.2 (Nat.le_of_ble_eq_true rfl) (Nat.le_of_ble_eq_true rfl)
    · skip
      have hP := hP.kept (fun k q hk9 => hk _ (vx_lt hP hk9) (fun h => h))
      refine lv_iload_n hx hb dX0_isNested_12 rfl (lv_at hl 2 rfl) ?_
      refine lv_iload_n hx hb dX0_isNested_13 rfl (lv_at hl 3 rfl) ?_
      refine lv_imul hx hb dX0_isNested_14 ?_
      refine lv_iconst (v := 0) hx hb dX0_isNested_15 (by decide) ?_
      refine lv_bipush (v := 64) hx hb dX0_isNested_16 (by decide) ?_
      refine vx_callv (vx_runS (As := [.int (p1 * p2), .int 0, .int 64]) (rest := []) ⟨hx, hb, hml, hown, hts⟩ (met_X0_checkRange l hfl (p1 * p2) 0 64) (va_cwS 3 hts gX0_isNested_X0_checkRange rfl rfl rfl (by decide +kernel) ⟨Nat.le_of_ble_eq_true rfl, Nat.le_of_ble_eq_true rfl⟩) ⟨fun a U g mk q => ⟨q.1, xE_calling q.2⟩, fun U hU hW => ⟨rfl, xE_at hE hS hU hW⟩⟩ rfl rfl hl.1 rfl (lv_room (Nat.le_of_ble_eq_true rfl)) dX0_isNested_18 ⟨Nat.le_of_ble_eq_true rfl, Nat.le_of_ble_eq_true rfl⟩) hS (fun q _ h => h.elim) (fun q h => h.elim) (fun q _ h => h.elim) (fun E ce q9 k18 t H locs ht hvm hw18 hB hz hk hS hc9 hv9 hf9 => ?_) (fun u18 t H locs ht hvm hw18 hB hz hk hS => ?_)
      · skip
        rw [hQ]
        exact vx_out (fun x hx => (hno x hx).elim) hlocks hc9 hv9 hf9 (fun t9 ht9 hvm9 => ⟨k18, (hR.trans (by simp only [f_X0_isNested, hw2, hw9, hw18])), hB, hS.F ht9⟩) hS.2.2 (Nat.le_of_ble_eq_true rfl) (Nat.le_of_ble_eq_true rfl)
      · skip
        have hP := hP.kept (fun k q hk9 => hk _ (vx_lt hP hk9) (fun h => h))
        refine lv_iload_n hx hb dX0_isNested_21 rfl (lv_at hl 1 rfl) ?_
        refine lv_iload_n hx hb dX0_isNested_22 rfl (lv_at hl 2 rfl) ?_
        refine vx_callv (vx_runS (As := [.int p0, .int p1]) (rest := []) ⟨hx, hb, hml, hown, hts⟩ (met_X0_checkTold l hfl p0 p1) (va_cwS 2 hts gX0_isNested_X0_checkTold rfl rfl rfl (by decide +kernel) ⟨Nat.le_of_ble_eq_true rfl, Nat.le_of_ble_eq_true rfl⟩) ⟨fun a U g mk q => ⟨q.1, xE_calling q.2⟩, fun U hU hW => ⟨rfl, xE_at hE hS hU hW⟩⟩ rfl rfl hl.1 rfl (lv_room (Nat.le_of_ble_eq_true rfl)) dX0_isNested_23 ⟨Nat.le_of_ble_eq_true rfl, Nat.le_of_ble_eq_true rfl⟩) hS (fun q _ h => h.elim) (fun q h => h.elim) (fun q _ h => h.elim) (fun E ce q9 k23 t H locs ht hvm hw23 hB hz hk hS hc9 hv9 hf9 => ?_) (fun u23 t H locs ht hvm hw23 hB hz hk hS => ?_)
        · skip
          rw [hQ]
          exact vx_out (fun x hx => (hno x hx).elim) hlocks hc9 hv9 hf9 (fun t9 ht9 hvm9 => ⟨k23, (hR.trans (by simp only [f_X0_isNested, hw2, hw9, hw18, hw23])), hB, hS.F ht9⟩) hS.2.2 (Nat.le_of_ble_eq_true rfl) (Nat.le_of_ble_eq_true rfl)
        · skip
          have hP := hP.kept (fun k q hk9 => hk _ (vx_lt hP hk9) (fun h => h))
          refine lv_iload_n hx hb dX0_isNested_26 rfl (lv_at hl 1 rfl) ?_
          refine lv_iload_n hx hb dX0_isNested_27 rfl (lv_at hl 2 rfl) ?_
          refine lv_iload_n hx hb dX0_isNested_28 rfl (lv_at hl 3 rfl) ?_
          refine lv_imul hx hb dX0_isNested_29 ?_
          refine vx_callv (vx_runS (As := [.int p0, .int (p1 * p2)]) (rest := []) ⟨hx, hb, hml, hown, hts⟩ (met_X0_checkTold l hfl p0 (p1 * p2)) (va_cwS 2 hts gX0_isNested_X0_checkTold rfl rfl rfl (by decide +kernel) ⟨Nat.le_of_ble_eq_true rfl, Nat.le_of_ble_eq_true rfl⟩) ⟨fun a U g mk q => ⟨q.1, xE_calling q.2⟩, fun U hU hW => ⟨rfl, xE_at hE hS hU hW⟩⟩ rfl rfl hl.1 rfl (lv_room (Nat.le_of_ble_eq_true rfl)) dX0_isNested_30 ⟨Nat.le_of_ble_eq_true rfl, Nat.le_of_ble_eq_true rfl⟩) hS (fun q _ h => h.elim) (fun q h => h.elim) (fun q _ h => h.elim) (fun E ce q9 k30 t H locs ht hvm hw30 hB hz hk hS hc9 hv9 hf9 => ?_) (fun u30 t H locs ht hvm hw30 hB hz hk hS => ?_)
          · skip
            rw [hQ]
            exact vx_out (fun x hx => (hno x hx).elim) hlocks hc9 hv9 hf9 (fun t9 ht9 hvm9 => ⟨k30, (hR.trans (by simp only [f_X0_isNested, hw2, hw9, hw18, hw23, hw30])), hB, hS.F ht9⟩) hS.2.2 (Nat.le_of_ble_eq_true rfl) (Nat.le_of_ble_eq_true rfl)
          · skip
            have hP := hP.kept (fun k q hk9 => hk _ (vx_lt hP hk9) (fun h => h))
            refine lv_iload_n hx hb dX0_isNested_33 rfl (lv_at hl 1 rfl) ?_
            refine va_calli (va_runS (As := [.int p0]) (rest := []) ⟨hx, hb, hml, hown, hts⟩ (met_X0_signOf l p0) (va_cwS 1 hts gX0_isNested_X0_signOf rfl rfl rfl (by decide +kernel) ⟨Nat.le_of_ble_eq_true rfl, Nat.le_of_ble_eq_true rfl⟩) ⟨fun a U g mk q => q, fun U hU hW => ⟨rfl, trivial⟩⟩ rfl rfl hl.1 rfl (lv_room (Nat.le_of_ble_eq_true rfl)) dX0_isNested_34 ⟨Nat.le_of_ble_eq_true rfl, Nat.le_of_ble_eq_true rfl⟩) hS (fun q _ h => h.elim) (fun q h => h.elim) (fun r34 u34 t H locs ht hvm hw34 hB hz hk hS => ?_)
            subst hw34
            have hP := hP.kept (fun k q hk9 => hk _ (vx_lt hP hk9) (fun h => h))
            refine lv_iload_n hx hb dX0_isNested_37 rfl (lv_at hl 2 rfl) ?_
            refine va_calli (va_runS (As := [.int (f_X0_signOf p0), .int p1]) (rest := []) ⟨hx, hb, hml, hown, hts⟩ (met_X0_powerSign l (f_X0_signOf p0) p1) (va_cwS 2 hts gX0_isNested_X0_powerSign rfl rfl rfl (by decide +kernel) ⟨Nat.le_of_ble_eq_true rfl, Nat.le_of_ble_eq_true rfl⟩) ⟨fun a U g mk q => q, fun U hU hW => ⟨rfl, trivial⟩⟩ rfl rfl hl.1 rfl (lv_room (Nat.le_of_ble_eq_true rfl)) dX0_isNested_38 ⟨Nat.le_of_ble_eq_true rfl, Nat.le_of_ble_eq_true rfl⟩) hS (fun q _ h => h.elim) (fun q h => h.elim) (fun r38 u38 t H locs ht hvm hw38 hB hz hk hS => ?_)
            subst hw38
            have hP := hP.kept (fun k q hk9 => hk _ (vx_lt hP hk9) (fun h => h))
            refine lv_istore (lv' := [(4, .int (f_X0_powerSign (f_X0_signOf p0) p1)), (0, .ref (ad 0)), (1, .int p0), (2, .int p1), (3, .int p2)]) hx hb dX0_isNested_41 hl (by decide) rfl (fun ls hl => ?_)
            refine lv_iload_n hx hb dX0_isNested_43 rfl (lv_at hl 2 rfl) ?_
            refine va_calll (va_runS (As := [.int p0]) (rest := []) ⟨hx, hb, hml, hown, hts⟩ (met_X0_oddOf l p0) (va_cwS 1 hts gX0_isNested_X0_oddOf rfl rfl rfl (by decide +kernel) ⟨Nat.le_of_ble_eq_true rfl, Nat.le_of_ble_eq_true rfl⟩) ⟨fun a U g mk q => q, fun U hU hW => ⟨rfl, trivial⟩⟩ rfl rfl hl.1 rfl (lv_room (Nat.le_of_ble_eq_true rfl)) dX0_isNested_44 ⟨Nat.le_of_ble_eq_true rfl, Nat.le_of_ble_eq_true rfl⟩) hS (fun q _ h => h.elim) (fun q h => h.elim) (fun r44 u44 t H locs ht hvm hw44 hB hz hk hS => ?_)
            subst hw44
            have hP := hP.kept (fun k q hk9 => hk _ (vx_lt hP hk9) (fun h => h))
            refine lv_iload_n hx hb dX0_isNested_47 rfl (lv_at hl 3 rfl) ?_
            refine va_calll (va_runS (As := [.long (f_X0_oddOf p0), .int p1]) (rest := []) ⟨hx, hb, hml, hown, hts⟩ (met_X0_powerOdd l (f_X0_oddOf p0) p1) (va_cwS 2 hts gX0_isNested_X0_powerOdd rfl rfl rfl (by decide +kernel) ⟨Nat.le_of_ble_eq_true rfl, Nat.le_of_ble_eq_true rfl⟩) ⟨fun a U g mk q => q, fun U hU hW => ⟨rfl, trivial⟩⟩ rfl rfl hl.1 rfl (lv_room (Nat.le_of_ble_eq_true rfl)) dX0_isNested_48 ⟨Nat.le_of_ble_eq_true rfl, Nat.le_of_ble_eq_true rfl⟩) hS (fun q _ h => h.elim) (fun q h => h.elim) (fun r48 u48 t H locs ht hvm hw48 hB hz hk hS => ?_)
            subst hw48
            have hP := hP.kept (fun k q hk9 => hk _ (vx_lt hP hk9) (fun h => h))
            refine lv_lstore (lv' := [(5, .long (f_X0_powerOdd (f_X0_oddOf p0) p1)), (4, .int (f_X0_powerSign (f_X0_signOf p0) p1)), (0, .ref (ad 0)), (1, .int p0), (2, .int p1), (3, .int p2)]) hx hb dX0_isNested_51 hl (by decide) rfl (fun ls hl => ?_)
            refine lv_iload_n hx hb dX0_isNested_53 rfl (lv_at hl 3 rfl) ?_
            refine va_calli (va_runS (As := [.int p0]) (rest := []) ⟨hx, hb, hml, hown, hts⟩ (met_X0_shiftOf l p0) (va_cwS 1 hts gX0_isNested_X0_shiftOf rfl rfl rfl (by decide +kernel) ⟨Nat.le_of_ble_eq_true rfl, Nat.le_of_ble_eq_true rfl⟩) ⟨fun a U g mk q => q, fun U hU hW => ⟨rfl, trivial⟩⟩ rfl rfl hl.1 rfl (lv_room (Nat.le_of_ble_eq_true rfl)) dX0_isNested_54 ⟨Nat.le_of_ble_eq_true rfl, Nat.le_of_ble_eq_true rfl⟩) hS (fun q _ h => h.elim) (fun q h => h.elim) (fun r54 u54 t H locs ht hvm hw54 hB hz hk hS => ?_)
            subst hw54
            have hP := hP.kept (fun k q hk9 => hk _ (vx_lt hP hk9) (fun h => h))
            refine lv_iload_n hx hb dX0_isNested_57 rfl (lv_at hl 4 rfl) ?_
            refine lv_imul hx hb dX0_isNested_58 ?_
            refine lv_istore (lv' := [(7, .int ((f_X0_shiftOf p0) * p1)), (5, .long (f_X0_powerOdd (f_X0_oddOf p0) p1)), (4, .int (f_X0_powerSign (f_X0_signOf p0) p1)), (0, .ref (ad 0)), (1, .int p0), (2, .int p1), (3, .int p2)]) hx hb dX0_isNested_59 hl (by decide) rfl (fun ls hl => ?_)
            refine lv_iload hx hb dX0_isNested_61 (lv_at hl 2 rfl) ?_
            refine lv_iload_n hx hb dX0_isNested_63 rfl (lv_at hl 6 rfl) ?_
            refine va_calli (va_runS (As := [.int (f_X0_powerSign (f_X0_signOf p0) p1), .int p2]) (rest := []) ⟨hx, hb, hml, hown, hts⟩ (met_X0_powerSign l (f_X0_powerSign (f_X0_signOf p0) p1) p2) (va_cwS 2 hts gX0_isNested_X0_powerSign rfl rfl rfl (by decide +kernel) ⟨Nat.le_of_ble_eq_true rfl, Nat.le_of_ble_eq_true rfl⟩) ⟨fun a U g mk q => q, fun U hU hW => ⟨rfl, trivial⟩⟩ rfl rfl hl.1 rfl (lv_room (Nat.le_of_ble_eq_true rfl)) dX0_isNested_64 ⟨Nat.le_of_ble_eq_true rfl, Nat.le_of_ble_eq_true rfl⟩) hS (fun q _ h => h.elim) (fun q h => h.elim) (fun r64 u64 t H locs ht hvm hw64 hB hz hk hS => ?_)
            subst hw64
            have hP := hP.kept (fun k q hk9 => hk _ (vx_lt hP hk9) (fun h => h))
            refine lv_lload hx hb dX0_isNested_67 (lv_at hl 1 rfl) ?_
            refine lv_iload_n hx hb dX0_isNested_69 rfl (lv_at hl 6 rfl) ?_
            refine va_calll (va_runS (As := [.long (f_X0_powerOdd (f_X0_oddOf p0) p1), .int p2]) (rest := [.int (f_X0_powerSign (f_X0_powerSign (f_X0_signOf p0) p1) p2)]) ⟨hx, hb, hml, hown, hts⟩ (met_X0_powerOdd l (f_X0_powerOdd (f_X0_oddOf p0) p1) p2) (va_cwS 2 hts gX0_isNested_X0_powerOdd rfl rfl rfl (by decide +kernel) ⟨Nat.le_of_ble_eq_true rfl, Nat.le_of_ble_eq_true rfl⟩) ⟨fun a U g mk q => q, fun U hU hW => ⟨rfl, trivial⟩⟩ rfl rfl hl.1 rfl (lv_room (Nat.le_of_ble_eq_true rfl)) dX0_isNested_70 ⟨Nat.le_of_ble_eq_true rfl, Nat.le_of_ble_eq_true rfl⟩) hS (fun q _ h => h.elim) (fun q h => h.elim) (fun r70 u70 t H locs ht hvm hw70 hB hz hk hS => ?_)
            subst hw70
            have hP := hP.kept (fun k q hk9 => hk _ (vx_lt hP hk9) (fun h => h))
            refine lv_iload hx hb dX0_isNested_73 (lv_at hl 0 rfl) ?_
            refine lv_iload_n hx hb dX0_isNested_75 rfl (lv_at hl 6 rfl) ?_
            refine lv_imul hx hb dX0_isNested_76 ?_
            refine va_calll (va_runS (As := [.int (f_X0_powerSign (f_X0_powerSign (f_X0_signOf p0) p1) p2), .long (f_X0_powerOdd (f_X0_powerOdd (f_X0_oddOf p0) p1) p2), .int (((f_X0_shiftOf p0) * p1) * p2)]) (rest := []) ⟨hx, hb, hml, hown, hts⟩ (met_X0_bitsOf l (f_X0_powerSign (f_X0_powerSign (f_X0_signOf p0) p1) p2) (f_X0_powerOdd (f_X0_powerOdd (f_X0_oddOf p0) p1) p2) (((f_X0_shiftOf p0) * p1) * p2)) (va_cwS 3 hts gX0_isNested_X0_bitsOf rfl rfl rfl (by decide +kernel) ⟨Nat.le_of_ble_eq_true rfl, Nat.le_of_ble_eq_true rfl⟩) ⟨fun a U g mk q => q, fun U hU hW => ⟨rfl, trivial⟩⟩ rfl rfl hl.1 rfl (lv_room (Nat.le_of_ble_eq_true rfl)) dX0_isNested_77 ⟨Nat.le_of_ble_eq_true rfl, Nat.le_of_ble_eq_true rfl⟩) hS (fun q _ h => h.elim) (fun q h => h.elim) (fun r77 u77 t H locs ht hvm hw77 hB hz hk hS => ?_)
            subst hw77
            have hP := hP.kept (fun k q hk9 => hk _ (vx_lt hP hk9) (fun h => h))
            refine lv_topl (fun x80 ex80 => ?_)
            refine lv_lstore (lv' := [(8, .long x80), (7, .int ((f_X0_shiftOf p0) * p1)), (5, .long (f_X0_powerOdd (f_X0_oddOf p0) p1)), (4, .int (f_X0_powerSign (f_X0_signOf p0) p1)), (0, .ref (ad 0)), (1, .int p0), (2, .int p1), (3, .int p2)]) hx hb dX0_isNested_80 hl (by decide) rfl (fun ls hl => ?_)
            have hR : f_X0_isNested S p0 p1 p2 = g_X0_isNested_80n p0 p1 p2 x80 := hR.trans (by simp only [f_X0_isNested, hw2, hw9, hw18, hw23, hw30, ex80])
            refine lv_lload hx hb dX0_isNested_82 (lv_at hl 0 rfl) ?_
            refine lv_iload_n hx hb dX0_isNested_84 rfl (lv_at hl 5 rfl) ?_
            refine lv_iload_n hx hb dX0_isNested_85 rfl (lv_at hl 6 rfl) ?_
            refine lv_iload_n hx hb dX0_isNested_86 rfl (lv_at hl 7 rfl) ?_
            refine lv_imul hx hb dX0_isNested_87 ?_
            refine va_calll (va_runS (As := [.int p0, .int (p1 * p2)]) (rest := [.long x80]) ⟨hx, hb, hml, hown, hts⟩ (met_X0_powerBits l p0 (p1 * p2)) (va_cwS 2 hts gX0_isNested_X0_powerBits rfl rfl rfl (by decide +kernel) ⟨Nat.le_of_ble_eq_true rfl, Nat.le_of_ble_eq_true rfl⟩) ⟨fun a U g mk q => q, fun U hU hW => ⟨rfl, trivial⟩⟩ rfl rfl hl.1 rfl (lv_room (Nat.le_of_ble_eq_true rfl)) dX0_isNested_88 ⟨Nat.le_of_ble_eq_true rfl, Nat.le_of_ble_eq_true rfl⟩) hS (fun q _ h => h.elim) (fun q h => h.elim) (fun r88 u88 t H locs ht hvm hw88 hB hz hk hS => ?_)
            subst hw88
            have hP := hP.kept (fun k q hk9 => hk _ (vx_lt hP hk9) (fun h => h))
            refine W.lcmp hx hb dX0_isNested_91 ?_
            refine lv_if_ne (tgt := 99) hx hb dX0_isNested_92 (by decide) (fun c91 => ?_) (fun c91 => ?_)
            · skip
              have c91 : ¬ ((x80 : Int64) = (f_X0_powerBits p0 (p1 * p2))) := fun h => c91 ((lg_cmp_eq _ _).mpr h)
              refine lv_iconst (v := 0) hx hb dX0_isNested_99 (by decide) ?_
              rw [hQ]
              refine vx_ret ?_
              exact W.zret (ty := .boolean) (v := 0) hx hb hr (nbool (Or.inl rfl)) (fun t ht hW => ⟨⟨0, (), rfl, ⟨(hR.trans (by simp only [g_X0_isNested_80n, if_neg c91])), (Or.inl rfl)⟩, trivial⟩, hS.F ht⟩) hS.2.2 dX0_isNested_100
            · skip
              have c91 : (x80 : Int64) = (f_X0_powerBits p0 (p1 * p2)) := (lg_cmp_eq _ _).mp c91
              refine lv_iconst (v := 1) hx hb dX0_isNested_95 (by decide) ?_
              refine lv_goto (tgt := 100) hx hb dX0_isNested_96 (by decide) ?_
              rw [hQ]
              refine vx_ret ?_
              exact W.zret (ty := .boolean) (v := 1) hx hb hr (nbool (Or.inr rfl)) (fun t ht hW => ⟨⟨1, (), rfl, ⟨(hR.trans (by simp only [g_X0_isNested_80n, if_pos c91])), (Or.inr rfl)⟩, trivial⟩, hS.F ht⟩) hS.2.2 dX0_isNested_100

def f_X0_rootBits (S : pS) (p0 : Int32) : Except Nat Int64 := (match f_X0_checkRange p0 0 4095 with | .error k => .error k | .ok _ => (.ok (f_X0_nearestRootBits p0)))
set_option maxHeartbeats 4000000 in
set_option maxRecDepth 100000 in
theorem met_X0_rootBits (l : Launch) (hfl : l.stackTraces = false) (D : va_G) (cI cJ : ClassId) (ad : Nat → Nat) (S : pS) (p0 : Int32) : vx_Met l yX0_rootBits wsX0_rootBits ({ frames := 7, cells := 1, slots := 6, locals := 106 } : Room) (va_Pc [.ref (ad 0), .int p0] (fun U => b0R D cI cJ ad S U ∧ xE (fun _ => False) U U.heap)) (va_Ql (fun (r : Int64) (u : Unit) => f_X0_rootBits S p0 = .ok r) (fun _ _ => True) (fun _ => False)) (vx_X (fun k : Nat => f_X0_rootBits S p0 = .error k) (fun E k _ => E = exN k) (fun _ => False)) 1 6 (fun _ => False) := by
  refine vx_ofW (cc := cX0_rootBits) (maxL := 2) (ret := (some .long)) (by decide) rfl ?_
  intro p e s m args below meth c s₁ B hml hno hv
  obtain ⟨rfl, ⟨hP, hK⟩, hE⟩ := hv
  have hx := B.exec
  have hb := B.bytes
  have hr := B.returns
  have hts := atoms_spec (ws := wsX0_rootBits) B.pre
  have hown : s.vm.findClass RX0 = some m.cls := findClass_of_methodNamed B.named
  have hlocks := B.notSynchronized
  have hS : va_S (fun _ => False) s.heap s.heap [] := va_S.rf
  have hl := lv_entry ([.ref (ad 0), .int p0]) (n := 2) (Nat.le_of_ble_eq_true rfl)
  rw [lg_entry_eq]
  generalize (lg_sl ([.ref (ad 0), .int p0]) ++ List.replicate (2 - (lg_sl ([.ref (ad 0), .int p0])).length) Slot.unset).toArray = ls at hl ⊢
  have hl : lv_has ls 2 [(0, .ref (ad 0)), (1, .int p0)] := hl
  obtain ⟨Q, hQ⟩ : ∃ Q : State → Prop, Q = (vx_MQ below (va_Ql (fun (r : Int64) (u : Unit) => f_X0_rootBits S p0 = .ok r) (fun _ _ => True) (fun _ => False)) (vx_X (fun k : Nat => f_X0_rootBits S p0 = .error k) (fun E k _ => E = exN k) (fun _ => False)) ([.ref (ad 0), .int p0] : List Value).toArray s 1 6 (fun _ => False)) := ⟨_, rfl⟩
  rw [← hQ]
  have hR : f_X0_rootBits S p0 = f_X0_rootBits S p0 := rfl
  refine lv_iload_n hx hb dX0_rootBits_0 rfl (lv_at hl 1 rfl) ?_
  refine lv_iconst (v := 0) hx hb dX0_rootBits_1 (by decide) ?_
  refine lv_sipush (v := 4095) hx hb dX0_rootBits_2 (by decide) ?_
  refine vx_callv (vx_runS (As := [.int p0, .int 0, .int 4095]) (rest := []) ⟨hx, hb, hml, hown, hts⟩ (met_X0_checkRange l hfl p0 0 4095) (va_cwS 3 hts gX0_rootBits_X0_checkRange rfl rfl rfl (by decide +kernel) ⟨Nat.le_of_ble_eq_true rfl, Nat.le_of_ble_eq_true rfl⟩) ⟨fun a U g mk q => ⟨q.1, xE_calling q.2⟩, fun U hU hW => ⟨rfl, xE_at hE hS hU hW⟩⟩ rfl rfl hl.1 rfl (lv_room (Nat.le_of_ble_eq_true rfl)) dX0_rootBits_5 ⟨Nat.le_of_ble_eq_true rfl, Nat.le_of_ble_eq_true rfl⟩) hS (fun q _ h => h.elim) (fun q h => h.elim) (fun q _ h => h.elim) (fun E ce q9 k5 t H locs ht hvm hw5 hB hz hk hS hc9 hv9 hf9 => ?_) (fun u5 t H locs ht hvm hw5 hB hz hk hS => ?_)
  · skip
    rw [hQ]
    exact vx_out (fun x hx => (hno x hx).elim) hlocks hc9 hv9 hf9 (fun t9 ht9 hvm9 => ⟨k5, (hR.trans (by simp only [f_X0_rootBits, hw5])), hB, hS.F ht9⟩) hS.2.2 (Nat.le_of_ble_eq_true rfl) (Nat.le_of_ble_eq_true rfl)
  · skip
    have hP := hP.kept (fun k q hk9 => hk _ (vx_lt hP hk9) (fun h => h))
    refine lv_iload_n hx hb dX0_rootBits_8 rfl (lv_at hl 1 rfl) ?_
    refine va_calll (va_runS (As := [.int p0]) (rest := []) ⟨hx, hb, hml, hown, hts⟩ (met_X0_nearestRootBits l p0) (va_cwS 1 hts gX0_rootBits_X0_nearestRootBits rfl rfl rfl (by decide +kernel) ⟨Nat.le_of_ble_eq_true rfl, Nat.le_of_ble_eq_true rfl⟩) ⟨fun a U g mk q => q, fun U hU hW => ⟨rfl, trivial⟩⟩ rfl rfl hl.1 rfl (lv_room (Nat.le_of_ble_eq_true rfl)) dX0_rootBits_9 ⟨Nat.le_of_ble_eq_true rfl, Nat.le_of_ble_eq_true rfl⟩) hS (fun q _ h => h.elim) (fun q h => h.elim) (fun r9 u9 t H locs ht hvm hw9 hB hz hk hS => ?_)
    subst hw9
    have hP := hP.kept (fun k q hk9 => hk _ (vx_lt hP hk9) (fun h => h))
    rw [hQ]
    refine vx_ret ?_
    exact W.lret (v := (f_X0_nearestRootBits p0)) hx hb hr (fun t ht hW => ⟨⟨(f_X0_nearestRootBits p0), (), rfl, (hR.trans (by simp only [f_X0_rootBits, hw5])), trivial⟩, hS.F ht⟩) hS.2.2 dX0_rootBits_12

def f_X0_isRoot (S : pS) (p0 : Int32) : Except Nat Int32 := (match f_X0_checkRange p0 0 4095 with | .error k => .error k | .ok _ => (.ok (f_X0_isNearestRoot p0 (f_X0_nearestRoot p0))))
set_option maxHeartbeats 4000000 in
set_option maxRecDepth 100000 in
theorem met_X0_isRoot (l : Launch) (hfl : l.stackTraces = false) (D : va_G) (cI cJ : ClassId) (ad : Nat → Nat) (S : pS) (p0 : Int32) : vx_Met l yX0_isRoot wsX0_isRoot ({ frames := 7, cells := 1, slots := 6, locals := 106 } : Room) (va_Pc [.ref (ad 0), .int p0] (fun U => b0R D cI cJ ad S U ∧ xE (fun _ => False) U U.heap)) (va_Qi (fun (r : Int32) (u : Unit) => f_X0_isRoot S p0 = .ok r ∧ (r = 0 ∨ r = 1)) (fun _ _ => True) (fun _ => False)) (vx_X (fun k : Nat => f_X0_isRoot S p0 = .error k) (fun E k _ => E = exN k) (fun _ => False)) 1 6 (fun _ => False) := by
  refine vx_ofW (cc := cX0_isRoot) (maxL := 2) (ret := (some .boolean)) (by decide) rfl ?_
  intro p e s m args below meth c s₁ B hml hno hv
  obtain ⟨rfl, ⟨hP, hK⟩, hE⟩ := hv
  have hx := B.exec
  have hb := B.bytes
  have hr := B.returns
  have hts := atoms_spec (ws := wsX0_isRoot) B.pre
  have hown : s.vm.findClass RX0 = some m.cls := findClass_of_methodNamed B.named
  have hlocks := B.notSynchronized
  have hS : va_S (fun _ => False) s.heap s.heap [] := va_S.rf
  have hl := lv_entry ([.ref (ad 0), .int p0]) (n := 2) (Nat.le_of_ble_eq_true rfl)
  rw [lg_entry_eq]
  generalize (lg_sl ([.ref (ad 0), .int p0]) ++ List.replicate (2 - (lg_sl ([.ref (ad 0), .int p0])).length) Slot.unset).toArray = ls at hl ⊢
  have hl : lv_has ls 2 [(0, .ref (ad 0)), (1, .int p0)] := hl
  obtain ⟨Q, hQ⟩ : ∃ Q : State → Prop, Q = (vx_MQ below (va_Qi (fun (r : Int32) (u : Unit) => f_X0_isRoot S p0 = .ok r ∧ (r = 0 ∨ r = 1)) (fun _ _ => True) (fun _ => False)) (vx_X (fun k : Nat => f_X0_isRoot S p0 = .error k) (fun E k _ => E = exN k) (fun _ => False)) ([.ref (ad 0), .int p0] : List Value).toArray s 1 6 (fun _ => False)) := ⟨_, rfl⟩
  rw [← hQ]
  have hR : f_X0_isRoot S p0 = f_X0_isRoot S p0 := rfl
  refine lv_iload_n hx hb dX0_isRoot_0 rfl (lv_at hl 1 rfl) ?_
  refine lv_iconst (v := 0) hx hb dX0_isRoot_1 (by decide) ?_
  refine lv_sipush (v := 4095) hx hb dX0_isRoot_2 (by decide) ?_
  refine vx_callv (vx_runS (As := [.int p0, .int 0, .int 4095]) (rest := []) ⟨hx, hb, hml, hown, hts⟩ (met_X0_checkRange l hfl p0 0 4095) (va_cwS 3 hts gX0_isRoot_X0_checkRange rfl rfl rfl (by decide +kernel) ⟨Nat.le_of_ble_eq_true rfl, Nat.le_of_ble_eq_true rfl⟩) ⟨fun a U g mk q => ⟨q.1, xE_calling q.2⟩, fun U hU hW => ⟨rfl, xE_at hE hS hU hW⟩⟩ rfl rfl hl.1 rfl (lv_room (Nat.le_of_ble_eq_true rfl)) dX0_isRoot_5 ⟨Nat.le_of_ble_eq_true rfl, Nat.le_of_ble_eq_true rfl⟩) hS (fun q _ h => h.elim) (fun q h => h.elim) (fun q _ h => h.elim) (fun E ce q9 k5 t H locs ht hvm hw5 hB hz hk hS hc9 hv9 hf9 => ?_) (fun u5 t H locs ht hvm hw5 hB hz hk hS => ?_)
  · skip
    rw [hQ]
    exact vx_out (fun x hx => (hno x hx).elim) hlocks hc9 hv9 hf9 (fun t9 ht9 hvm9 => ⟨k5, (hR.trans (by simp only [f_X0_isRoot, hw5])), hB, hS.F ht9⟩) hS.2.2 (Nat.le_of_ble_eq_true rfl) (Nat.le_of_ble_eq_true rfl)
  · skip
    have hP := hP.kept (fun k q hk9 => hk _ (vx_lt hP hk9) (fun h => h))
    refine lv_iload_n hx hb dX0_isRoot_8 rfl (lv_at hl 1 rfl) ?_
    refine lv_iload_n hx hb dX0_isRoot_9 rfl (lv_at hl 1 rfl) ?_
    refine va_calll (va_runS (As := [.int p0]) (rest := [.int p0]) ⟨hx, hb, hml, hown, hts⟩ (met_X0_nearestRoot l p0) (va_cwS 1 hts gX0_isRoot_X0_nearestRoot rfl rfl rfl (by decide +kernel) ⟨Nat.le_of_ble_eq_true rfl, Nat.le_of_ble_eq_true rfl⟩) ⟨fun a U g mk q => q, fun U hU hW => ⟨rfl, trivial⟩⟩ rfl rfl hl.1 rfl (lv_room (Nat.le_of_ble_eq_true rfl)) dX0_isRoot_10 ⟨Nat.le_of_ble_eq_true rfl, Nat.le_of_ble_eq_true rfl⟩) hS (fun q _ h => h.elim) (fun q h => h.elim) (fun r10 u10 t H locs ht hvm hw10 hB hz hk hS => ?_)
    subst hw10
    have hP := hP.kept (fun k q hk9 => hk _ (vx_lt hP hk9) (fun h => h))
    refine va_calli (va_runS (As := [.int p0, .long (f_X0_nearestRoot p0)]) (rest := []) ⟨hx, hb, hml, hown, hts⟩ (met_X0_isNearestRoot l p0 (f_X0_nearestRoot p0)) (va_cwS 2 hts gX0_isRoot_X0_isNearestRoot rfl rfl rfl (by decide +kernel) ⟨Nat.le_of_ble_eq_true rfl, Nat.le_of_ble_eq_true rfl⟩) ⟨fun a U g mk q => q, fun U hU hW => ⟨rfl, trivial⟩⟩ rfl rfl hl.1 rfl (lv_room (Nat.le_of_ble_eq_true rfl)) dX0_isRoot_13 ⟨Nat.le_of_ble_eq_true rfl, Nat.le_of_ble_eq_true rfl⟩) hS (fun q _ h => h.elim) (fun q h => h.elim) (fun r13 u13 t H locs ht hvm hw13 hB hz hk hS => ?_)
    obtain ⟨hw13, bz13⟩ := hw13
    subst hw13
    have hP := hP.kept (fun k q hk9 => hk _ (vx_lt hP hk9) (fun h => h))
    rw [hQ]
    refine vx_ret ?_
    exact W.zret (ty := .boolean) (v := (f_X0_isNearestRoot p0 (f_X0_nearestRoot p0))) hx hb hr (nbool bz13) (fun t ht hW => ⟨⟨(f_X0_isNearestRoot p0 (f_X0_nearestRoot p0)), (), rfl, ⟨(hR.trans (by simp only [f_X0_isRoot, hw5])), bz13⟩, trivial⟩, hS.F ht⟩) hS.2.2 dX0_isRoot_16

def f_X0_rootAt (S : pS) (p0 : Int32) (p1 : Int32) : Except Nat Int64 := (match f_X0_checkRange p0 0 4095 with | .error k => .error k | .ok _ => (match f_X0_checkRange p1 0 16 with | .error k => .error k | .ok _ => (.ok (f_X0_floorRoot p0 p1))))
set_option maxHeartbeats 4000000 in
set_option maxRecDepth 100000 in
theorem met_X0_rootAt (l : Launch) (hfl : l.stackTraces = false) (D : va_G) (cI cJ : ClassId) (ad : Nat → Nat) (S : pS) (p0 : Int32) (p1 : Int32) : vx_Met l yX0_rootAt wsX0_rootAt ({ frames := 7, cells := 2, slots := 12, locals := 106 } : Room) (va_Pc [.ref (ad 0), .int p0, .int p1] (fun U => b0R D cI cJ ad S U ∧ xE (fun _ => False) U U.heap)) (va_Ql (fun (r : Int64) (u : Unit) => f_X0_rootAt S p0 p1 = .ok r) (fun _ _ => True) (fun _ => False)) (vx_X (fun k : Nat => f_X0_rootAt S p0 p1 = .error k) (fun E k _ => E = exN k) (fun _ => False)) 2 12 (fun _ => False) := by
  refine vx_ofW (cc := cX0_rootAt) (maxL := 3) (ret := (some .long)) (by decide) rfl ?_
  intro p e s m args below meth c s₁ B hml hno hv
  obtain ⟨rfl, ⟨hP, hK⟩, hE⟩ := hv
  have hx := B.exec
  have hb := B.bytes
  have hr := B.returns
  have hts := atoms_spec (ws := wsX0_rootAt) B.pre
  have hown : s.vm.findClass RX0 = some m.cls := findClass_of_methodNamed B.named
  have hlocks := B.notSynchronized
  have hS : va_S (fun _ => False) s.heap s.heap [] := va_S.rf
  have hl := lv_entry ([.ref (ad 0), .int p0, .int p1]) (n := 3) (Nat.le_of_ble_eq_true rfl)
  rw [lg_entry_eq]
  generalize (lg_sl ([.ref (ad 0), .int p0, .int p1]) ++ List.replicate (3 - (lg_sl ([.ref (ad 0), .int p0, .int p1])).length) Slot.unset).toArray = ls at hl ⊢
  have hl : lv_has ls 3 [(0, .ref (ad 0)), (1, .int p0), (2, .int p1)] := hl
  obtain ⟨Q, hQ⟩ : ∃ Q : State → Prop, Q = (vx_MQ below (va_Ql (fun (r : Int64) (u : Unit) => f_X0_rootAt S p0 p1 = .ok r) (fun _ _ => True) (fun _ => False)) (vx_X (fun k : Nat => f_X0_rootAt S p0 p1 = .error k) (fun E k _ => E = exN k) (fun _ => False)) ([.ref (ad 0), .int p0, .int p1] : List Value).toArray s 2 12 (fun _ => False)) := ⟨_, rfl⟩
  rw [← hQ]
  have hR : f_X0_rootAt S p0 p1 = f_X0_rootAt S p0 p1 := rfl
  refine lv_iload_n hx hb dX0_rootAt_0 rfl (lv_at hl 1 rfl) ?_
  refine lv_iconst (v := 0) hx hb dX0_rootAt_1 (by decide) ?_
  refine lv_sipush (v := 4095) hx hb dX0_rootAt_2 (by decide) ?_
  refine vx_callv (vx_runS (As := [.int p0, .int 0, .int 4095]) (rest := []) ⟨hx, hb, hml, hown, hts⟩ (met_X0_checkRange l hfl p0 0 4095) (va_cwS 3 hts gX0_rootAt_X0_checkRange rfl rfl rfl (by decide +kernel) ⟨Nat.le_of_ble_eq_true rfl, Nat.le_of_ble_eq_true rfl⟩) ⟨fun a U g mk q => ⟨q.1, xE_calling q.2⟩, fun U hU hW => ⟨rfl, xE_at hE hS hU hW⟩⟩ rfl rfl hl.1 rfl (lv_room (Nat.le_of_ble_eq_true rfl)) dX0_rootAt_5 ⟨Nat.le_of_ble_eq_true rfl, Nat.le_of_ble_eq_true rfl⟩) hS (fun q _ h => h.elim) (fun q h => h.elim) (fun q _ h => h.elim) (fun E ce q9 k5 t H locs ht hvm hw5 hB hz hk hS hc9 hv9 hf9 => ?_) (fun u5 t H locs ht hvm hw5 hB hz hk hS => ?_)
  · skip
    rw [hQ]
    exact vx_out (fun x hx => (hno x hx).elim) hlocks hc9 hv9 hf9 (fun t9 ht9 hvm9 => ⟨k5, (hR.trans (by simp only [f_X0_rootAt, hw5])), hB, hS.F ht9⟩) hS.2.2 (Nat.le_of_ble_eq_true rfl) (Nat.le_of_ble_eq_true rfl)
  · skip
    have hP := hP.kept (fun k q hk9 => hk _ (vx_lt hP hk9) (fun h => h))
    refine lv_iload_n hx hb dX0_rootAt_8 rfl (lv_at hl 2 rfl) ?_
    refine lv_iconst (v := 0) hx hb dX0_rootAt_9 (by decide) ?_
    refine lv_bipush (v := 16) hx hb dX0_rootAt_10 (by decide) ?_
    refine vx_callv (vx_runS (As := [.int p1, .int 0, .int 16]) (rest := []) ⟨hx, hb, hml, hown, hts⟩ (met_X0_checkRange l hfl p1 0 16) (va_cwS 3 hts gX0_rootAt_X0_checkRange rfl rfl rfl (by decide +kernel) ⟨Nat.le_of_ble_eq_true rfl, Nat.le_of_ble_eq_true rfl⟩) ⟨fun a U g mk q => ⟨q.1, xE_calling q.2⟩, fun U hU hW => ⟨rfl, xE_at hE hS hU hW⟩⟩ rfl rfl hl.1 rfl (lv_room (Nat.le_of_ble_eq_true rfl)) dX0_rootAt_12 ⟨Nat.le_of_ble_eq_true rfl, Nat.le_of_ble_eq_true rfl⟩) hS (fun q _ h => h.elim) (fun q h => h.elim) (fun q _ h => h.elim) (fun E ce q9 k12 t H locs ht hvm hw12 hB hz hk hS hc9 hv9 hf9 => ?_) (fun u12 t H locs ht hvm hw12 hB hz hk hS => ?_)
    · skip
      rw [hQ]
      exact vx_out (fun x hx => (hno x hx).elim) hlocks hc9 hv9 hf9 (fun t9 ht9 hvm9 => ⟨k12, (hR.trans (by simp only [f_X0_rootAt, hw5, hw12])), hB, hS.F ht9⟩) hS.2.2 (Nat.le_of_ble_eq_true rfl) (Nat.le_of_ble_eq_true rfl)
    · skip
      have hP := hP.kept (fun k q hk9 => hk _ (vx_lt hP hk9) (fun h => h))
      refine lv_iload_n hx hb dX0_rootAt_15 rfl (lv_at hl 1 rfl) ?_
      refine lv_iload_n hx hb dX0_rootAt_16 rfl (lv_at hl 2 rfl) ?_
      refine va_calll (va_runS (As := [.int p0, .int p1]) (rest := []) ⟨hx, hb, hml, hown, hts⟩ (met_X0_floorRoot l p0 p1 (ra_pre hw12)) (va_cwS 2 hts gX0_rootAt_X0_floorRoot rfl rfl rfl (by decide +kernel) ⟨Nat.le_of_ble_eq_true rfl, Nat.le_of_ble_eq_true rfl⟩) ⟨fun a U g mk q => q, fun U hU hW => ⟨rfl, trivial⟩⟩ rfl rfl hl.1 rfl (lv_room (Nat.le_of_ble_eq_true rfl)) dX0_rootAt_17 ⟨Nat.le_of_ble_eq_true rfl, Nat.le_of_ble_eq_true rfl⟩) hS (fun q _ h => h.elim) (fun q h => h.elim) (fun r17 u17 t H locs ht hvm hw17 hB hz hk hS => ?_)
      subst hw17
      have hP := hP.kept (fun k q hk9 => hk _ (vx_lt hP hk9) (fun h => h))
      rw [hQ]
      refine vx_ret ?_
      exact W.lret (v := (f_X0_floorRoot p0 p1)) hx hb hr (fun t ht hW => ⟨⟨(f_X0_floorRoot p0 p1), (), rfl, (hR.trans (by simp only [f_X0_rootAt, hw5, hw12])), trivial⟩, hS.F ht⟩) hS.2.2 dX0_rootAt_20

def f_X0_backBits (S : pS) (p0 : Int32) : Except Nat Int64 := (match f_X0_checkRange p0 0 4095 with | .error k => .error k | .ok _ => (.ok (f_X0_nearestBackBits p0)))
set_option maxHeartbeats 4000000 in
set_option maxRecDepth 100000 in
theorem met_X0_backBits (l : Launch) (hfl : l.stackTraces = false) (D : va_G) (cI cJ : ClassId) (ad : Nat → Nat) (S : pS) (p0 : Int32) : vx_Met l yX0_backBits wsX0_backBits ({ frames := 7, cells := 1, slots := 6, locals := 106 } : Room) (va_Pc [.ref (ad 0), .int p0] (fun U => b0R D cI cJ ad S U ∧ xE (fun _ => False) U U.heap)) (va_Ql (fun (r : Int64) (u : Unit) => f_X0_backBits S p0 = .ok r) (fun _ _ => True) (fun _ => False)) (vx_X (fun k : Nat => f_X0_backBits S p0 = .error k) (fun E k _ => E = exN k) (fun _ => False)) 1 6 (fun _ => False) := by
  refine vx_ofW (cc := cX0_backBits) (maxL := 2) (ret := (some .long)) (by decide) rfl ?_
  intro p e s m args below meth c s₁ B hml hno hv
  obtain ⟨rfl, ⟨hP, hK⟩, hE⟩ := hv
  have hx := B.exec
  have hb := B.bytes
  have hr := B.returns
  have hts := atoms_spec (ws := wsX0_backBits) B.pre
  have hown : s.vm.findClass RX0 = some m.cls := findClass_of_methodNamed B.named
  have hlocks := B.notSynchronized
  have hS : va_S (fun _ => False) s.heap s.heap [] := va_S.rf
  have hl := lv_entry ([.ref (ad 0), .int p0]) (n := 2) (Nat.le_of_ble_eq_true rfl)
  rw [lg_entry_eq]
  generalize (lg_sl ([.ref (ad 0), .int p0]) ++ List.replicate (2 - (lg_sl ([.ref (ad 0), .int p0])).length) Slot.unset).toArray = ls at hl ⊢
  have hl : lv_has ls 2 [(0, .ref (ad 0)), (1, .int p0)] := hl
  obtain ⟨Q, hQ⟩ : ∃ Q : State → Prop, Q = (vx_MQ below (va_Ql (fun (r : Int64) (u : Unit) => f_X0_backBits S p0 = .ok r) (fun _ _ => True) (fun _ => False)) (vx_X (fun k : Nat => f_X0_backBits S p0 = .error k) (fun E k _ => E = exN k) (fun _ => False)) ([.ref (ad 0), .int p0] : List Value).toArray s 1 6 (fun _ => False)) := ⟨_, rfl⟩
  rw [← hQ]
  have hR : f_X0_backBits S p0 = f_X0_backBits S p0 := rfl
  refine lv_iload_n hx hb dX0_backBits_0 rfl (lv_at hl 1 rfl) ?_
  refine lv_iconst (v := 0) hx hb dX0_backBits_1 (by decide) ?_
  refine lv_sipush (v := 4095) hx hb dX0_backBits_2 (by decide) ?_
  refine vx_callv (vx_runS (As := [.int p0, .int 0, .int 4095]) (rest := []) ⟨hx, hb, hml, hown, hts⟩ (met_X0_checkRange l hfl p0 0 4095) (va_cwS 3 hts gX0_backBits_X0_checkRange rfl rfl rfl (by decide +kernel) ⟨Nat.le_of_ble_eq_true rfl, Nat.le_of_ble_eq_true rfl⟩) ⟨fun a U g mk q => ⟨q.1, xE_calling q.2⟩, fun U hU hW => ⟨rfl, xE_at hE hS hU hW⟩⟩ rfl rfl hl.1 rfl (lv_room (Nat.le_of_ble_eq_true rfl)) dX0_backBits_5 ⟨Nat.le_of_ble_eq_true rfl, Nat.le_of_ble_eq_true rfl⟩) hS (fun q _ h => h.elim) (fun q h => h.elim) (fun q _ h => h.elim) (fun E ce q9 k5 t H locs ht hvm hw5 hB hz hk hS hc9 hv9 hf9 => ?_) (fun u5 t H locs ht hvm hw5 hB hz hk hS => ?_)
  · skip
    rw [hQ]
    exact vx_out (fun x hx => (hno x hx).elim) hlocks hc9 hv9 hf9 (fun t9 ht9 hvm9 => ⟨k5, (hR.trans (by simp only [f_X0_backBits, hw5])), hB, hS.F ht9⟩) hS.2.2 (Nat.le_of_ble_eq_true rfl) (Nat.le_of_ble_eq_true rfl)
  · skip
    have hP := hP.kept (fun k q hk9 => hk _ (vx_lt hP hk9) (fun h => h))
    refine lv_iload_n hx hb dX0_backBits_8 rfl (lv_at hl 1 rfl) ?_
    refine va_calll (va_runS (As := [.int p0]) (rest := []) ⟨hx, hb, hml, hown, hts⟩ (met_X0_nearestBackBits l p0) (va_cwS 1 hts gX0_backBits_X0_nearestBackBits rfl rfl rfl (by decide +kernel) ⟨Nat.le_of_ble_eq_true rfl, Nat.le_of_ble_eq_true rfl⟩) ⟨fun a U g mk q => q, fun U hU hW => ⟨rfl, trivial⟩⟩ rfl rfl hl.1 rfl (lv_room (Nat.le_of_ble_eq_true rfl)) dX0_backBits_9 ⟨Nat.le_of_ble_eq_true rfl, Nat.le_of_ble_eq_true rfl⟩) hS (fun q _ h => h.elim) (fun q h => h.elim) (fun r9 u9 t H locs ht hvm hw9 hB hz hk hS => ?_)
    subst hw9
    have hP := hP.kept (fun k q hk9 => hk _ (vx_lt hP hk9) (fun h => h))
    rw [hQ]
    refine vx_ret ?_
    exact W.lret (v := (f_X0_nearestBackBits p0)) hx hb hr (fun t ht hW => ⟨⟨(f_X0_nearestBackBits p0), (), rfl, (hR.trans (by simp only [f_X0_backBits, hw5])), trivial⟩, hS.F ht⟩) hS.2.2 dX0_backBits_12

def f_X0_isBack (S : pS) (p0 : Int32) : Except Nat Int32 := (match f_X0_checkRange p0 0 4095 with | .error k => .error k | .ok _ => (if ((f_X0_nearestBackBits p0) : Int64) = (f_X0_bitsOf (f_X0_signOf p0) (f_X0_oddOf p0) (f_X0_shiftOf p0)) then (.ok 1) else (.ok 0)))
set_option maxHeartbeats 4000000 in
set_option maxRecDepth 100000 in
theorem met_X0_isBack (l : Launch) (hfl : l.stackTraces = false) (D : va_G) (cI cJ : ClassId) (ad : Nat → Nat) (S : pS) (p0 : Int32) : vx_Met l yX0_isBack wsX0_isBack ({ frames := 7, cells := 1, slots := 6, locals := 106 } : Room) (va_Pc [.ref (ad 0), .int p0] (fun U => b0R D cI cJ ad S U ∧ xE (fun _ => False) U U.heap)) (va_Qi (fun (r : Int32) (u : Unit) => f_X0_isBack S p0 = .ok r ∧ (r = 0 ∨ r = 1)) (fun _ _ => True) (fun _ => False)) (vx_X (fun k : Nat => f_X0_isBack S p0 = .error k) (fun E k _ => E = exN k) (fun _ => False)) 1 6 (fun _ => False) := by
  refine vx_ofW (cc := cX0_isBack) (maxL := 2) (ret := (some .boolean)) (by decide) rfl ?_
  intro p e s m args below meth c s₁ B hml hno hv
  obtain ⟨rfl, ⟨hP, hK⟩, hE⟩ := hv
  have hx := B.exec
  have hb := B.bytes
  have hr := B.returns
  have hts := atoms_spec (ws := wsX0_isBack) B.pre
  have hown : s.vm.findClass RX0 = some m.cls := findClass_of_methodNamed B.named
  have hlocks := B.notSynchronized
  have hS : va_S (fun _ => False) s.heap s.heap [] := va_S.rf
  have hl := lv_entry ([.ref (ad 0), .int p0]) (n := 2) (Nat.le_of_ble_eq_true rfl)
  rw [lg_entry_eq]
  generalize (lg_sl ([.ref (ad 0), .int p0]) ++ List.replicate (2 - (lg_sl ([.ref (ad 0), .int p0])).length) Slot.unset).toArray = ls at hl ⊢
  have hl : lv_has ls 2 [(0, .ref (ad 0)), (1, .int p0)] := hl
  obtain ⟨Q, hQ⟩ : ∃ Q : State → Prop, Q = (vx_MQ below (va_Qi (fun (r : Int32) (u : Unit) => f_X0_isBack S p0 = .ok r ∧ (r = 0 ∨ r = 1)) (fun _ _ => True) (fun _ => False)) (vx_X (fun k : Nat => f_X0_isBack S p0 = .error k) (fun E k _ => E = exN k) (fun _ => False)) ([.ref (ad 0), .int p0] : List Value).toArray s 1 6 (fun _ => False)) := ⟨_, rfl⟩
  rw [← hQ]
  have hR : f_X0_isBack S p0 = f_X0_isBack S p0 := rfl
  refine lv_iload_n hx hb dX0_isBack_0 rfl (lv_at hl 1 rfl) ?_
  refine lv_iconst (v := 0) hx hb dX0_isBack_1 (by decide) ?_
  refine lv_sipush (v := 4095) hx hb dX0_isBack_2 (by decide) ?_
  refine vx_callv (vx_runS (As := [.int p0, .int 0, .int 4095]) (rest := []) ⟨hx, hb, hml, hown, hts⟩ (met_X0_checkRange l hfl p0 0 4095) (va_cwS 3 hts gX0_isBack_X0_checkRange rfl rfl rfl (by decide +kernel) ⟨Nat.le_of_ble_eq_true rfl, Nat.le_of_ble_eq_true rfl⟩) ⟨fun a U g mk q => ⟨q.1, xE_calling q.2⟩, fun U hU hW => ⟨rfl, xE_at hE hS hU hW⟩⟩ rfl rfl hl.1 rfl (lv_room (Nat.le_of_ble_eq_true rfl)) dX0_isBack_5 ⟨Nat.le_of_ble_eq_true rfl, Nat.le_of_ble_eq_true rfl⟩) hS (fun q _ h => h.elim) (fun q h => h.elim) (fun q _ h => h.elim) (fun E ce q9 k5 t H locs ht hvm hw5 hB hz hk hS hc9 hv9 hf9 => ?_) (fun u5 t H locs ht hvm hw5 hB hz hk hS => ?_)
  · skip
    rw [hQ]
    exact vx_out (fun x hx => (hno x hx).elim) hlocks hc9 hv9 hf9 (fun t9 ht9 hvm9 => ⟨k5, (hR.trans (by simp only [f_X0_isBack, hw5])), hB, hS.F ht9⟩) hS.2.2 (Nat.le_of_ble_eq_true rfl) (Nat.le_of_ble_eq_true rfl)
  · skip
    have hP := hP.kept (fun k q hk9 => hk _ (vx_lt hP hk9) (fun h => h))
    refine lv_iload_n hx hb dX0_isBack_8 rfl (lv_at hl 1 rfl) ?_
    refine va_calll (va_runS (As := [.int p0]) (rest := []) ⟨hx, hb, hml, hown, hts⟩ (met_X0_nearestBackBits l p0) (va_cwS 1 hts gX0_isBack_X0_nearestBackBits rfl rfl rfl (by decide +kernel) ⟨Nat.le_of_ble_eq_true rfl, Nat.le_of_ble_eq_true rfl⟩) ⟨fun a U g mk q => q, fun U hU hW => ⟨rfl, trivial⟩⟩ rfl rfl hl.1 rfl (lv_room (Nat.le_of_ble_eq_true rfl)) dX0_isBack_9 ⟨Nat.le_of_ble_eq_true rfl, Nat.le_of_ble_eq_true rfl⟩) hS (fun q _ h => h.elim) (fun q h => h.elim) (fun r9 u9 t H locs ht hvm hw9 hB hz hk hS => ?_)
    subst hw9
    have hP := hP.kept (fun k q hk9 => hk _ (vx_lt hP hk9) (fun h => h))
    refine lv_iload_n hx hb dX0_isBack_12 rfl (lv_at hl 1 rfl) ?_
    refine va_calli (va_runS (As := [.int p0]) (rest := [.long (f_X0_nearestBackBits p0)]) ⟨hx, hb, hml, hown, hts⟩ (met_X0_signOf l p0) (va_cwS 1 hts gX0_isBack_X0_signOf rfl rfl rfl (by decide +kernel) ⟨Nat.le_of_ble_eq_true rfl, Nat.le_of_ble_eq_true rfl⟩) ⟨fun a U g mk q => q, fun U hU hW => ⟨rfl, trivial⟩⟩ rfl rfl hl.1 rfl (lv_room (Nat.le_of_ble_eq_true rfl)) dX0_isBack_13 ⟨Nat.le_of_ble_eq_true rfl, Nat.le_of_ble_eq_true rfl⟩) hS (fun q _ h => h.elim) (fun q h => h.elim) (fun r13 u13 t H locs ht hvm hw13 hB hz hk hS => ?_)
    subst hw13
    have hP := hP.kept (fun k q hk9 => hk _ (vx_lt hP hk9) (fun h => h))
    refine lv_iload_n hx hb dX0_isBack_16 rfl (lv_at hl 1 rfl) ?_
    refine va_calll (va_runS (As := [.int p0]) (rest := [.int (f_X0_signOf p0), .long (f_X0_nearestBackBits p0)]) ⟨hx, hb, hml, hown, hts⟩ (met_X0_oddOf l p0) (va_cwS 1 hts gX0_isBack_X0_oddOf rfl rfl rfl (by decide +kernel) ⟨Nat.le_of_ble_eq_true rfl, Nat.le_of_ble_eq_true rfl⟩) ⟨fun a U g mk q => q, fun U hU hW => ⟨rfl, trivial⟩⟩ rfl rfl hl.1 rfl (lv_room (Nat.le_of_ble_eq_true rfl)) dX0_isBack_17 ⟨Nat.le_of_ble_eq_true rfl, Nat.le_of_ble_eq_true rfl⟩) hS (fun q _ h => h.elim) (fun q h => h.elim) (fun r17 u17 t H locs ht hvm hw17 hB hz hk hS => ?_)
    subst hw17
    have hP := hP.kept (fun k q hk9 => hk _ (vx_lt hP hk9) (fun h => h))
    refine lv_iload_n hx hb dX0_isBack_20 rfl (lv_at hl 1 rfl) ?_
    refine va_calli (va_runS (As := [.int p0]) (rest := [.long (f_X0_oddOf p0), .int (f_X0_signOf p0), .long (f_X0_nearestBackBits p0)]) ⟨hx, hb, hml, hown, hts⟩ (met_X0_shiftOf l p0) (va_cwS 1 hts gX0_isBack_X0_shiftOf rfl rfl rfl (by decide +kernel) ⟨Nat.le_of_ble_eq_true rfl, Nat.le_of_ble_eq_true rfl⟩) ⟨fun a U g mk q => q, fun U hU hW => ⟨rfl, trivial⟩⟩ rfl rfl hl.1 rfl (lv_room (Nat.le_of_ble_eq_true rfl)) dX0_isBack_21 ⟨Nat.le_of_ble_eq_true rfl, Nat.le_of_ble_eq_true rfl⟩) hS (fun q _ h => h.elim) (fun q h => h.elim) (fun r21 u21 t H locs ht hvm hw21 hB hz hk hS => ?_)
    subst hw21
    have hP := hP.kept (fun k q hk9 => hk _ (vx_lt hP hk9) (fun h => h))
    refine va_calll (va_runS (As := [.int (f_X0_signOf p0), .long (f_X0_oddOf p0), .int (f_X0_shiftOf p0)]) (rest := [.long (f_X0_nearestBackBits p0)]) ⟨hx, hb, hml, hown, hts⟩ (met_X0_bitsOf l (f_X0_signOf p0) (f_X0_oddOf p0) (f_X0_shiftOf p0)) (va_cwS 3 hts gX0_isBack_X0_bitsOf rfl rfl rfl (by decide +kernel) ⟨Nat.le_of_ble_eq_true rfl, Nat.le_of_ble_eq_true rfl⟩) ⟨fun a U g mk q => q, fun U hU hW => ⟨rfl, trivial⟩⟩ rfl rfl hl.1 rfl (lv_room (Nat.le_of_ble_eq_true rfl)) dX0_isBack_24 ⟨Nat.le_of_ble_eq_true rfl, Nat.le_of_ble_eq_true rfl⟩) hS (fun q _ h => h.elim) (fun q h => h.elim) (fun r24 u24 t H locs ht hvm hw24 hB hz hk hS => ?_)
    subst hw24
    have hP := hP.kept (fun k q hk9 => hk _ (vx_lt hP hk9) (fun h => h))
    refine W.lcmp hx hb dX0_isBack_27 ?_
    refine lv_if_ne (tgt := 35) hx hb dX0_isBack_28 (by decide) (fun c27 => ?_) (fun c27 => ?_)
    · skip
      have c27 : ¬ (((f_X0_nearestBackBits p0) : Int64) = (f_X0_bitsOf (f_X0_signOf p0) (f_X0_oddOf p0) (f_X0_shiftOf p0))) := fun h => c27 ((lg_cmp_eq _ _).mpr h)
      refine lv_iconst (v := 0) hx hb dX0_isBack_35 (by decide) ?_
      rw [hQ]
      refine vx_ret ?_
      exact W.zret (ty := .boolean) (v := 0) hx hb hr (nbool (Or.inl rfl)) (fun t ht hW => ⟨⟨0, (), rfl, ⟨(hR.trans (by simp only [f_X0_isBack, hw5, if_neg c27])), (Or.inl rfl)⟩, trivial⟩, hS.F ht⟩) hS.2.2 dX0_isBack_36
    · skip
      have c27 : ((f_X0_nearestBackBits p0) : Int64) = (f_X0_bitsOf (f_X0_signOf p0) (f_X0_oddOf p0) (f_X0_shiftOf p0)) := (lg_cmp_eq _ _).mp c27
      refine lv_iconst (v := 1) hx hb dX0_isBack_31 (by decide) ?_
      refine lv_goto (tgt := 36) hx hb dX0_isBack_32 (by decide) ?_
      rw [hQ]
      refine vx_ret ?_
      exact W.zret (ty := .boolean) (v := 1) hx hb hr (nbool (Or.inr rfl)) (fun t ht hW => ⟨⟨1, (), rfl, ⟨(hR.trans (by simp only [f_X0_isBack, hw5, if_pos c27])), (Or.inr rfl)⟩, trivial⟩, hS.F ht⟩) hS.2.2 dX0_isBack_36

def f_X0_squareBits (S : pS) (p0 : Int32) : Except Nat Int64 := (match f_X0_checkSlot p0 with | .error k => .error k | .ok _ => (match f_X0_checkSquared S p0 with | .error k => .error k | .ok _ => (.ok (f_X0_nearestSquareBits ((odS S) p0.toNatClampNeg) ((shS S) p0.toNatClampNeg)))))
set_option maxHeartbeats 4000000 in
set_option maxRecDepth 100000 in
theorem met_X0_squareBits (l : Launch) (hfl : l.stackTraces = false) (D : va_G) (cI cJ : ClassId) (ad : Nat → Nat) (S : pS) (p0 : Int32) : vx_Met l yX0_squareBits wsX0_squareBits ({ frames := 7, cells := 2, slots := 12, locals := 106 } : Room) (va_Pc [.ref (ad 0), .int p0] (fun U => b0R D cI cJ ad S U ∧ xE (fun _ => False) U U.heap)) (va_Ql (fun (r : Int64) (u : Unit) => f_X0_squareBits S p0 = .ok r) (fun _ _ => True) (fun _ => False)) (vx_X (fun k : Nat => f_X0_squareBits S p0 = .error k) (fun E k _ => E = exN k) (fun _ => False)) 2 12 (fun _ => False) := by
  refine vx_ofW (cc := cX0_squareBits) (maxL := 2) (ret := (some .long)) (by decide) rfl ?_
  intro p e s m args below meth c s₁ B hml hno hv
  obtain ⟨rfl, ⟨hP, hK⟩, hE⟩ := hv
  have hx := B.exec
  have hb := B.bytes
  have hr := B.returns
  have hts := atoms_spec (ws := wsX0_squareBits) B.pre
  have hown : s.vm.findClass RX0 = some m.cls := findClass_of_methodNamed B.named
  have hlocks := B.notSynchronized
  have hS : va_S (fun _ => False) s.heap s.heap [] := va_S.rf
  have hin : ∀ w ∈ wsX00, w ∈ wsX0_squareBits := by decide +kernel
  have hf13 := hts (.fieldLink RX0 13 "Powermill" "odds" "[J") (by decide +kernel)
  have hf17 := hts (.fieldLink RX0 17 "Powermill" "shifts" "[I") (by decide +kernel)
  have hl := lv_entry ([.ref (ad 0), .int p0]) (n := 2) (Nat.le_of_ble_eq_true rfl)
  rw [lg_entry_eq]
  generalize (lg_sl ([.ref (ad 0), .int p0]) ++ List.replicate (2 - (lg_sl ([.ref (ad 0), .int p0])).length) Slot.unset).toArray = ls at hl ⊢
  have hl : lv_has ls 2 [(0, .ref (ad 0)), (1, .int p0)] := hl
  obtain ⟨Q, hQ⟩ : ∃ Q : State → Prop, Q = (vx_MQ below (va_Ql (fun (r : Int64) (u : Unit) => f_X0_squareBits S p0 = .ok r) (fun _ _ => True) (fun _ => False)) (vx_X (fun k : Nat => f_X0_squareBits S p0 = .error k) (fun E k _ => E = exN k) (fun _ => False)) ([.ref (ad 0), .int p0] : List Value).toArray s 2 12 (fun _ => False)) := ⟨_, rfl⟩
  rw [← hQ]
  have hR : f_X0_squareBits S p0 = f_X0_squareBits S p0 := rfl
  refine lv_iload_n hx hb dX0_squareBits_0 rfl (lv_at hl 1 rfl) ?_
  refine vx_callv (vx_runS (As := [.int p0]) (rest := []) ⟨hx, hb, hml, hown, hts⟩ (met_X0_checkSlot l hfl p0) (va_cwS 1 hts gX0_squareBits_X0_checkSlot rfl rfl rfl (by decide +kernel) ⟨Nat.le_of_ble_eq_true rfl, Nat.le_of_ble_eq_true rfl⟩) ⟨fun a U g mk q => ⟨q.1, xE_calling q.2⟩, fun U hU hW => ⟨rfl, xE_at hE hS hU hW⟩⟩ rfl rfl hl.1 rfl (lv_room (Nat.le_of_ble_eq_true rfl)) dX0_squareBits_1 ⟨Nat.le_of_ble_eq_true rfl, Nat.le_of_ble_eq_true rfl⟩) hS (fun q _ h => h.elim) (fun q h => h.elim) (fun q _ h => h.elim) (fun E ce q9 k1 t H locs ht hvm hw1 hB hz hk hS hc9 hv9 hf9 => ?_) (fun u1 t H locs ht hvm hw1 hB hz hk hS => ?_)
  · skip
    rw [hQ]
    exact vx_out (fun x hx => (hno x hx).elim) hlocks hc9 hv9 hf9 (fun t9 ht9 hvm9 => ⟨k1, (hR.trans (by simp only [f_X0_squareBits, hw1])), hB, hS.F ht9⟩) hS.2.2 (Nat.le_of_ble_eq_true rfl) (Nat.le_of_ble_eq_true rfl)
  · skip
    have hP := hP.kept (fun k q hk9 => hk _ (vx_lt hP hk9) (fun h => h))
    have hi1 : vp_in p0 8 := slot_in hw1
    refine lv_aload_n hx hb dX0_squareBits_4 rfl (lv_at hl 0 rfl) ?_
    refine lv_iload_n hx hb dX0_squareBits_5 rfl (lv_at hl 1 rfl) ?_
    refine vx_callv (vx_runV (As := [.int p0]) (rest := []) ⟨hx, hb, hml, hown, hts⟩ (met_X0_checkSquared l hfl D cI cJ ad S p0 (hi1)) (cwV 1 hts gX0_squareBits_X0_checkSquared rfl rfl rfl (by decide +kernel) ⟨Nat.le_of_ble_eq_true rfl, Nat.le_of_ble_eq_true rfl⟩) ⟨fun a U g mk q => ⟨q.1, b0R_calling q.2.1, xE_calling q.2.2⟩, va_recv hK hP (ci := 0) (q0 := 0) rfl rfl, fun U hU hW => ⟨rfl, b0R_at hP hK hU hW, xE_at hE hS hU hW⟩⟩ rfl rfl hl.1 rfl (lv_room (Nat.le_of_ble_eq_true rfl)) dX0_squareBits_6 ⟨Nat.le_of_ble_eq_true rfl, Nat.le_of_ble_eq_true rfl⟩) hS (fun q _ h => h.elim) (fun q h => h.elim) (fun q _ h => h.elim) (fun E ce q9 k6 t H locs ht hvm hw6 hB hz hk hS hc9 hv9 hf9 => ?_) (fun u6 t H locs ht hvm hw6 hB hz hk hS => ?_)
    · skip
      rw [hQ]
      exact vx_out (fun x hx => (hno x hx).elim) hlocks hc9 hv9 hf9 (fun t9 ht9 hvm9 => ⟨k6, (hR.trans (by simp only [f_X0_squareBits, hw1, hw6])), hB, hS.F ht9⟩) hS.2.2 (Nat.le_of_ble_eq_true rfl) (Nat.le_of_ble_eq_true rfl)
    · skip
      have hP := hP.kept (fun k q hk9 => hk _ (vx_lt hP hk9) (fun h => h))
      refine lv_aload_n hx hb dX0_squareBits_9 rfl (lv_at hl 0 rfl) ?_
      refine va_get (D := D) (ci := 0) (v := .ref (ad 2)) (C := RX0) (T := TX0) (N := 9) hx hb hts hin hown hK hP 0 rfl rfl 1 (by decide) hf13 (fun _ h9 => h9) rfl dX0_squareBits_10 ?_
      refine lv_iload_n hx hb dX0_squareBits_13 rfl (lv_at hl 1 rfl) ?_
      refine va_lald hx hb hK hP 2 1 rfl rfl hi1 dX0_squareBits_14 ?_
      refine lv_aload_n hx hb dX0_squareBits_15 rfl (lv_at hl 0 rfl) ?_
      refine va_get (D := D) (ci := 0) (v := .ref (ad 3)) (C := RX0) (T := TX0) (N := 9) hx hb hts hin hown hK hP 0 rfl rfl 2 (by decide) hf17 (fun _ h9 => h9) rfl dX0_squareBits_16 ?_
      refine lv_iload_n hx hb dX0_squareBits_19 rfl (lv_at hl 1 rfl) ?_
      refine va_iald hx hb hK hP 3 0 rfl rfl hi1 dX0_squareBits_20 ?_
      refine va_calll (va_runS (As := [.long ((odS S) p0.toNatClampNeg), .int ((shS S) p0.toNatClampNeg)]) (rest := []) ⟨hx, hb, hml, hown, hts⟩ (met_X0_nearestSquareBits l ((odS S) p0.toNatClampNeg) ((shS S) p0.toNatClampNeg)) (va_cwS 2 hts gX0_squareBits_X0_nearestSquareBits rfl rfl rfl (by decide +kernel) ⟨Nat.le_of_ble_eq_true rfl, Nat.le_of_ble_eq_true rfl⟩) ⟨fun a U g mk q => q, fun U hU hW => ⟨rfl, trivial⟩⟩ rfl rfl hl.1 rfl (lv_room (Nat.le_of_ble_eq_true rfl)) dX0_squareBits_21 ⟨Nat.le_of_ble_eq_true rfl, Nat.le_of_ble_eq_true rfl⟩) hS (fun q _ h => h.elim) (fun q h => h.elim) (fun r21 u21 t H locs ht hvm hw21 hB hz hk hS => ?_)
      subst hw21
      have hP := hP.kept (fun k q hk9 => hk _ (vx_lt hP hk9) (fun h => h))
      rw [hQ]
      refine vx_ret ?_
      exact W.lret (v := (f_X0_nearestSquareBits ((odS S) p0.toNatClampNeg) ((shS S) p0.toNatClampNeg))) hx hb hr (fun t ht hW => ⟨⟨(f_X0_nearestSquareBits ((odS S) p0.toNatClampNeg) ((shS S) p0.toNatClampNeg)), (), rfl, (hR.trans (by simp only [f_X0_squareBits, hw1, hw6])), trivial⟩, hS.F ht⟩) hS.2.2 dX0_squareBits_24

def f_X0_slotBits (S : pS) (p0 : Int32) : Int64 := (f_X0_bitsOf ((sgS S) p0.toNatClampNeg) ((odS S) p0.toNatClampNeg) ((shS S) p0.toNatClampNeg))
set_option maxHeartbeats 4000000 in
set_option maxRecDepth 100000 in
theorem met_X0_slotBits (l : Launch) (D : va_G) (cI cJ : ClassId) (ad : Nat → Nat) (S : pS) (p0 : Int32) (h0 : vp_in p0 8) : Met l yX0_slotBits wsX0_slotBits ({ frames := 2, cells := 0, slots := 0, locals := 49 } : Room) (va_Pc [.ref (ad 0), .int p0] (fun U => b0R D cI cJ ad S U)) (va_Ql (fun (r : Int64) (u : Unit) => f_X0_slotBits S p0 = r) (fun _ _ => True) (fun _ => False)) 0 0 (fun _ => False) := by
  refine Met.ofW (cc := cX0_slotBits) (maxL := 2) (ret := (some .long)) (by decide) rfl ?_
  intro p e s m args below meth c s₁ B hml hv
  obtain ⟨rfl, ⟨hP, hK⟩⟩ := hv
  have hx := B.exec
  have hb := B.bytes
  have hr := B.returns
  have hts := atoms_spec (ws := wsX0_slotBits) B.pre
  have hown : s.vm.findClass RX0 = some m.cls := findClass_of_methodNamed B.named
  have hlocks := B.notSynchronized
  have hS : va_S (fun _ => False) s.heap s.heap [] := va_S.rf
  have hin : ∀ w ∈ wsX00, w ∈ wsX0_slotBits := by decide +kernel
  have hf9 := hts (.fieldLink RX0 9 "Powermill" "signs" "[I") (by decide +kernel)
  have hf13 := hts (.fieldLink RX0 13 "Powermill" "odds" "[J") (by decide +kernel)
  have hf17 := hts (.fieldLink RX0 17 "Powermill" "shifts" "[I") (by decide +kernel)
  have hl := lv_entry ([.ref (ad 0), .int p0]) (n := 2) (Nat.le_of_ble_eq_true rfl)
  rw [lg_entry_eq]
  generalize (lg_sl ([.ref (ad 0), .int p0]) ++ List.replicate (2 - (lg_sl ([.ref (ad 0), .int p0])).length) Slot.unset).toArray = ls at hl ⊢
  have hl : lv_has ls 2 [(0, .ref (ad 0)), (1, .int p0)] := hl
  obtain ⟨Q, hQ⟩ : ∃ Q : State → Prop, Q = (MQ below (va_Ql (fun (r : Int64) (u : Unit) => f_X0_slotBits S p0 = r) (fun _ _ => True) (fun _ => False)) ([.ref (ad 0), .int p0] : List Value).toArray s 0 0 (fun _ => False)) := ⟨_, rfl⟩
  rw [← hQ]
  have hR : f_X0_slotBits S p0 = f_X0_slotBits S p0 := rfl
  refine lv_aload_n hx hb dX0_slotBits_0 rfl (lv_at hl 0 rfl) ?_
  refine va_get (D := D) (ci := 0) (v := .ref (ad 1)) (C := RX0) (T := TX0) (N := 9) hx hb hts hin hown hK hP 0 rfl rfl 0 (by decide) hf9 (fun _ h9 => h9) rfl dX0_slotBits_1 ?_
  refine lv_iload_n hx hb dX0_slotBits_4 rfl (lv_at hl 1 rfl) ?_
  refine va_iald hx hb hK hP 1 0 rfl rfl h0 dX0_slotBits_5 ?_
  refine lv_aload_n hx hb dX0_slotBits_6 rfl (lv_at hl 0 rfl) ?_
  refine va_get (D := D) (ci := 0) (v := .ref (ad 2)) (C := RX0) (T := TX0) (N := 9) hx hb hts hin hown hK hP 0 rfl rfl 1 (by decide) hf13 (fun _ h9 => h9) rfl dX0_slotBits_7 ?_
  refine lv_iload_n hx hb dX0_slotBits_10 rfl (lv_at hl 1 rfl) ?_
  refine va_lald hx hb hK hP 2 1 rfl rfl h0 dX0_slotBits_11 ?_
  refine lv_aload_n hx hb dX0_slotBits_12 rfl (lv_at hl 0 rfl) ?_
  refine va_get (D := D) (ci := 0) (v := .ref (ad 3)) (C := RX0) (T := TX0) (N := 9) hx hb hts hin hown hK hP 0 rfl rfl 2 (by decide) hf17 (fun _ h9 => h9) rfl dX0_slotBits_13 ?_
  refine lv_iload_n hx hb dX0_slotBits_16 rfl (lv_at hl 1 rfl) ?_
  refine va_iald hx hb hK hP 3 0 rfl rfl h0 dX0_slotBits_17 ?_
  refine va_calll (va_runS (As := [.int ((sgS S) p0.toNatClampNeg), .long ((odS S) p0.toNatClampNeg), .int ((shS S) p0.toNatClampNeg)]) (rest := []) ⟨hx, hb, hml, hown, hts⟩ (met_X0_bitsOf l ((sgS S) p0.toNatClampNeg) ((odS S) p0.toNatClampNeg) ((shS S) p0.toNatClampNeg)) (va_cwS 3 hts gX0_slotBits_X0_bitsOf rfl rfl rfl (by decide +kernel) ⟨Nat.le_of_ble_eq_true rfl, Nat.le_of_ble_eq_true rfl⟩) ⟨fun a U g mk q => q, fun U hU hW => ⟨rfl, trivial⟩⟩ rfl rfl hl.1 rfl (lv_room (Nat.le_of_ble_eq_true rfl)) dX0_slotBits_18 ⟨Nat.le_of_ble_eq_true rfl, Nat.le_of_ble_eq_true rfl⟩) hS (fun q _ h => h.elim) (fun q h => h.elim) (fun r18 u18 t H locs ht hvm hw18 hB hz hk hS => ?_)
  subst hw18
  have hP := hP.kept (fun k q hk9 => hk _ (vx_lt hP hk9) (fun h => h))
  rw [hQ]
  exact W.lret (v := (f_X0_bitsOf ((sgS S) p0.toNatClampNeg) ((odS S) p0.toNatClampNeg) ((shS S) p0.toNatClampNeg))) hx hb hr (fun t ht hW => ⟨⟨(f_X0_bitsOf ((sgS S) p0.toNatClampNeg) ((odS S) p0.toNatClampNeg) ((shS S) p0.toNatClampNeg)), (), rfl, (hR.trans (by simp only [f_X0_slotBits])), trivial⟩, hS.F ht⟩) hS.2.2 dX0_slotBits_21

def f_X0_nearSize (S : pS) (p0 : Int32) : Int64 := (((odS S) p0.toNatClampNeg) <<< ((((shS S) p0.toNatClampNeg) : Int32).toInt64 &&& 63))
set_option maxHeartbeats 4000000 in
set_option maxRecDepth 100000 in
theorem met_X0_nearSize (l : Launch) (D : va_G) (cI cJ : ClassId) (ad : Nat → Nat) (S : pS) (p0 : Int32) (h0 : vp_in p0 8) : Met l yX0_nearSize wsX0_nearSize ({ frames := 0, cells := 0, slots := 0, locals := 0 } : Room) (va_Pc [.ref (ad 0), .int p0] (fun U => b0R D cI cJ ad S U)) (va_Ql (fun (r : Int64) (u : Unit) => f_X0_nearSize S p0 = r) (fun _ _ => True) (fun _ => False)) 0 0 (fun _ => False) := by
  refine Met.ofW (cc := cX0_nearSize) (maxL := 2) (ret := (some .long)) (by decide) rfl ?_
  intro p e s m args below meth c s₁ B hml hv
  obtain ⟨rfl, ⟨hP, hK⟩⟩ := hv
  have hx := B.exec
  have hb := B.bytes
  have hr := B.returns
  have hts := atoms_spec (ws := wsX0_nearSize) B.pre
  have hown : s.vm.findClass RX0 = some m.cls := findClass_of_methodNamed B.named
  have hlocks := B.notSynchronized
  have hS : va_S (fun _ => False) s.heap s.heap [] := va_S.rf
  have hin : ∀ w ∈ wsX00, w ∈ wsX0_nearSize := by decide +kernel
  have hf13 := hts (.fieldLink RX0 13 "Powermill" "odds" "[J") (by decide +kernel)
  have hf17 := hts (.fieldLink RX0 17 "Powermill" "shifts" "[I") (by decide +kernel)
  have hl := lv_entry ([.ref (ad 0), .int p0]) (n := 2) (Nat.le_of_ble_eq_true rfl)
  rw [lg_entry_eq]
  generalize (lg_sl ([.ref (ad 0), .int p0]) ++ List.replicate (2 - (lg_sl ([.ref (ad 0), .int p0])).length) Slot.unset).toArray = ls at hl ⊢
  have hl : lv_has ls 2 [(0, .ref (ad 0)), (1, .int p0)] := hl
  obtain ⟨Q, hQ⟩ : ∃ Q : State → Prop, Q = (MQ below (va_Ql (fun (r : Int64) (u : Unit) => f_X0_nearSize S p0 = r) (fun _ _ => True) (fun _ => False)) ([.ref (ad 0), .int p0] : List Value).toArray s 0 0 (fun _ => False)) := ⟨_, rfl⟩
  rw [← hQ]
  have hR : f_X0_nearSize S p0 = f_X0_nearSize S p0 := rfl
  refine lv_aload_n hx hb dX0_nearSize_0 rfl (lv_at hl 0 rfl) ?_
  refine va_get (D := D) (ci := 0) (v := .ref (ad 2)) (C := RX0) (T := TX0) (N := 9) hx hb hts hin hown hK hP 0 rfl rfl 1 (by decide) hf13 (fun _ h9 => h9) rfl dX0_nearSize_1 ?_
  refine lv_iload_n hx hb dX0_nearSize_4 rfl (lv_at hl 1 rfl) ?_
  refine va_lald hx hb hK hP 2 1 rfl rfl h0 dX0_nearSize_5 ?_
  refine lv_aload_n hx hb dX0_nearSize_6 rfl (lv_at hl 0 rfl) ?_
  refine va_get (D := D) (ci := 0) (v := .ref (ad 3)) (C := RX0) (T := TX0) (N := 9) hx hb hts hin hown hK hP 0 rfl rfl 2 (by decide) hf17 (fun _ h9 => h9) rfl dX0_nearSize_7 ?_
  refine lv_iload_n hx hb dX0_nearSize_10 rfl (lv_at hl 1 rfl) ?_
  refine va_iald hx hb hK hP 3 0 rfl rfl h0 dX0_nearSize_11 ?_
  refine lv_lshl hx hb dX0_nearSize_12 rfl ?_
  rw [hQ]
  exact W.lret (v := (((odS S) p0.toNatClampNeg) <<< ((((shS S) p0.toNatClampNeg) : Int32).toInt64 &&& 63))) hx hb hr (fun t ht hW => ⟨⟨(((odS S) p0.toNatClampNeg) <<< ((((shS S) p0.toNatClampNeg) : Int32).toInt64 &&& 63)), (), rfl, (hR.trans (by simp only [f_X0_nearSize])), trivial⟩, hS.F ht⟩) hS.2.2 dX0_nearSize_13

def f_X0_orderKey (S : pS) (p0 : Int32) : Int64 := (if (0 : Int64) ≤ (f_X0_slotBits S p0) then (f_X0_slotBits S p0) else ((-9223372036854775808) - (f_X0_slotBits S p0)))
set_option maxHeartbeats 4000000 in
set_option maxRecDepth 100000 in
theorem met_X0_orderKey (l : Launch) (D : va_G) (cI cJ : ClassId) (ad : Nat → Nat) (S : pS) (p0 : Int32) (h0 : vp_in p0 8) : Met l yX0_orderKey wsX0_orderKey ({ frames := 3, cells := 0, slots := 0, locals := 70 } : Room) (va_Pc [.ref (ad 0), .int p0] (fun U => b0R D cI cJ ad S U)) (va_Ql (fun (r : Int64) (u : Unit) => f_X0_orderKey S p0 = r) (fun _ _ => True) (fun _ => False)) 0 0 (fun _ => False) := by
  refine Met.ofW (cc := cX0_orderKey) (maxL := 4) (ret := (some .long)) (by decide) rfl ?_
  intro p e s m args below meth c s₁ B hml hv
  obtain ⟨rfl, ⟨hP, hK⟩⟩ := hv
  have hx := B.exec
  have hb := B.bytes
  have hr := B.returns
  have hts := atoms_spec (ws := wsX0_orderKey) B.pre
  have hown : s.vm.findClass RX0 = some m.cls := findClass_of_methodNamed B.named
  have hlocks := B.notSynchronized
  have hS : va_S (fun _ => False) s.heap s.heap [] := va_S.rf
  have hl := lv_entry ([.ref (ad 0), .int p0]) (n := 4) (Nat.le_of_ble_eq_true rfl)
  rw [lg_entry_eq]
  generalize (lg_sl ([.ref (ad 0), .int p0]) ++ List.replicate (4 - (lg_sl ([.ref (ad 0), .int p0])).length) Slot.unset).toArray = ls at hl ⊢
  have hl : lv_has ls 4 [(0, .ref (ad 0)), (1, .int p0)] := hl
  obtain ⟨Q, hQ⟩ : ∃ Q : State → Prop, Q = (MQ below (va_Ql (fun (r : Int64) (u : Unit) => f_X0_orderKey S p0 = r) (fun _ _ => True) (fun _ => False)) ([.ref (ad 0), .int p0] : List Value).toArray s 0 0 (fun _ => False)) := ⟨_, rfl⟩
  rw [← hQ]
  have hR : f_X0_orderKey S p0 = f_X0_orderKey S p0 := rfl
  refine lv_aload_n hx hb dX0_orderKey_0 rfl (lv_at hl 0 rfl) ?_
  refine lv_iload_n hx hb dX0_orderKey_1 rfl (lv_at hl 1 rfl) ?_
  refine va_calll (va_runV (As := [.int p0]) (rest := []) ⟨hx, hb, hml, hown, hts⟩ (met_X0_slotBits l D cI cJ ad S p0 (h0)) (cwV 1 hts gX0_orderKey_X0_slotBits rfl rfl rfl (by decide +kernel) ⟨Nat.le_of_ble_eq_true rfl, Nat.le_of_ble_eq_true rfl⟩) ⟨fun a U g mk q => ⟨q.1, b0R_calling q.2⟩, va_recv hK hP (ci := 0) (q0 := 0) rfl rfl, fun U hU hW => ⟨rfl, b0R_at hP hK hU hW⟩⟩ rfl rfl hl.1 rfl (lv_room (Nat.le_of_ble_eq_true rfl)) dX0_orderKey_2 ⟨Nat.le_of_ble_eq_true rfl, Nat.le_of_ble_eq_true rfl⟩) hS (fun q _ h => h.elim) (fun q h => h.elim) (fun r2 u2 t H locs ht hvm hw2 hB hz hk hS => ?_)
  subst hw2
  have hP := hP.kept (fun k q hk9 => hk _ (vx_lt hP hk9) (fun h => h))
  refine lv_lstore_n (lv' := [(2, .long (f_X0_slotBits S p0)), (0, .ref (ad 0)), (1, .int p0)]) hx hb dX0_orderKey_5 rfl hl (by decide) rfl (fun ls hl => ?_)
  refine lv_lload_n hx hb dX0_orderKey_6 rfl (lv_at hl 0 rfl) ?_
  refine lv_lconst (v := 0) hx hb dX0_orderKey_7 rfl ?_
  refine W.lcmp hx hb dX0_orderKey_8 ?_
  refine lv_if_ge (tgt := 20) hx hb dX0_orderKey_9 (by decide) (fun c8 => ?_) (fun c8 => ?_)
  · skip
    have c8 : (0 : Int64) ≤ (f_X0_slotBits S p0) := (lg_cmp_ge _ _).mp c8
    refine lv_lload_n hx hb dX0_orderKey_20 rfl (lv_at hl 0 rfl) ?_
    rw [hQ]
    exact W.lret (v := (f_X0_slotBits S p0)) hx hb hr (fun t ht hW => ⟨⟨(f_X0_slotBits S p0), (), rfl, (hR.trans (by simp only [f_X0_orderKey, if_pos c8])), trivial⟩, hS.F ht⟩) hS.2.2 dX0_orderKey_21
  · skip
    have c8 : ¬ ((0 : Int64) ≤ (f_X0_slotBits S p0)) := fun h => c8 ((lg_cmp_ge _ _).mpr h)
    refine lv_ldc2 (v := (-9223372036854775808)) hx hb hown (hts (.constantLong RX0 216 (-9223372036854775808)) (by decide +kernel)) dX0_orderKey_12 ?_
    refine lv_lload_n hx hb dX0_orderKey_15 rfl (lv_at hl 0 rfl) ?_
    refine lv_lsub hx hb dX0_orderKey_16 ?_
    refine lv_goto (tgt := 21) hx hb dX0_orderKey_17 (by decide) ?_
    rw [hQ]
    exact W.lret (v := ((-9223372036854775808) - (f_X0_slotBits S p0))) hx hb hr (fun t ht hW => ⟨⟨((-9223372036854775808) - (f_X0_slotBits S p0)), (), rfl, (hR.trans (by simp only [f_X0_orderKey, if_neg c8])), trivial⟩, hS.F ht⟩) hS.2.2 dX0_orderKey_21

def g_X0_placeOf_12 (S : pS) (p0 : Int32) : Nat → Int32 → Int32 → Int32
  | 0, _, _ => 0
  | n + 1, v12_4, v12_5 => (if (8 : Int32) ≤ v12_5 then v12_4 else (if ((f_X0_orderKey S v12_5) : Int64) < (f_X0_orderKey S p0) then (g_X0_placeOf_12 S p0 n (v12_4 + 1) (v12_5 + 1)) else (if ((f_X0_orderKey S v12_5) : Int64) = (f_X0_orderKey S p0) then (if (p0 : Int32) ≤ v12_5 then (g_X0_placeOf_12 S p0 n v12_4 (v12_5 + 1)) else (g_X0_placeOf_12 S p0 n (v12_4 + 1) (v12_5 + 1))) else (g_X0_placeOf_12 S p0 n v12_4 (v12_5 + 1)))))
def f_X0_placeOf (S : pS) (p0 : Int32) : Int32 := (g_X0_placeOf_12 S p0 (((8 : Int32).toInt - (0 : Int32).toInt).toNat + 1) 0 0)
set_option maxHeartbeats 4000000 in
set_option maxRecDepth 100000 in
theorem met_X0_placeOf (l : Launch) (D : va_G) (cI cJ : ClassId) (ad : Nat → Nat) (S : pS) (p0 : Int32) (h0 : vp_in p0 8) : Met l yX0_placeOf wsX0_placeOf ({ frames := 4, cells := 0, slots := 0, locals := 93 } : Room) (va_Pc [.ref (ad 0), .int p0] (fun U => b0R D cI cJ ad S U)) (va_Qi (fun (r : Int32) (u : Unit) => f_X0_placeOf S p0 = r) (fun _ _ => True) (fun _ => False)) 0 0 (fun _ => False) := by
  refine Met.ofW (cc := cX0_placeOf) (maxL := 8) (ret := (some .int)) (by decide) rfl ?_
  intro p e s m args below meth c s₁ B hml hv
  obtain ⟨rfl, ⟨hP, hK⟩⟩ := hv
  have hx := B.exec
  have hb := B.bytes
  have hr := B.returns
  have hts := atoms_spec (ws := wsX0_placeOf) B.pre
  have hown : s.vm.findClass RX0 = some m.cls := findClass_of_methodNamed B.named
  have hlocks := B.notSynchronized
  have hS : va_S (fun _ => False) s.heap s.heap [] := va_S.rf
  have hl := lv_entry ([.ref (ad 0), .int p0]) (n := 8) (Nat.le_of_ble_eq_true rfl)
  rw [lg_entry_eq]
  generalize (lg_sl ([.ref (ad 0), .int p0]) ++ List.replicate (8 - (lg_sl ([.ref (ad 0), .int p0])).length) Slot.unset).toArray = ls at hl ⊢
  have hl : lv_has ls 8 [(0, .ref (ad 0)), (1, .int p0)] := hl
  obtain ⟨Q, hQ⟩ : ∃ Q : State → Prop, Q = (MQ below (va_Qi (fun (r : Int32) (u : Unit) => f_X0_placeOf S p0 = r) (fun _ _ => True) (fun _ => False)) ([.ref (ad 0), .int p0] : List Value).toArray s 0 0 (fun _ => False)) := ⟨_, rfl⟩
  rw [← hQ]
  have hR : f_X0_placeOf S p0 = f_X0_placeOf S p0 := rfl
  refine lv_aload_n hx hb dX0_placeOf_0 rfl (lv_at hl 0 rfl) ?_
  refine lv_iload_n hx hb dX0_placeOf_1 rfl (lv_at hl 1 rfl) ?_
  refine va_calll (va_runV (As := [.int p0]) (rest := []) ⟨hx, hb, hml, hown, hts⟩ (met_X0_orderKey l D cI cJ ad S p0 (h0)) (cwV 1 hts gX0_placeOf_X0_orderKey rfl rfl rfl (by decide +kernel) ⟨Nat.le_of_ble_eq_true rfl, Nat.le_of_ble_eq_true rfl⟩) ⟨fun a U g mk q => ⟨q.1, b0R_calling q.2⟩, va_recv hK hP (ci := 0) (q0 := 0) rfl rfl, fun U hU hW => ⟨rfl, b0R_at hP hK hU hW⟩⟩ rfl rfl hl.1 rfl (lv_room (Nat.le_of_ble_eq_true rfl)) dX0_placeOf_2 ⟨Nat.le_of_ble_eq_true rfl, Nat.le_of_ble_eq_true rfl⟩) hS (fun q _ h => h.elim) (fun q h => h.elim) (fun r2 u2 t H locs ht hvm hw2 hB hz hk hS => ?_)
  subst hw2
  have hP := hP.kept (fun k q hk9 => hk _ (vx_lt hP hk9) (fun h => h))
  refine lv_lstore_n (lv' := [(2, .long (f_X0_orderKey S p0)), (0, .ref (ad 0)), (1, .int p0)]) hx hb dX0_placeOf_5 rfl hl (by decide) rfl (fun ls hl => ?_)
  refine lv_iconst (v := 0) hx hb dX0_placeOf_6 (by decide) ?_
  refine lv_istore (lv' := [(4, .int 0), (2, .long (f_X0_orderKey S p0)), (0, .ref (ad 0)), (1, .int p0)]) hx hb dX0_placeOf_7 hl (by decide) rfl (fun ls hl => ?_)
  refine lv_iconst (v := 0) hx hb dX0_placeOf_9 (by decide) ?_
  refine lv_istore (lv' := [(5, .int 0), (4, .int 0), (2, .long (f_X0_orderKey S p0)), (0, .ref (ad 0)), (1, .int p0)]) hx hb dX0_placeOf_10 hl (by decide) rfl (fun ls hl => ?_)
  have J12 : ∀ (n12 : Nat) (v12_4 : Int32) (v12_5 : Int32) (ls : Array Slot) (H : Heap) (locs : List Loc), lv_has ls 8 [(0, .ref (ad 0)), (1, .int p0), (2, .long (f_X0_orderKey S p0)), (4, .int v12_4), (5, .int v12_5)] → va_S (fun _ => False) s.heap H locs → va_P D pCl (pmW cI cJ ad S) H → f_X0_placeOf S p0 = g_X0_placeOf_12 S p0 n12 v12_4 v12_5 → ((8 : Int32).toInt - v12_5.toInt).toNat < n12 → ((0 : Int32) ≤ v12_5) → W p l e (headSpec wsX0_placeOf ({ frames := 4, cells := 0, slots := 0, locals := 93 } : Room)).room s m ([.ref (ad 0), .int p0] : List Value).toArray below meth c H locs 0 0 Q (F0 m 12 ls []) := by
    intro n12
    induction n12 with
    | zero => intro v12_4 v12_5 ls H locs hl hS hP hR hmu12 hi12_0; exact absurd hmu12 (Nat.not_lt_zero _)
    | succ n12 ih12 =>
      intro v12_4 v12_5 ls H locs hl hS hP hR hmu12 hi12_0
      refine lv_iload hx hb dX0_placeOf_12 (lv_at hl 4 rfl) ?_
      refine lv_bipush (v := 8) hx hb dX0_placeOf_14 (by decide) ?_
      refine lv_icmp_ge (tgt := 56) hx hb dX0_placeOf_16 (by decide) (fun c16 => ?_) (fun c16 => ?_)
      · skip
        refine lv_iload hx hb dX0_placeOf_56 (lv_at hl 3 rfl) ?_
        rw [hQ]
        exact W.iret (v := v12_4) hx hb hr (fun t ht hW => ⟨⟨v12_4, (), rfl, (hR.trans (by simp only [g_X0_placeOf_12, if_pos c16])), trivial⟩, hS.F ht⟩) hS.2.2 dX0_placeOf_58
      · skip
        refine lv_aload_n hx hb dX0_placeOf_19 rfl (lv_at hl 0 rfl) ?_
        refine lv_iload hx hb dX0_placeOf_20 (lv_at hl 4 rfl) ?_
        refine va_calll (va_runV (As := [.int v12_5]) (rest := []) ⟨hx, hb, hml, hown, hts⟩ (met_X0_orderKey l D cI cJ ad S v12_5 ((in8 hi12_0 c16))) (cwV 1 hts gX0_placeOf_X0_orderKey rfl rfl rfl (by decide +kernel) ⟨Nat.le_of_ble_eq_true rfl, Nat.le_of_ble_eq_true rfl⟩) ⟨fun a U g mk q => ⟨q.1, b0R_calling q.2⟩, va_recv hK hP (ci := 0) (q0 := 0) rfl rfl, fun U hU hW => ⟨rfl, b0R_at hP hK hU hW⟩⟩ rfl rfl hl.1 rfl (lv_room (Nat.le_of_ble_eq_true rfl)) dX0_placeOf_22 ⟨Nat.le_of_ble_eq_true rfl, Nat.le_of_ble_eq_true rfl⟩) hS (fun q _ h => h.elim) (fun q h => h.elim) (fun r22 u22 t H locs ht hvm hw22 hB hz hk hS => ?_)
        subst hw22
        have hP := hP.kept (fun k q hk9 => hk _ (vx_lt hP hk9) (fun h => h))
        refine lv_lstore (lv' := [(6, .long (f_X0_orderKey S v12_5)), (0, .ref (ad 0)), (1, .int p0), (2, .long (f_X0_orderKey S p0)), (4, .int v12_4), (5, .int v12_5)]) hx hb dX0_placeOf_25 hl (by decide) rfl (fun ls hl => ?_)
        refine lv_lload hx hb dX0_placeOf_27 (lv_at hl 0 rfl) ?_
        refine lv_lload_n hx hb dX0_placeOf_29 rfl (lv_at hl 3 rfl) ?_
        refine W.lcmp hx hb dX0_placeOf_30 ?_
        refine lv_if_lt (tgt := 47) hx hb dX0_placeOf_31 (by decide) (fun c30 => ?_) (fun c30 => ?_)
        · skip
          have c30 : ((f_X0_orderKey S v12_5) : Int64) < (f_X0_orderKey S p0) := (lg_cmp_lt _ _).mp c30
          refine lv_iinc (v := (v12_4 + 1)) (lv' := [(4, .int (v12_4 + 1)), (6, .long (f_X0_orderKey S v12_5)), (0, .ref (ad 0)), (1, .int p0), (2, .long (f_X0_orderKey S p0)), (5, .int v12_5)]) hx hb dX0_placeOf_47 hl (k := 4) rfl (by rfl) (by decide) rfl (fun ls hl => ?_)
          refine lv_iinc (v := (v12_5 + 1)) (lv' := [(5, .int (v12_5 + 1)), (4, .int (v12_4 + 1)), (6, .long (f_X0_orderKey S v12_5)), (0, .ref (ad 0)), (1, .int p0), (2, .long (f_X0_orderKey S p0))]) hx hb dX0_placeOf_50 hl (k := 5) rfl (by rfl) (by decide) rfl (fun ls hl => ?_)
          refine lv_goto (tgt := 12) hx hb dX0_placeOf_53 (by decide) ?_
          exact ih12 (v12_4 + 1) (v12_5 + 1) ls _ _ (lv_sub hl [3, 4, 5, 1, 0] rfl) hS hP (hR.trans (by simp only [g_X0_placeOf_12, if_neg c16, if_pos c30])) (mu_up c16 hmu12) (inc0 hi12_0 c16)
        · skip
          have c30 : ¬ (((f_X0_orderKey S v12_5) : Int64) < (f_X0_orderKey S p0)) := fun h => c30 ((lg_cmp_lt _ _).mpr h)
          refine lv_lload hx hb dX0_placeOf_34 (lv_at hl 0 rfl) ?_
          refine lv_lload_n hx hb dX0_placeOf_36 rfl (lv_at hl 3 rfl) ?_
          refine W.lcmp hx hb dX0_placeOf_37 ?_
          refine lv_if_ne (tgt := 50) hx hb dX0_placeOf_38 (by decide) (fun c37 => ?_) (fun c37 => ?_)
          · skip
            have c37 : ¬ (((f_X0_orderKey S v12_5) : Int64) = (f_X0_orderKey S p0)) := fun h => c37 ((lg_cmp_eq _ _).mpr h)
            refine lv_iinc (v := (v12_5 + 1)) (lv' := [(5, .int (v12_5 + 1)), (6, .long (f_X0_orderKey S v12_5)), (0, .ref (ad 0)), (1, .int p0), (2, .long (f_X0_orderKey S p0)), (4, .int v12_4)]) hx hb dX0_placeOf_50 hl (k := 5) rfl (by rfl) (by decide) rfl (fun ls hl => ?_)
            refine lv_goto (tgt := 12) hx hb dX0_placeOf_53 (by decide) ?_
            exact ih12 v12_4 (v12_5 + 1) ls _ _ (lv_sub hl [2, 3, 4, 5, 0] rfl) hS hP (hR.trans (by simp only [g_X0_placeOf_12, if_neg c16, if_neg c30, if_neg c37])) (mu_up c16 hmu12) (inc0 hi12_0 c16)
          · skip
            have c37 : ((f_X0_orderKey S v12_5) : Int64) = (f_X0_orderKey S p0) := (lg_cmp_eq _ _).mp c37
            refine lv_iload hx hb dX0_placeOf_41 (lv_at hl 5 rfl) ?_
            refine lv_iload_n hx hb dX0_placeOf_43 rfl (lv_at hl 2 rfl) ?_
            refine lv_icmp_ge (tgt := 50) hx hb dX0_placeOf_44 (by decide) (fun c44 => ?_) (fun c44 => ?_)
            · skip
              refine lv_iinc (v := (v12_5 + 1)) (lv' := [(5, .int (v12_5 + 1)), (6, .long (f_X0_orderKey S v12_5)), (0, .ref (ad 0)), (1, .int p0), (2, .long (f_X0_orderKey S p0)), (4, .int v12_4)]) hx hb dX0_placeOf_50 hl (k := 5) rfl (by rfl) (by decide) rfl (fun ls hl => ?_)
              refine lv_goto (tgt := 12) hx hb dX0_placeOf_53 (by decide) ?_
              exact ih12 v12_4 (v12_5 + 1) ls _ _ (lv_sub hl [2, 3, 4, 5, 0] rfl) hS hP (hR.trans (by simp only [g_X0_placeOf_12, if_neg c16, if_neg c30, if_pos c37, if_pos c44])) (mu_up c16 hmu12) (inc0 hi12_0 c16)
            · skip
              refine lv_iinc (v := (v12_4 + 1)) (lv' := [(4, .int (v12_4 + 1)), (6, .long (f_X0_orderKey S v12_5)), (0, .ref (ad 0)), (1, .int p0), (2, .long (f_X0_orderKey S p0)), (5, .int v12_5)]) hx hb dX0_placeOf_47 hl (k := 4) rfl (by rfl) (by decide) rfl (fun ls hl => ?_)
              refine lv_iinc (v := (v12_5 + 1)) (lv' := [(5, .int (v12_5 + 1)), (4, .int (v12_4 + 1)), (6, .long (f_X0_orderKey S v12_5)), (0, .ref (ad 0)), (1, .int p0), (2, .long (f_X0_orderKey S p0))]) hx hb dX0_placeOf_50 hl (k := 5) rfl (by rfl) (by decide) rfl (fun ls hl => ?_)
              refine lv_goto (tgt := 12) hx hb dX0_placeOf_53 (by decide) ?_
              exact ih12 (v12_4 + 1) (v12_5 + 1) ls _ _ (lv_sub hl [3, 4, 5, 1, 0] rfl) hS hP (hR.trans (by simp only [g_X0_placeOf_12, if_neg c16, if_neg c30, if_pos c37, if_neg c44])) (mu_up c16 hmu12) (inc0 hi12_0 c16)
  exact J12 (((8 : Int32).toInt - (0 : Int32).toInt).toNat + 1) 0 0 ls _ _ (lv_sub hl [3, 4, 2, 1, 0] rfl) hS hP (hR.trans (by simp only [f_X0_placeOf])) (Nat.lt_succ_self _) (by decide)

def f_X0_kept (S : pS) : Int32 := (cnS S)
set_option maxHeartbeats 4000000 in
set_option maxRecDepth 100000 in
theorem met_X0_kept (l : Launch) (D : va_G) (cI cJ : ClassId) (ad : Nat → Nat) (S : pS) : Met l yX0_kept wsX0_kept ({ frames := 0, cells := 0, slots := 0, locals := 0 } : Room) (va_Pc [.ref (ad 0)] (fun U => b0R D cI cJ ad S U)) (va_Qi (fun (r : Int32) (u : Unit) => f_X0_kept S = r) (fun _ _ => True) (fun _ => False)) 0 0 (fun _ => False) := by
  refine Met.ofW (cc := cX0_kept) (maxL := 1) (ret := (some .int)) (by decide) rfl ?_
  intro p e s m args below meth c s₁ B hml hv
  obtain ⟨rfl, ⟨hP, hK⟩⟩ := hv
  have hx := B.exec
  have hb := B.bytes
  have hr := B.returns
  have hts := atoms_spec (ws := wsX0_kept) B.pre
  have hown : s.vm.findClass RX0 = some m.cls := findClass_of_methodNamed B.named
  have hlocks := B.notSynchronized
  have hS : va_S (fun _ => False) s.heap s.heap [] := va_S.rf
  have hin : ∀ w ∈ wsX00, w ∈ wsX0_kept := by decide +kernel
  have hf36 := hts (.fieldLink RX0 36 "Powermill" "keptCount" "I") (by decide +kernel)
  have hl := lv_entry ([.ref (ad 0)]) (n := 1) (Nat.le_of_ble_eq_true rfl)
  rw [lg_entry_eq]
  generalize (lg_sl ([.ref (ad 0)]) ++ List.replicate (1 - (lg_sl ([.ref (ad 0)])).length) Slot.unset).toArray = ls at hl ⊢
  have hl : lv_has ls 1 [(0, .ref (ad 0))] := hl
  obtain ⟨Q, hQ⟩ : ∃ Q : State → Prop, Q = (MQ below (va_Qi (fun (r : Int32) (u : Unit) => f_X0_kept S = r) (fun _ _ => True) (fun _ => False)) ([.ref (ad 0)] : List Value).toArray s 0 0 (fun _ => False)) := ⟨_, rfl⟩
  rw [← hQ]
  have hR : f_X0_kept S = f_X0_kept S := rfl
  refine lv_aload_n hx hb dX0_kept_0 rfl (lv_at hl 0 rfl) ?_
  refine va_get (D := D) (ci := 0) (v := .int (cnS S)) (C := RX0) (T := TX0) (N := 9) hx hb hts hin hown hK hP 0 rfl rfl 8 (by decide) hf36 (fun _ h9 => h9) rfl dX0_kept_1 ?_
  rw [hQ]
  exact W.iret (v := cnS S) hx hb hr (fun t ht hW => ⟨⟨cnS S, (), rfl, (hR.trans (by simp only [f_X0_kept])), trivial⟩, hS.F ht⟩) hS.2.2 dX0_kept_4

def f_X0_checkNear (S : pS) (p0 : Int32) : Except Nat Unit := (if ((f_X0_isNear ((odS S) p0.toNatClampNeg) ((shS S) p0.toNatClampNeg)) : Int32) = 0 then (.error 3) else (.ok ()))
set_option maxHeartbeats 4000000 in
set_option maxRecDepth 100000 in
theorem met_X0_checkNear (l : Launch) (hfl : l.stackTraces = false) (D : va_G) (cI cJ : ClassId) (ad : Nat → Nat) (S : pS) (p0 : Int32) (h0 : vp_in p0 8) : vx_Met l yX0_checkNear wsX0_checkNear ({ frames := 6, cells := 1, slots := 6, locals := 84 } : Room) (va_Pc [.ref (ad 0), .int p0] (fun U => b0R D cI cJ ad S U ∧ xE (fun _ => False) U U.heap)) (va_Qv (fun (u : Unit) => f_X0_checkNear S p0 = .ok u) (fun _ _ => True) (fun _ => False)) (vx_X (fun k : Nat => f_X0_checkNear S p0 = .error k) (fun E k _ => E = exN k) (fun _ => False)) 1 6 (fun _ => False) := by
  refine vx_ofW (cc := cX0_checkNear) (maxL := 2) (ret := none) (by decide) rfl ?_
  intro p e s m args below meth c s₁ B hml hno hv
  obtain ⟨rfl, ⟨hP, hK⟩, hE⟩ := hv
  have hx := B.exec
  have hb := B.bytes
  have hr := B.returns
  have hts := atoms_spec (ws := wsX0_checkNear) B.pre
  have hown : s.vm.findClass RX0 = some m.cls := findClass_of_methodNamed B.named
  have hlocks := B.notSynchronized
  have hS : va_S (fun _ => False) s.heap s.heap [] := va_S.rf
  have hin : ∀ w ∈ wsX00, w ∈ wsX0_checkNear := by decide +kernel
  have hf13 := hts (.fieldLink RX0 13 "Powermill" "odds" "[J") (by decide +kernel)
  have hf17 := hts (.fieldLink RX0 17 "Powermill" "shifts" "[I") (by decide +kernel)
  have hl := lv_entry ([.ref (ad 0), .int p0]) (n := 2) (Nat.le_of_ble_eq_true rfl)
  rw [lg_entry_eq]
  generalize (lg_sl ([.ref (ad 0), .int p0]) ++ List.replicate (2 - (lg_sl ([.ref (ad 0), .int p0])).length) Slot.unset).toArray = ls at hl ⊢
  have hl : lv_has ls 2 [(0, .ref (ad 0)), (1, .int p0)] := hl
  obtain ⟨Q, hQ⟩ : ∃ Q : State → Prop, Q = (vx_MQ below (va_Qv (fun (u : Unit) => f_X0_checkNear S p0 = .ok u) (fun _ _ => True) (fun _ => False)) (vx_X (fun k : Nat => f_X0_checkNear S p0 = .error k) (fun E k _ => E = exN k) (fun _ => False)) ([.ref (ad 0), .int p0] : List Value).toArray s 1 6 (fun _ => False)) := ⟨_, rfl⟩
  rw [← hQ]
  have hR : f_X0_checkNear S p0 = f_X0_checkNear S p0 := rfl
  refine lv_aload_n hx hb dX0_checkNear_0 rfl (lv_at hl 0 rfl) ?_
  refine va_get (D := D) (ci := 0) (v := .ref (ad 2)) (C := RX0) (T := TX0) (N := 9) hx hb hts hin hown hK hP 0 rfl rfl 1 (by decide) hf13 (fun _ h9 => h9) rfl dX0_checkNear_1 ?_
  refine lv_iload_n hx hb dX0_checkNear_4 rfl (lv_at hl 1 rfl) ?_
  refine va_lald hx hb hK hP 2 1 rfl rfl h0 dX0_checkNear_5 ?_
  refine lv_aload_n hx hb dX0_checkNear_6 rfl (lv_at hl 0 rfl) ?_
  refine va_get (D := D) (ci := 0) (v := .ref (ad 3)) (C := RX0) (T := TX0) (N := 9) hx hb hts hin hown hK hP 0 rfl rfl 2 (by decide) hf17 (fun _ h9 => h9) rfl dX0_checkNear_7 ?_
  refine lv_iload_n hx hb dX0_checkNear_10 rfl (lv_at hl 1 rfl) ?_
  refine va_iald hx hb hK hP 3 0 rfl rfl h0 dX0_checkNear_11 ?_
  refine va_calli (va_runS (As := [.long ((odS S) p0.toNatClampNeg), .int ((shS S) p0.toNatClampNeg)]) (rest := []) ⟨hx, hb, hml, hown, hts⟩ (met_X0_isNear l ((odS S) p0.toNatClampNeg) ((shS S) p0.toNatClampNeg)) (va_cwS 2 hts gX0_checkNear_X0_isNear rfl rfl rfl (by decide +kernel) ⟨Nat.le_of_ble_eq_true rfl, Nat.le_of_ble_eq_true rfl⟩) ⟨fun a U g mk q => q, fun U hU hW => ⟨rfl, trivial⟩⟩ rfl rfl hl.1 rfl (lv_room (Nat.le_of_ble_eq_true rfl)) dX0_checkNear_12 ⟨Nat.le_of_ble_eq_true rfl, Nat.le_of_ble_eq_true rfl⟩) hS (fun q _ h => h.elim) (fun q h => h.elim) (fun r12 u12 t H locs ht hvm hw12 hB hz hk hS => ?_)
  obtain ⟨hw12, bz12⟩ := hw12
  subst hw12
  have hP := hP.kept (fun k q hk9 => hk _ (vx_lt hP hk9) (fun h => h))
  refine lv_if_ne (tgt := 28) hx hb dX0_checkNear_15 (by decide) (fun c15 => ?_) (fun c15 => ?_)
  · skip
    refine W.widen (k := 1) (n := 6) (Nat.le_of_ble_eq_true rfl) (Nat.le_of_ble_eq_true rfl) ?_
    rw [hQ]
    refine vx_ret ?_
    exact W.vret hx hb hr (fun t ht hW => ⟨⟨(), rfl, (hR.trans (by simp only [f_X0_checkNear, if_neg c15])), trivial⟩, hS.F ht⟩) hS.2.2 dX0_checkNear_28
  · skip
    obtain ⟨sa, hstr⟩ := hE.2.2.1 (212, "the number is not near") (by decide +kernel)
    rw [hQ]
    exact vx_throwS hx hb hfl (own := RX0) (cls := "java/lang/IllegalStateException") (text := "the number is not near") (names := ["java/lang/RuntimeException", "java/lang/Exception"]) (ik := 77) (is := 212) (ic := 81) hown (by decide +kernel) (by decide +kernel) (hts _ (by decide +kernel)) (hts _ (by decide +kernel)) hstr (vx_hat (fun w h => hts w ((by decide +kernel : ∀ w ∈ (vx_atS RX0 81 "java/lang/IllegalStateException" ["java/lang/RuntimeException", "java/lang/Exception"]).filter goodWord, w ∈ wsX0_checkNear) w h)) (by decide +kernel) (vx_c (va_Nw.use rfl (hE.2.2.2.1 "java/lang/IllegalStateException" (by decide +kernel))) (vx_c (va_Nw.use rfl (hE.2.2.2.2 "java/lang/RuntimeException" (by decide +kernel))) (vx_c (va_Nw.use rfl (hE.2.2.2.2 "java/lang/Exception" (by decide +kernel))) (vx_c (va_Nw.use rfl (hE.2.2.2.2 "java/lang/Throwable" (by decide +kernel))) vx_n))))) (by decide +kernel) hE.1 hE.2.1 hS (by rw [hml]; exact hl.1) dX0_checkNear_18 dX0_checkNear_21 dX0_checkNear_22 dX0_checkNear_24 dX0_checkNear_27 (fun x hx => (hno x hx).elim) (Nat.le_of_ble_eq_true rfl) (Nat.le_of_ble_eq_true rfl) (Nat.le_of_ble_eq_true rfl) (Nat.le_of_ble_eq_true rfl) hlocks (fun t hvm hz hk => ⟨3, (hR.trans (by simp only [f_X0_checkNear, if_pos c15])), rfl, ⟨Nat.le_trans hS.1 hz, fun q h1 h2 => (hk q (Nat.lt_of_lt_of_le h1 hS.1)).trans (hS.2.1 q h1 h2)⟩⟩) hS.2.2 (Nat.le_of_ble_eq_true rfl) (Nat.le_of_ble_eq_true rfl)

def g_X0_checkSquared_21 : Except Nat Unit := (.error 5)
def f_X0_checkSquared (S : pS) (p0 : Int32) : Except Nat Unit := (if (((shS S) p0.toNatClampNeg) : Int32) < (-400) then (g_X0_checkSquared_21) else (if (((shS S) p0.toNatClampNeg) : Int32) ≤ 400 then (.ok ()) else (g_X0_checkSquared_21)))
set_option maxHeartbeats 4000000 in
set_option maxRecDepth 100000 in
theorem met_X0_checkSquared (l : Launch) (hfl : l.stackTraces = false) (D : va_G) (cI cJ : ClassId) (ad : Nat → Nat) (S : pS) (p0 : Int32) (h0 : vp_in p0 8) : vx_Met l yX0_checkSquared wsX0_checkSquared ({ frames := 6, cells := 1, slots := 6, locals := 84 } : Room) (va_Pc [.ref (ad 0), .int p0] (fun U => b0R D cI cJ ad S U ∧ xE (fun _ => False) U U.heap)) (va_Qv (fun (u : Unit) => f_X0_checkSquared S p0 = .ok u) (fun _ _ => True) (fun _ => False)) (vx_X (fun k : Nat => f_X0_checkSquared S p0 = .error k) (fun E k _ => E = exN k) (fun _ => False)) 1 6 (fun _ => False) := by
  refine vx_ofW (cc := cX0_checkSquared) (maxL := 3) (ret := none) (by decide) rfl ?_
  intro p e s m args below meth c s₁ B hml hno hv
  obtain ⟨rfl, ⟨hP, hK⟩, hE⟩ := hv
  have hx := B.exec
  have hb := B.bytes
  have hr := B.returns
  have hts := atoms_spec (ws := wsX0_checkSquared) B.pre
  have hown : s.vm.findClass RX0 = some m.cls := findClass_of_methodNamed B.named
  have hlocks := B.notSynchronized
  have hS : va_S (fun _ => False) s.heap s.heap [] := va_S.rf
  have hin : ∀ w ∈ wsX00, w ∈ wsX0_checkSquared := by decide +kernel
  have hf17 := hts (.fieldLink RX0 17 "Powermill" "shifts" "[I") (by decide +kernel)
  have hl := lv_entry ([.ref (ad 0), .int p0]) (n := 3) (Nat.le_of_ble_eq_true rfl)
  rw [lg_entry_eq]
  generalize (lg_sl ([.ref (ad 0), .int p0]) ++ List.replicate (3 - (lg_sl ([.ref (ad 0), .int p0])).length) Slot.unset).toArray = ls at hl ⊢
  have hl : lv_has ls 3 [(0, .ref (ad 0)), (1, .int p0)] := hl
  obtain ⟨Q, hQ⟩ : ∃ Q : State → Prop, Q = (vx_MQ below (va_Qv (fun (u : Unit) => f_X0_checkSquared S p0 = .ok u) (fun _ _ => True) (fun _ => False)) (vx_X (fun k : Nat => f_X0_checkSquared S p0 = .error k) (fun E k _ => E = exN k) (fun _ => False)) ([.ref (ad 0), .int p0] : List Value).toArray s 1 6 (fun _ => False)) := ⟨_, rfl⟩
  rw [← hQ]
  have hR : f_X0_checkSquared S p0 = f_X0_checkSquared S p0 := rfl
  refine lv_aload_n hx hb dX0_checkSquared_0 rfl (lv_at hl 0 rfl) ?_
  refine va_get (D := D) (ci := 0) (v := .ref (ad 3)) (C := RX0) (T := TX0) (N := 9) hx hb hts hin hown hK hP 0 rfl rfl 2 (by decide) hf17 (fun _ h9 => h9) rfl dX0_checkSquared_1 ?_
  refine lv_iload_n hx hb dX0_checkSquared_4 rfl (lv_at hl 1 rfl) ?_
  refine va_iald hx hb hK hP 3 0 rfl rfl h0 dX0_checkSquared_5 ?_
  refine lv_istore_n (lv' := [(2, .int ((shS S) p0.toNatClampNeg)), (0, .ref (ad 0)), (1, .int p0)]) hx hb dX0_checkSquared_6 rfl hl (by decide) rfl (fun ls hl => ?_)
  refine lv_iload_n hx hb dX0_checkSquared_7 rfl (lv_at hl 0 rfl) ?_
  refine lv_sipush (v := (-400)) hx hb dX0_checkSquared_8 (by decide) ?_
  have J21 : ∀ (ls : Array Slot) (H : Heap) (locs : List Loc), lv_has ls 3 [(0, .ref (ad 0)), (1, .int p0), (2, .int ((shS S) p0.toNatClampNeg))] → va_S (fun _ => False) s.heap H locs → va_P D pCl (pmW cI cJ ad S) H → f_X0_checkSquared S p0 = g_X0_checkSquared_21 → W p l e (headSpec wsX0_checkSquared ({ frames := 6, cells := 1, slots := 6, locals := 84 } : Room)).room s m ([.ref (ad 0), .int p0] : List Value).toArray below meth c H locs 0 0 Q (F0 m 21 ls []) := by
    intro ls H locs hl hS hP hR
    obtain ⟨sa, hstr⟩ := hE.2.2.1 (214, "the shift is too far from 0") (by decide +kernel)
    rw [hQ]
    exact vx_throwS hx hb hfl (own := RX0) (cls := "java/lang/UnsupportedOperationException") (text := "the shift is too far from 0") (names := ["java/lang/RuntimeException", "java/lang/Exception"]) (ik := 93) (is := 214) (ic := 97) hown (by decide +kernel) (by decide +kernel) (hts _ (by decide +kernel)) (hts _ (by decide +kernel)) hstr (vx_hat (fun w h => hts w ((by decide +kernel : ∀ w ∈ (vx_atS RX0 97 "java/lang/UnsupportedOperationException" ["java/lang/RuntimeException", "java/lang/Exception"]).filter goodWord, w ∈ wsX0_checkSquared) w h)) (by decide +kernel) (vx_c (va_Nw.use rfl (hE.2.2.2.1 "java/lang/UnsupportedOperationException" (by decide +kernel))) (vx_c (va_Nw.use rfl (hE.2.2.2.2 "java/lang/RuntimeException" (by decide +kernel))) (vx_c (va_Nw.use rfl (hE.2.2.2.2 "java/lang/Exception" (by decide +kernel))) (vx_c (va_Nw.use rfl (hE.2.2.2.2 "java/lang/Throwable" (by decide +kernel))) vx_n))))) (by decide +kernel) hE.1 hE.2.1 hS (by rw [hml]; exact hl.1) dX0_checkSquared_21 dX0_checkSquared_24 dX0_checkSquared_25 dX0_checkSquared_27 dX0_checkSquared_30 (fun x hx => (hno x hx).elim) (Nat.le_of_ble_eq_true rfl) (Nat.le_of_ble_eq_true rfl) (Nat.le_of_ble_eq_true rfl) (Nat.le_of_ble_eq_true rfl) hlocks (fun t hvm hz hk => ⟨5, (hR.trans (by simp only [g_X0_checkSquared_21])), rfl, ⟨Nat.le_trans hS.1 hz, fun q h1 h2 => (hk q (Nat.lt_of_lt_of_le h1 hS.1)).trans (hS.2.1 q h1 h2)⟩⟩) hS.2.2 (Nat.le_of_ble_eq_true rfl) (Nat.le_of_ble_eq_true rfl)
  refine lv_icmp_lt (tgt := 21) hx hb dX0_checkSquared_11 (by decide) (fun c11 => ?_) (fun c11 => ?_)
  · skip
    exact J21 ls _ _ (lv_sub hl [1, 2, 0] rfl) hS hP (hR.trans (by simp only [f_X0_checkSquared, if_pos c11]))
  · skip
    refine lv_iload_n hx hb dX0_checkSquared_14 rfl (lv_at hl 0 rfl) ?_
    refine lv_sipush (v := 400) hx hb dX0_checkSquared_15 (by decide) ?_
    refine lv_icmp_le (tgt := 31) hx hb dX0_checkSquared_18 (by decide) (fun c18 => ?_) (fun c18 => ?_)
    · skip
      refine W.widen (k := 1) (n := 6) (Nat.le_of_ble_eq_true rfl) (Nat.le_of_ble_eq_true rfl) ?_
      rw [hQ]
      refine vx_ret ?_
      exact W.vret hx hb hr (fun t ht hW => ⟨⟨(), rfl, (hR.trans (by simp only [f_X0_checkSquared, if_neg c11, if_pos c18])), trivial⟩, hS.F ht⟩) hS.2.2 dX0_checkSquared_31
    · skip
      exact J21 ls _ _ (lv_sub hl [1, 2, 0] rfl) hS hP (hR.trans (by simp only [f_X0_checkSquared, if_neg c11, if_neg c18]))

def f_X0_sign (S : pS) (p0 : Int32) : Except Nat Int32 := (match f_X0_checkSlot p0 with | .error k => .error k | .ok _ => (.ok ((sgS S) p0.toNatClampNeg)))
set_option maxHeartbeats 4000000 in
set_option maxRecDepth 100000 in
theorem met_X0_sign (l : Launch) (hfl : l.stackTraces = false) (D : va_G) (cI cJ : ClassId) (ad : Nat → Nat) (S : pS) (p0 : Int32) : vx_Met l yX0_sign wsX0_sign ({ frames := 7, cells := 1, slots := 6, locals := 104 } : Room) (va_Pc [.ref (ad 0), .int p0] (fun U => b0R D cI cJ ad S U ∧ xE (fun _ => False) U U.heap)) (va_Qi (fun (r : Int32) (u : Unit) => f_X0_sign S p0 = .ok r) (fun _ _ => True) (fun _ => False)) (vx_X (fun k : Nat => f_X0_sign S p0 = .error k) (fun E k _ => E = exN k) (fun _ => False)) 1 6 (fun _ => False) := by
  refine vx_ofW (cc := cX0_sign) (maxL := 2) (ret := (some .int)) (by decide) rfl ?_
  intro p e s m args below meth c s₁ B hml hno hv
  obtain ⟨rfl, ⟨hP, hK⟩, hE⟩ := hv
  have hx := B.exec
  have hb := B.bytes
  have hr := B.returns
  have hts := atoms_spec (ws := wsX0_sign) B.pre
  have hown : s.vm.findClass RX0 = some m.cls := findClass_of_methodNamed B.named
  have hlocks := B.notSynchronized
  have hS : va_S (fun _ => False) s.heap s.heap [] := va_S.rf
  have hin : ∀ w ∈ wsX00, w ∈ wsX0_sign := by decide +kernel
  have hf9 := hts (.fieldLink RX0 9 "Powermill" "signs" "[I") (by decide +kernel)
  have hl := lv_entry ([.ref (ad 0), .int p0]) (n := 2) (Nat.le_of_ble_eq_true rfl)
  rw [lg_entry_eq]
  generalize (lg_sl ([.ref (ad 0), .int p0]) ++ List.replicate (2 - (lg_sl ([.ref (ad 0), .int p0])).length) Slot.unset).toArray = ls at hl ⊢
  have hl : lv_has ls 2 [(0, .ref (ad 0)), (1, .int p0)] := hl
  obtain ⟨Q, hQ⟩ : ∃ Q : State → Prop, Q = (vx_MQ below (va_Qi (fun (r : Int32) (u : Unit) => f_X0_sign S p0 = .ok r) (fun _ _ => True) (fun _ => False)) (vx_X (fun k : Nat => f_X0_sign S p0 = .error k) (fun E k _ => E = exN k) (fun _ => False)) ([.ref (ad 0), .int p0] : List Value).toArray s 1 6 (fun _ => False)) := ⟨_, rfl⟩
  rw [← hQ]
  have hR : f_X0_sign S p0 = f_X0_sign S p0 := rfl
  refine lv_iload_n hx hb dX0_sign_0 rfl (lv_at hl 1 rfl) ?_
  refine vx_callv (vx_runS (As := [.int p0]) (rest := []) ⟨hx, hb, hml, hown, hts⟩ (met_X0_checkSlot l hfl p0) (va_cwS 1 hts gX0_sign_X0_checkSlot rfl rfl rfl (by decide +kernel) ⟨Nat.le_of_ble_eq_true rfl, Nat.le_of_ble_eq_true rfl⟩) ⟨fun a U g mk q => ⟨q.1, xE_calling q.2⟩, fun U hU hW => ⟨rfl, xE_at hE hS hU hW⟩⟩ rfl rfl hl.1 rfl (lv_room (Nat.le_of_ble_eq_true rfl)) dX0_sign_1 ⟨Nat.le_of_ble_eq_true rfl, Nat.le_of_ble_eq_true rfl⟩) hS (fun q _ h => h.elim) (fun q h => h.elim) (fun q _ h => h.elim) (fun E ce q9 k1 t H locs ht hvm hw1 hB hz hk hS hc9 hv9 hf9 => ?_) (fun u1 t H locs ht hvm hw1 hB hz hk hS => ?_)
  · skip
    rw [hQ]
    exact vx_out (fun x hx => (hno x hx).elim) hlocks hc9 hv9 hf9 (fun t9 ht9 hvm9 => ⟨k1, (hR.trans (by simp only [f_X0_sign, hw1])), hB, hS.F ht9⟩) hS.2.2 (Nat.le_of_ble_eq_true rfl) (Nat.le_of_ble_eq_true rfl)
  · skip
    have hP := hP.kept (fun k q hk9 => hk _ (vx_lt hP hk9) (fun h => h))
    have hi1 : vp_in p0 8 := slot_in hw1
    refine lv_aload_n hx hb dX0_sign_4 rfl (lv_at hl 0 rfl) ?_
    refine va_get (D := D) (ci := 0) (v := .ref (ad 1)) (C := RX0) (T := TX0) (N := 9) hx hb hts hin hown hK hP 0 rfl rfl 0 (by decide) hf9 (fun _ h9 => h9) rfl dX0_sign_5 ?_
    refine lv_iload_n hx hb dX0_sign_8 rfl (lv_at hl 1 rfl) ?_
    refine va_iald hx hb hK hP 1 0 rfl rfl hi1 dX0_sign_9 ?_
    rw [hQ]
    refine vx_ret ?_
    exact W.iret (v := ((sgS S) p0.toNatClampNeg)) hx hb hr (fun t ht hW => ⟨⟨((sgS S) p0.toNatClampNeg), (), rfl, (hR.trans (by simp only [f_X0_sign, hw1])), trivial⟩, hS.F ht⟩) hS.2.2 dX0_sign_10

def f_X0_odd (S : pS) (p0 : Int32) : Except Nat Int64 := (match f_X0_checkSlot p0 with | .error k => .error k | .ok _ => (.ok ((odS S) p0.toNatClampNeg)))
set_option maxHeartbeats 4000000 in
set_option maxRecDepth 100000 in
theorem met_X0_odd (l : Launch) (hfl : l.stackTraces = false) (D : va_G) (cI cJ : ClassId) (ad : Nat → Nat) (S : pS) (p0 : Int32) : vx_Met l yX0_odd wsX0_odd ({ frames := 7, cells := 1, slots := 6, locals := 104 } : Room) (va_Pc [.ref (ad 0), .int p0] (fun U => b0R D cI cJ ad S U ∧ xE (fun _ => False) U U.heap)) (va_Ql (fun (r : Int64) (u : Unit) => f_X0_odd S p0 = .ok r) (fun _ _ => True) (fun _ => False)) (vx_X (fun k : Nat => f_X0_odd S p0 = .error k) (fun E k _ => E = exN k) (fun _ => False)) 1 6 (fun _ => False) := by
  refine vx_ofW (cc := cX0_odd) (maxL := 2) (ret := (some .long)) (by decide) rfl ?_
  intro p e s m args below meth c s₁ B hml hno hv
  obtain ⟨rfl, ⟨hP, hK⟩, hE⟩ := hv
  have hx := B.exec
  have hb := B.bytes
  have hr := B.returns
  have hts := atoms_spec (ws := wsX0_odd) B.pre
  have hown : s.vm.findClass RX0 = some m.cls := findClass_of_methodNamed B.named
  have hlocks := B.notSynchronized
  have hS : va_S (fun _ => False) s.heap s.heap [] := va_S.rf
  have hin : ∀ w ∈ wsX00, w ∈ wsX0_odd := by decide +kernel
  have hf13 := hts (.fieldLink RX0 13 "Powermill" "odds" "[J") (by decide +kernel)
  have hl := lv_entry ([.ref (ad 0), .int p0]) (n := 2) (Nat.le_of_ble_eq_true rfl)
  rw [lg_entry_eq]
  generalize (lg_sl ([.ref (ad 0), .int p0]) ++ List.replicate (2 - (lg_sl ([.ref (ad 0), .int p0])).length) Slot.unset).toArray = ls at hl ⊢
  have hl : lv_has ls 2 [(0, .ref (ad 0)), (1, .int p0)] := hl
  obtain ⟨Q, hQ⟩ : ∃ Q : State → Prop, Q = (vx_MQ below (va_Ql (fun (r : Int64) (u : Unit) => f_X0_odd S p0 = .ok r) (fun _ _ => True) (fun _ => False)) (vx_X (fun k : Nat => f_X0_odd S p0 = .error k) (fun E k _ => E = exN k) (fun _ => False)) ([.ref (ad 0), .int p0] : List Value).toArray s 1 6 (fun _ => False)) := ⟨_, rfl⟩
  rw [← hQ]
  have hR : f_X0_odd S p0 = f_X0_odd S p0 := rfl
  refine lv_iload_n hx hb dX0_odd_0 rfl (lv_at hl 1 rfl) ?_
  refine vx_callv (vx_runS (As := [.int p0]) (rest := []) ⟨hx, hb, hml, hown, hts⟩ (met_X0_checkSlot l hfl p0) (va_cwS 1 hts gX0_odd_X0_checkSlot rfl rfl rfl (by decide +kernel) ⟨Nat.le_of_ble_eq_true rfl, Nat.le_of_ble_eq_true rfl⟩) ⟨fun a U g mk q => ⟨q.1, xE_calling q.2⟩, fun U hU hW => ⟨rfl, xE_at hE hS hU hW⟩⟩ rfl rfl hl.1 rfl (lv_room (Nat.le_of_ble_eq_true rfl)) dX0_odd_1 ⟨Nat.le_of_ble_eq_true rfl, Nat.le_of_ble_eq_true rfl⟩) hS (fun q _ h => h.elim) (fun q h => h.elim) (fun q _ h => h.elim) (fun E ce q9 k1 t H locs ht hvm hw1 hB hz hk hS hc9 hv9 hf9 => ?_) (fun u1 t H locs ht hvm hw1 hB hz hk hS => ?_)
  · skip
    rw [hQ]
    exact vx_out (fun x hx => (hno x hx).elim) hlocks hc9 hv9 hf9 (fun t9 ht9 hvm9 => ⟨k1, (hR.trans (by simp only [f_X0_odd, hw1])), hB, hS.F ht9⟩) hS.2.2 (Nat.le_of_ble_eq_true rfl) (Nat.le_of_ble_eq_true rfl)
  · skip
    have hP := hP.kept (fun k q hk9 => hk _ (vx_lt hP hk9) (fun h => h))
    have hi1 : vp_in p0 8 := slot_in hw1
    refine lv_aload_n hx hb dX0_odd_4 rfl (lv_at hl 0 rfl) ?_
    refine va_get (D := D) (ci := 0) (v := .ref (ad 2)) (C := RX0) (T := TX0) (N := 9) hx hb hts hin hown hK hP 0 rfl rfl 1 (by decide) hf13 (fun _ h9 => h9) rfl dX0_odd_5 ?_
    refine lv_iload_n hx hb dX0_odd_8 rfl (lv_at hl 1 rfl) ?_
    refine va_lald hx hb hK hP 2 1 rfl rfl hi1 dX0_odd_9 ?_
    rw [hQ]
    refine vx_ret ?_
    exact W.lret (v := ((odS S) p0.toNatClampNeg)) hx hb hr (fun t ht hW => ⟨⟨((odS S) p0.toNatClampNeg), (), rfl, (hR.trans (by simp only [f_X0_odd, hw1])), trivial⟩, hS.F ht⟩) hS.2.2 dX0_odd_10

def f_X0_shift (S : pS) (p0 : Int32) : Except Nat Int32 := (match f_X0_checkSlot p0 with | .error k => .error k | .ok _ => (.ok ((shS S) p0.toNatClampNeg)))
set_option maxHeartbeats 4000000 in
set_option maxRecDepth 100000 in
theorem met_X0_shift (l : Launch) (hfl : l.stackTraces = false) (D : va_G) (cI cJ : ClassId) (ad : Nat → Nat) (S : pS) (p0 : Int32) : vx_Met l yX0_shift wsX0_shift ({ frames := 7, cells := 1, slots := 6, locals := 104 } : Room) (va_Pc [.ref (ad 0), .int p0] (fun U => b0R D cI cJ ad S U ∧ xE (fun _ => False) U U.heap)) (va_Qi (fun (r : Int32) (u : Unit) => f_X0_shift S p0 = .ok r) (fun _ _ => True) (fun _ => False)) (vx_X (fun k : Nat => f_X0_shift S p0 = .error k) (fun E k _ => E = exN k) (fun _ => False)) 1 6 (fun _ => False) := by
  refine vx_ofW (cc := cX0_shift) (maxL := 2) (ret := (some .int)) (by decide) rfl ?_
  intro p e s m args below meth c s₁ B hml hno hv
  obtain ⟨rfl, ⟨hP, hK⟩, hE⟩ := hv
  have hx := B.exec
  have hb := B.bytes
  have hr := B.returns
  have hts := atoms_spec (ws := wsX0_shift) B.pre
  have hown : s.vm.findClass RX0 = some m.cls := findClass_of_methodNamed B.named
  have hlocks := B.notSynchronized
  have hS : va_S (fun _ => False) s.heap s.heap [] := va_S.rf
  have hin : ∀ w ∈ wsX00, w ∈ wsX0_shift := by decide +kernel
  have hf17 := hts (.fieldLink RX0 17 "Powermill" "shifts" "[I") (by decide +kernel)
  have hl := lv_entry ([.ref (ad 0), .int p0]) (n := 2) (Nat.le_of_ble_eq_true rfl)
  rw [lg_entry_eq]
  generalize (lg_sl ([.ref (ad 0), .int p0]) ++ List.replicate (2 - (lg_sl ([.ref (ad 0), .int p0])).length) Slot.unset).toArray = ls at hl ⊢
  have hl : lv_has ls 2 [(0, .ref (ad 0)), (1, .int p0)] := hl
  obtain ⟨Q, hQ⟩ : ∃ Q : State → Prop, Q = (vx_MQ below (va_Qi (fun (r : Int32) (u : Unit) => f_X0_shift S p0 = .ok r) (fun _ _ => True) (fun _ => False)) (vx_X (fun k : Nat => f_X0_shift S p0 = .error k) (fun E k _ => E = exN k) (fun _ => False)) ([.ref (ad 0), .int p0] : List Value).toArray s 1 6 (fun _ => False)) := ⟨_, rfl⟩
  rw [← hQ]
  have hR : f_X0_shift S p0 = f_X0_shift S p0 := rfl
  refine lv_iload_n hx hb dX0_shift_0 rfl (lv_at hl 1 rfl) ?_
  refine vx_callv (vx_runS (As := [.int p0]) (rest := []) ⟨hx, hb, hml, hown, hts⟩ (met_X0_checkSlot l hfl p0) (va_cwS 1 hts gX0_shift_X0_checkSlot rfl rfl rfl (by decide +kernel) ⟨Nat.le_of_ble_eq_true rfl, Nat.le_of_ble_eq_true rfl⟩) ⟨fun a U g mk q => ⟨q.1, xE_calling q.2⟩, fun U hU hW => ⟨rfl, xE_at hE hS hU hW⟩⟩ rfl rfl hl.1 rfl (lv_room (Nat.le_of_ble_eq_true rfl)) dX0_shift_1 ⟨Nat.le_of_ble_eq_true rfl, Nat.le_of_ble_eq_true rfl⟩) hS (fun q _ h => h.elim) (fun q h => h.elim) (fun q _ h => h.elim) (fun E ce q9 k1 t H locs ht hvm hw1 hB hz hk hS hc9 hv9 hf9 => ?_) (fun u1 t H locs ht hvm hw1 hB hz hk hS => ?_)
  · skip
    rw [hQ]
    exact vx_out (fun x hx => (hno x hx).elim) hlocks hc9 hv9 hf9 (fun t9 ht9 hvm9 => ⟨k1, (hR.trans (by simp only [f_X0_shift, hw1])), hB, hS.F ht9⟩) hS.2.2 (Nat.le_of_ble_eq_true rfl) (Nat.le_of_ble_eq_true rfl)
  · skip
    have hP := hP.kept (fun k q hk9 => hk _ (vx_lt hP hk9) (fun h => h))
    have hi1 : vp_in p0 8 := slot_in hw1
    refine lv_aload_n hx hb dX0_shift_4 rfl (lv_at hl 0 rfl) ?_
    refine va_get (D := D) (ci := 0) (v := .ref (ad 3)) (C := RX0) (T := TX0) (N := 9) hx hb hts hin hown hK hP 0 rfl rfl 2 (by decide) hf17 (fun _ h9 => h9) rfl dX0_shift_5 ?_
    refine lv_iload_n hx hb dX0_shift_8 rfl (lv_at hl 1 rfl) ?_
    refine va_iald hx hb hK hP 3 0 rfl rfl hi1 dX0_shift_9 ?_
    rw [hQ]
    refine vx_ret ?_
    exact W.iret (v := ((shS S) p0.toNatClampNeg)) hx hb hr (fun t ht hW => ⟨⟨((shS S) p0.toNatClampNeg), (), rfl, (hR.trans (by simp only [f_X0_shift, hw1])), trivial⟩, hS.F ht⟩) hS.2.2 dX0_shift_10

def f_X0_bits (S : pS) (p0 : Int32) : Except Nat Int64 := (match f_X0_checkSlot p0 with | .error k => .error k | .ok _ => (.ok (f_X0_slotBits S p0)))
set_option maxHeartbeats 4000000 in
set_option maxRecDepth 100000 in
theorem met_X0_bits (l : Launch) (hfl : l.stackTraces = false) (D : va_G) (cI cJ : ClassId) (ad : Nat → Nat) (S : pS) (p0 : Int32) : vx_Met l yX0_bits wsX0_bits ({ frames := 7, cells := 1, slots := 6, locals := 104 } : Room) (va_Pc [.ref (ad 0), .int p0] (fun U => b0R D cI cJ ad S U ∧ xE (fun _ => False) U U.heap)) (va_Ql (fun (r : Int64) (u : Unit) => f_X0_bits S p0 = .ok r) (fun _ _ => True) (fun _ => False)) (vx_X (fun k : Nat => f_X0_bits S p0 = .error k) (fun E k _ => E = exN k) (fun _ => False)) 1 6 (fun _ => False) := by
  refine vx_ofW (cc := cX0_bits) (maxL := 2) (ret := (some .long)) (by decide) rfl ?_
  intro p e s m args below meth c s₁ B hml hno hv
  obtain ⟨rfl, ⟨hP, hK⟩, hE⟩ := hv
  have hx := B.exec
  have hb := B.bytes
  have hr := B.returns
  have hts := atoms_spec (ws := wsX0_bits) B.pre
  have hown : s.vm.findClass RX0 = some m.cls := findClass_of_methodNamed B.named
  have hlocks := B.notSynchronized
  have hS : va_S (fun _ => False) s.heap s.heap [] := va_S.rf
  have hl := lv_entry ([.ref (ad 0), .int p0]) (n := 2) (Nat.le_of_ble_eq_true rfl)
  rw [lg_entry_eq]
  generalize (lg_sl ([.ref (ad 0), .int p0]) ++ List.replicate (2 - (lg_sl ([.ref (ad 0), .int p0])).length) Slot.unset).toArray = ls at hl ⊢
  have hl : lv_has ls 2 [(0, .ref (ad 0)), (1, .int p0)] := hl
  obtain ⟨Q, hQ⟩ : ∃ Q : State → Prop, Q = (vx_MQ below (va_Ql (fun (r : Int64) (u : Unit) => f_X0_bits S p0 = .ok r) (fun _ _ => True) (fun _ => False)) (vx_X (fun k : Nat => f_X0_bits S p0 = .error k) (fun E k _ => E = exN k) (fun _ => False)) ([.ref (ad 0), .int p0] : List Value).toArray s 1 6 (fun _ => False)) := ⟨_, rfl⟩
  rw [← hQ]
  have hR : f_X0_bits S p0 = f_X0_bits S p0 := rfl
  refine lv_iload_n hx hb dX0_bits_0 rfl (lv_at hl 1 rfl) ?_
  refine vx_callv (vx_runS (As := [.int p0]) (rest := []) ⟨hx, hb, hml, hown, hts⟩ (met_X0_checkSlot l hfl p0) (va_cwS 1 hts gX0_bits_X0_checkSlot rfl rfl rfl (by decide +kernel) ⟨Nat.le_of_ble_eq_true rfl, Nat.le_of_ble_eq_true rfl⟩) ⟨fun a U g mk q => ⟨q.1, xE_calling q.2⟩, fun U hU hW => ⟨rfl, xE_at hE hS hU hW⟩⟩ rfl rfl hl.1 rfl (lv_room (Nat.le_of_ble_eq_true rfl)) dX0_bits_1 ⟨Nat.le_of_ble_eq_true rfl, Nat.le_of_ble_eq_true rfl⟩) hS (fun q _ h => h.elim) (fun q h => h.elim) (fun q _ h => h.elim) (fun E ce q9 k1 t H locs ht hvm hw1 hB hz hk hS hc9 hv9 hf9 => ?_) (fun u1 t H locs ht hvm hw1 hB hz hk hS => ?_)
  · skip
    rw [hQ]
    exact vx_out (fun x hx => (hno x hx).elim) hlocks hc9 hv9 hf9 (fun t9 ht9 hvm9 => ⟨k1, (hR.trans (by simp only [f_X0_bits, hw1])), hB, hS.F ht9⟩) hS.2.2 (Nat.le_of_ble_eq_true rfl) (Nat.le_of_ble_eq_true rfl)
  · skip
    have hP := hP.kept (fun k q hk9 => hk _ (vx_lt hP hk9) (fun h => h))
    have hi1 : vp_in p0 8 := slot_in hw1
    refine lv_aload_n hx hb dX0_bits_4 rfl (lv_at hl 0 rfl) ?_
    refine lv_iload_n hx hb dX0_bits_5 rfl (lv_at hl 1 rfl) ?_
    refine va_calll (va_runV (As := [.int p0]) (rest := []) ⟨hx, hb, hml, hown, hts⟩ (met_X0_slotBits l D cI cJ ad S p0 (hi1)) (cwV 1 hts gX0_bits_X0_slotBits rfl rfl rfl (by decide +kernel) ⟨Nat.le_of_ble_eq_true rfl, Nat.le_of_ble_eq_true rfl⟩) ⟨fun a U g mk q => ⟨q.1, b0R_calling q.2⟩, va_recv hK hP (ci := 0) (q0 := 0) rfl rfl, fun U hU hW => ⟨rfl, b0R_at hP hK hU hW⟩⟩ rfl rfl hl.1 rfl (lv_room (Nat.le_of_ble_eq_true rfl)) dX0_bits_6 ⟨Nat.le_of_ble_eq_true rfl, Nat.le_of_ble_eq_true rfl⟩) hS (fun q _ h => h.elim) (fun q h => h.elim) (fun r6 u6 t H locs ht hvm hw6 hB hz hk hS => ?_)
    subst hw6
    have hP := hP.kept (fun k q hk9 => hk _ (vx_lt hP hk9) (fun h => h))
    rw [hQ]
    refine vx_ret ?_
    exact W.lret (v := (f_X0_slotBits S p0)) hx hb hr (fun t ht hW => ⟨⟨(f_X0_slotBits S p0), (), rfl, (hR.trans (by simp only [f_X0_bits, hw1])), trivial⟩, hS.F ht⟩) hS.2.2 dX0_bits_9

def f_X0_isWhole (S : pS) (p0 : Int32) : Except Nat Int32 := (match f_X0_checkSlot p0 with | .error k => .error k | .ok _ => (if (((shS S) p0.toNatClampNeg) : Int32) < 0 then (.ok 0) else (.ok 1)))
set_option maxHeartbeats 4000000 in
set_option maxRecDepth 100000 in
theorem met_X0_isWhole (l : Launch) (hfl : l.stackTraces = false) (D : va_G) (cI cJ : ClassId) (ad : Nat → Nat) (S : pS) (p0 : Int32) : vx_Met l yX0_isWhole wsX0_isWhole ({ frames := 7, cells := 1, slots := 6, locals := 104 } : Room) (va_Pc [.ref (ad 0), .int p0] (fun U => b0R D cI cJ ad S U ∧ xE (fun _ => False) U U.heap)) (va_Qi (fun (r : Int32) (u : Unit) => f_X0_isWhole S p0 = .ok r ∧ (r = 0 ∨ r = 1)) (fun _ _ => True) (fun _ => False)) (vx_X (fun k : Nat => f_X0_isWhole S p0 = .error k) (fun E k _ => E = exN k) (fun _ => False)) 1 6 (fun _ => False) := by
  refine vx_ofW (cc := cX0_isWhole) (maxL := 2) (ret := (some .boolean)) (by decide) rfl ?_
  intro p e s m args below meth c s₁ B hml hno hv
  obtain ⟨rfl, ⟨hP, hK⟩, hE⟩ := hv
  have hx := B.exec
  have hb := B.bytes
  have hr := B.returns
  have hts := atoms_spec (ws := wsX0_isWhole) B.pre
  have hown : s.vm.findClass RX0 = some m.cls := findClass_of_methodNamed B.named
  have hlocks := B.notSynchronized
  have hS : va_S (fun _ => False) s.heap s.heap [] := va_S.rf
  have hin : ∀ w ∈ wsX00, w ∈ wsX0_isWhole := by decide +kernel
  have hf17 := hts (.fieldLink RX0 17 "Powermill" "shifts" "[I") (by decide +kernel)
  have hl := lv_entry ([.ref (ad 0), .int p0]) (n := 2) (Nat.le_of_ble_eq_true rfl)
  rw [lg_entry_eq]
  generalize (lg_sl ([.ref (ad 0), .int p0]) ++ List.replicate (2 - (lg_sl ([.ref (ad 0), .int p0])).length) Slot.unset).toArray = ls at hl ⊢
  have hl : lv_has ls 2 [(0, .ref (ad 0)), (1, .int p0)] := hl
  obtain ⟨Q, hQ⟩ : ∃ Q : State → Prop, Q = (vx_MQ below (va_Qi (fun (r : Int32) (u : Unit) => f_X0_isWhole S p0 = .ok r ∧ (r = 0 ∨ r = 1)) (fun _ _ => True) (fun _ => False)) (vx_X (fun k : Nat => f_X0_isWhole S p0 = .error k) (fun E k _ => E = exN k) (fun _ => False)) ([.ref (ad 0), .int p0] : List Value).toArray s 1 6 (fun _ => False)) := ⟨_, rfl⟩
  rw [← hQ]
  have hR : f_X0_isWhole S p0 = f_X0_isWhole S p0 := rfl
  refine lv_iload_n hx hb dX0_isWhole_0 rfl (lv_at hl 1 rfl) ?_
  refine vx_callv (vx_runS (As := [.int p0]) (rest := []) ⟨hx, hb, hml, hown, hts⟩ (met_X0_checkSlot l hfl p0) (va_cwS 1 hts gX0_isWhole_X0_checkSlot rfl rfl rfl (by decide +kernel) ⟨Nat.le_of_ble_eq_true rfl, Nat.le_of_ble_eq_true rfl⟩) ⟨fun a U g mk q => ⟨q.1, xE_calling q.2⟩, fun U hU hW => ⟨rfl, xE_at hE hS hU hW⟩⟩ rfl rfl hl.1 rfl (lv_room (Nat.le_of_ble_eq_true rfl)) dX0_isWhole_1 ⟨Nat.le_of_ble_eq_true rfl, Nat.le_of_ble_eq_true rfl⟩) hS (fun q _ h => h.elim) (fun q h => h.elim) (fun q _ h => h.elim) (fun E ce q9 k1 t H locs ht hvm hw1 hB hz hk hS hc9 hv9 hf9 => ?_) (fun u1 t H locs ht hvm hw1 hB hz hk hS => ?_)
  · skip
    rw [hQ]
    exact vx_out (fun x hx => (hno x hx).elim) hlocks hc9 hv9 hf9 (fun t9 ht9 hvm9 => ⟨k1, (hR.trans (by simp only [f_X0_isWhole, hw1])), hB, hS.F ht9⟩) hS.2.2 (Nat.le_of_ble_eq_true rfl) (Nat.le_of_ble_eq_true rfl)
  · skip
    have hP := hP.kept (fun k q hk9 => hk _ (vx_lt hP hk9) (fun h => h))
    have hi1 : vp_in p0 8 := slot_in hw1
    refine lv_aload_n hx hb dX0_isWhole_4 rfl (lv_at hl 0 rfl) ?_
    refine va_get (D := D) (ci := 0) (v := .ref (ad 3)) (C := RX0) (T := TX0) (N := 9) hx hb hts hin hown hK hP 0 rfl rfl 2 (by decide) hf17 (fun _ h9 => h9) rfl dX0_isWhole_5 ?_
    refine lv_iload_n hx hb dX0_isWhole_8 rfl (lv_at hl 1 rfl) ?_
    refine va_iald hx hb hK hP 3 0 rfl rfl hi1 dX0_isWhole_9 ?_
    refine lv_if_lt (tgt := 17) hx hb dX0_isWhole_10 (by decide) (fun c10 => ?_) (fun c10 => ?_)
    · skip
      refine lv_iconst (v := 0) hx hb dX0_isWhole_17 (by decide) ?_
      rw [hQ]
      refine vx_ret ?_
      exact W.zret (ty := .boolean) (v := 0) hx hb hr (nbool (Or.inl rfl)) (fun t ht hW => ⟨⟨0, (), rfl, ⟨(hR.trans (by simp only [f_X0_isWhole, hw1, if_pos c10])), (Or.inl rfl)⟩, trivial⟩, hS.F ht⟩) hS.2.2 dX0_isWhole_18
    · skip
      refine lv_iconst (v := 1) hx hb dX0_isWhole_13 (by decide) ?_
      refine lv_goto (tgt := 18) hx hb dX0_isWhole_14 (by decide) ?_
      rw [hQ]
      refine vx_ret ?_
      exact W.zret (ty := .boolean) (v := 1) hx hb hr (nbool (Or.inr rfl)) (fun t ht hW => ⟨⟨1, (), rfl, ⟨(hR.trans (by simp only [f_X0_isWhole, hw1, if_neg c10])), (Or.inr rfl)⟩, trivial⟩, hS.F ht⟩) hS.2.2 dX0_isWhole_18

def f_X0_whole (S : pS) (p0 : Int32) : Except Nat Int64 := (match f_X0_checkSlot p0 with | .error k => .error k | .ok _ => (match f_X0_checkNear S p0 with | .error k => .error k | .ok _ => (.ok (((((sgS S) p0.toNatClampNeg) : Int32).toInt64) * (f_X0_nearSize S p0)))))
set_option maxHeartbeats 4000000 in
set_option maxRecDepth 100000 in
theorem met_X0_whole (l : Launch) (hfl : l.stackTraces = false) (D : va_G) (cI cJ : ClassId) (ad : Nat → Nat) (S : pS) (p0 : Int32) : vx_Met l yX0_whole wsX0_whole ({ frames := 7, cells := 2, slots := 12, locals := 105 } : Room) (va_Pc [.ref (ad 0), .int p0] (fun U => b0R D cI cJ ad S U ∧ xE (fun _ => False) U U.heap)) (va_Ql (fun (r : Int64) (u : Unit) => f_X0_whole S p0 = .ok r) (fun _ _ => True) (fun _ => False)) (vx_X (fun k : Nat => f_X0_whole S p0 = .error k) (fun E k _ => E = exN k) (fun _ => False)) 2 12 (fun _ => False) := by
  refine vx_ofW (cc := cX0_whole) (maxL := 2) (ret := (some .long)) (by decide) rfl ?_
  intro p e s m args below meth c s₁ B hml hno hv
  obtain ⟨rfl, ⟨hP, hK⟩, hE⟩ := hv
  have hx := B.exec
  have hb := B.bytes
  have hr := B.returns
  have hts := atoms_spec (ws := wsX0_whole) B.pre
  have hown : s.vm.findClass RX0 = some m.cls := findClass_of_methodNamed B.named
  have hlocks := B.notSynchronized
  have hS : va_S (fun _ => False) s.heap s.heap [] := va_S.rf
  have hin : ∀ w ∈ wsX00, w ∈ wsX0_whole := by decide +kernel
  have hf9 := hts (.fieldLink RX0 9 "Powermill" "signs" "[I") (by decide +kernel)
  have hl := lv_entry ([.ref (ad 0), .int p0]) (n := 2) (Nat.le_of_ble_eq_true rfl)
  rw [lg_entry_eq]
  generalize (lg_sl ([.ref (ad 0), .int p0]) ++ List.replicate (2 - (lg_sl ([.ref (ad 0), .int p0])).length) Slot.unset).toArray = ls at hl ⊢
  have hl : lv_has ls 2 [(0, .ref (ad 0)), (1, .int p0)] := hl
  obtain ⟨Q, hQ⟩ : ∃ Q : State → Prop, Q = (vx_MQ below (va_Ql (fun (r : Int64) (u : Unit) => f_X0_whole S p0 = .ok r) (fun _ _ => True) (fun _ => False)) (vx_X (fun k : Nat => f_X0_whole S p0 = .error k) (fun E k _ => E = exN k) (fun _ => False)) ([.ref (ad 0), .int p0] : List Value).toArray s 2 12 (fun _ => False)) := ⟨_, rfl⟩
  rw [← hQ]
  have hR : f_X0_whole S p0 = f_X0_whole S p0 := rfl
  refine lv_iload_n hx hb dX0_whole_0 rfl (lv_at hl 1 rfl) ?_
  refine vx_callv (vx_runS (As := [.int p0]) (rest := []) ⟨hx, hb, hml, hown, hts⟩ (met_X0_checkSlot l hfl p0) (va_cwS 1 hts gX0_whole_X0_checkSlot rfl rfl rfl (by decide +kernel) ⟨Nat.le_of_ble_eq_true rfl, Nat.le_of_ble_eq_true rfl⟩) ⟨fun a U g mk q => ⟨q.1, xE_calling q.2⟩, fun U hU hW => ⟨rfl, xE_at hE hS hU hW⟩⟩ rfl rfl hl.1 rfl (lv_room (Nat.le_of_ble_eq_true rfl)) dX0_whole_1 ⟨Nat.le_of_ble_eq_true rfl, Nat.le_of_ble_eq_true rfl⟩) hS (fun q _ h => h.elim) (fun q h => h.elim) (fun q _ h => h.elim) (fun E ce q9 k1 t H locs ht hvm hw1 hB hz hk hS hc9 hv9 hf9 => ?_) (fun u1 t H locs ht hvm hw1 hB hz hk hS => ?_)
  · skip
    rw [hQ]
    exact vx_out (fun x hx => (hno x hx).elim) hlocks hc9 hv9 hf9 (fun t9 ht9 hvm9 => ⟨k1, (hR.trans (by simp only [f_X0_whole, hw1])), hB, hS.F ht9⟩) hS.2.2 (Nat.le_of_ble_eq_true rfl) (Nat.le_of_ble_eq_true rfl)
  · skip
    have hP := hP.kept (fun k q hk9 => hk _ (vx_lt hP hk9) (fun h => h))
    have hi1 : vp_in p0 8 := slot_in hw1
    refine lv_aload_n hx hb dX0_whole_4 rfl (lv_at hl 0 rfl) ?_
    refine lv_iload_n hx hb dX0_whole_5 rfl (lv_at hl 1 rfl) ?_
    refine vx_callv (vx_runV (As := [.int p0]) (rest := []) ⟨hx, hb, hml, hown, hts⟩ (met_X0_checkNear l hfl D cI cJ ad S p0 (hi1)) (cwV 1 hts gX0_whole_X0_checkNear rfl rfl rfl (by decide +kernel) ⟨Nat.le_of_ble_eq_true rfl, Nat.le_of_ble_eq_true rfl⟩) ⟨fun a U g mk q => ⟨q.1, b0R_calling q.2.1, xE_calling q.2.2⟩, va_recv hK hP (ci := 0) (q0 := 0) rfl rfl, fun U hU hW => ⟨rfl, b0R_at hP hK hU hW, xE_at hE hS hU hW⟩⟩ rfl rfl hl.1 rfl (lv_room (Nat.le_of_ble_eq_true rfl)) dX0_whole_6 ⟨Nat.le_of_ble_eq_true rfl, Nat.le_of_ble_eq_true rfl⟩) hS (fun q _ h => h.elim) (fun q h => h.elim) (fun q _ h => h.elim) (fun E ce q9 k6 t H locs ht hvm hw6 hB hz hk hS hc9 hv9 hf9 => ?_) (fun u6 t H locs ht hvm hw6 hB hz hk hS => ?_)
    · skip
      rw [hQ]
      exact vx_out (fun x hx => (hno x hx).elim) hlocks hc9 hv9 hf9 (fun t9 ht9 hvm9 => ⟨k6, (hR.trans (by simp only [f_X0_whole, hw1, hw6])), hB, hS.F ht9⟩) hS.2.2 (Nat.le_of_ble_eq_true rfl) (Nat.le_of_ble_eq_true rfl)
    · skip
      have hP := hP.kept (fun k q hk9 => hk _ (vx_lt hP hk9) (fun h => h))
      refine lv_aload_n hx hb dX0_whole_9 rfl (lv_at hl 0 rfl) ?_
      refine va_get (D := D) (ci := 0) (v := .ref (ad 1)) (C := RX0) (T := TX0) (N := 9) hx hb hts hin hown hK hP 0 rfl rfl 0 (by decide) hf9 (fun _ h9 => h9) rfl dX0_whole_10 ?_
      refine lv_iload_n hx hb dX0_whole_13 rfl (lv_at hl 1 rfl) ?_
      refine va_iald hx hb hK hP 1 0 rfl rfl hi1 dX0_whole_14 ?_
      refine lv_i2l hx hb dX0_whole_15 rfl ?_
      refine lv_aload_n hx hb dX0_whole_16 rfl (lv_at hl 0 rfl) ?_
      refine lv_iload_n hx hb dX0_whole_17 rfl (lv_at hl 1 rfl) ?_
      refine va_calll (va_runV (As := [.int p0]) (rest := [.long ((((sgS S) p0.toNatClampNeg) : Int32).toInt64)]) ⟨hx, hb, hml, hown, hts⟩ (met_X0_nearSize l D cI cJ ad S p0 (hi1)) (cwV 1 hts gX0_whole_X0_nearSize rfl rfl rfl (by decide +kernel) ⟨Nat.le_of_ble_eq_true rfl, Nat.le_of_ble_eq_true rfl⟩) ⟨fun a U g mk q => ⟨q.1, b0R_calling q.2⟩, va_recv hK hP (ci := 0) (q0 := 0) rfl rfl, fun U hU hW => ⟨rfl, b0R_at hP hK hU hW⟩⟩ rfl rfl hl.1 rfl (lv_room (Nat.le_of_ble_eq_true rfl)) dX0_whole_18 ⟨Nat.le_of_ble_eq_true rfl, Nat.le_of_ble_eq_true rfl⟩) hS (fun q _ h => h.elim) (fun q h => h.elim) (fun r18 u18 t H locs ht hvm hw18 hB hz hk hS => ?_)
      subst hw18
      have hP := hP.kept (fun k q hk9 => hk _ (vx_lt hP hk9) (fun h => h))
      refine lv_lmul hx hb dX0_whole_21 ?_
      rw [hQ]
      refine vx_ret ?_
      exact W.lret (v := (((((sgS S) p0.toNatClampNeg) : Int32).toInt64) * (f_X0_nearSize S p0))) hx hb hr (fun t ht hW => ⟨⟨(((((sgS S) p0.toNatClampNeg) : Int32).toInt64) * (f_X0_nearSize S p0)), (), rfl, (hR.trans (by simp only [f_X0_whole, hw1, hw6])), trivial⟩, hS.F ht⟩) hS.2.2 dX0_whole_22

def f_X0_compare (S : pS) (p0 : Int32) (p1 : Int32) : Except Nat Int32 := (match f_X0_checkSlot p0 with | .error k => .error k | .ok _ => (match f_X0_checkSlot p1 with | .error k => .error k | .ok _ => (if ((f_X0_orderKey S p1) : Int64) ≤ (f_X0_orderKey S p0) then (if ((f_X0_orderKey S p0) : Int64) ≤ (f_X0_orderKey S p1) then (.ok 0) else (.ok 1)) else (.ok (-1)))))
set_option maxHeartbeats 4000000 in
set_option maxRecDepth 100000 in
theorem met_X0_compare (l : Launch) (hfl : l.stackTraces = false) (D : va_G) (cI cJ : ClassId) (ad : Nat → Nat) (S : pS) (p0 : Int32) (p1 : Int32) : vx_Met l yX0_compare wsX0_compare ({ frames := 7, cells := 2, slots := 12, locals := 104 } : Room) (va_Pc [.ref (ad 0), .int p0, .int p1] (fun U => b0R D cI cJ ad S U ∧ xE (fun _ => False) U U.heap)) (va_Qi (fun (r : Int32) (u : Unit) => f_X0_compare S p0 p1 = .ok r) (fun _ _ => True) (fun _ => False)) (vx_X (fun k : Nat => f_X0_compare S p0 p1 = .error k) (fun E k _ => E = exN k) (fun _ => False)) 2 12 (fun _ => False) := by
  refine vx_ofW (cc := cX0_compare) (maxL := 7) (ret := (some .int)) (by decide) rfl ?_
  intro p e s m args below meth c s₁ B hml hno hv
  obtain ⟨rfl, ⟨hP, hK⟩, hE⟩ := hv
  have hx := B.exec
  have hb := B.bytes
  have hr := B.returns
  have hts := atoms_spec (ws := wsX0_compare) B.pre
  have hown : s.vm.findClass RX0 = some m.cls := findClass_of_methodNamed B.named
  have hlocks := B.notSynchronized
  have hS : va_S (fun _ => False) s.heap s.heap [] := va_S.rf
  have hl := lv_entry ([.ref (ad 0), .int p0, .int p1]) (n := 7) (Nat.le_of_ble_eq_true rfl)
  rw [lg_entry_eq]
  generalize (lg_sl ([.ref (ad 0), .int p0, .int p1]) ++ List.replicate (7 - (lg_sl ([.ref (ad 0), .int p0, .int p1])).length) Slot.unset).toArray = ls at hl ⊢
  have hl : lv_has ls 7 [(0, .ref (ad 0)), (1, .int p0), (2, .int p1)] := hl
  obtain ⟨Q, hQ⟩ : ∃ Q : State → Prop, Q = (vx_MQ below (va_Qi (fun (r : Int32) (u : Unit) => f_X0_compare S p0 p1 = .ok r) (fun _ _ => True) (fun _ => False)) (vx_X (fun k : Nat => f_X0_compare S p0 p1 = .error k) (fun E k _ => E = exN k) (fun _ => False)) ([.ref (ad 0), .int p0, .int p1] : List Value).toArray s 2 12 (fun _ => False)) := ⟨_, rfl⟩
  rw [← hQ]
  have hR : f_X0_compare S p0 p1 = f_X0_compare S p0 p1 := rfl
  refine lv_iload_n hx hb dX0_compare_0 rfl (lv_at hl 1 rfl) ?_
  refine vx_callv (vx_runS (As := [.int p0]) (rest := []) ⟨hx, hb, hml, hown, hts⟩ (met_X0_checkSlot l hfl p0) (va_cwS 1 hts gX0_compare_X0_checkSlot rfl rfl rfl (by decide +kernel) ⟨Nat.le_of_ble_eq_true rfl, Nat.le_of_ble_eq_true rfl⟩) ⟨fun a U g mk q => ⟨q.1, xE_calling q.2⟩, fun U hU hW => ⟨rfl, xE_at hE hS hU hW⟩⟩ rfl rfl hl.1 rfl (lv_room (Nat.le_of_ble_eq_true rfl)) dX0_compare_1 ⟨Nat.le_of_ble_eq_true rfl, Nat.le_of_ble_eq_true rfl⟩) hS (fun q _ h => h.elim) (fun q h => h.elim) (fun q _ h => h.elim) (fun E ce q9 k1 t H locs ht hvm hw1 hB hz hk hS hc9 hv9 hf9 => ?_) (fun u1 t H locs ht hvm hw1 hB hz hk hS => ?_)
  · skip
    rw [hQ]
    exact vx_out (fun x hx => (hno x hx).elim) hlocks hc9 hv9 hf9 (fun t9 ht9 hvm9 => ⟨k1, (hR.trans (by simp only [f_X0_compare, hw1])), hB, hS.F ht9⟩) hS.2.2 (Nat.le_of_ble_eq_true rfl) (Nat.le_of_ble_eq_true rfl)
  · skip
    have hP := hP.kept (fun k q hk9 => hk _ (vx_lt hP hk9) (fun h => h))
    have hi1 : vp_in p0 8 := slot_in hw1
    refine lv_iload_n hx hb dX0_compare_4 rfl (lv_at hl 2 rfl) ?_
    refine vx_callv (vx_runS (As := [.int p1]) (rest := []) ⟨hx, hb, hml, hown, hts⟩ (met_X0_checkSlot l hfl p1) (va_cwS 1 hts gX0_compare_X0_checkSlot rfl rfl rfl (by decide +kernel) ⟨Nat.le_of_ble_eq_true rfl, Nat.le_of_ble_eq_true rfl⟩) ⟨fun a U g mk q => ⟨q.1, xE_calling q.2⟩, fun U hU hW => ⟨rfl, xE_at hE hS hU hW⟩⟩ rfl rfl hl.1 rfl (lv_room (Nat.le_of_ble_eq_true rfl)) dX0_compare_5 ⟨Nat.le_of_ble_eq_true rfl, Nat.le_of_ble_eq_true rfl⟩) hS (fun q _ h => h.elim) (fun q h => h.elim) (fun q _ h => h.elim) (fun E ce q9 k5 t H locs ht hvm hw5 hB hz hk hS hc9 hv9 hf9 => ?_) (fun u5 t H locs ht hvm hw5 hB hz hk hS => ?_)
    · skip
      rw [hQ]
      exact vx_out (fun x hx => (hno x hx).elim) hlocks hc9 hv9 hf9 (fun t9 ht9 hvm9 => ⟨k5, (hR.trans (by simp only [f_X0_compare, hw1, hw5])), hB, hS.F ht9⟩) hS.2.2 (Nat.le_of_ble_eq_true rfl) (Nat.le_of_ble_eq_true rfl)
    · skip
      have hP := hP.kept (fun k q hk9 => hk _ (vx_lt hP hk9) (fun h => h))
      have hi5 : vp_in p1 8 := slot_in hw5
      refine lv_aload_n hx hb dX0_compare_8 rfl (lv_at hl 0 rfl) ?_
      refine lv_iload_n hx hb dX0_compare_9 rfl (lv_at hl 1 rfl) ?_
      refine va_calll (va_runV (As := [.int p0]) (rest := []) ⟨hx, hb, hml, hown, hts⟩ (met_X0_orderKey l D cI cJ ad S p0 (hi1)) (cwV 1 hts gX0_compare_X0_orderKey rfl rfl rfl (by decide +kernel) ⟨Nat.le_of_ble_eq_true rfl, Nat.le_of_ble_eq_true rfl⟩) ⟨fun a U g mk q => ⟨q.1, b0R_calling q.2⟩, va_recv hK hP (ci := 0) (q0 := 0) rfl rfl, fun U hU hW => ⟨rfl, b0R_at hP hK hU hW⟩⟩ rfl rfl hl.1 rfl (lv_room (Nat.le_of_ble_eq_true rfl)) dX0_compare_10 ⟨Nat.le_of_ble_eq_true rfl, Nat.le_of_ble_eq_true rfl⟩) hS (fun q _ h => h.elim) (fun q h => h.elim) (fun r10 u10 t H locs ht hvm hw10 hB hz hk hS => ?_)
      subst hw10
      have hP := hP.kept (fun k q hk9 => hk _ (vx_lt hP hk9) (fun h => h))
      refine lv_lstore_n (lv' := [(3, .long (f_X0_orderKey S p0)), (0, .ref (ad 0)), (1, .int p0), (2, .int p1)]) hx hb dX0_compare_13 rfl hl (by decide) rfl (fun ls hl => ?_)
      refine lv_aload_n hx hb dX0_compare_14 rfl (lv_at hl 1 rfl) ?_
      refine lv_iload_n hx hb dX0_compare_15 rfl (lv_at hl 3 rfl) ?_
      refine va_calll (va_runV (As := [.int p1]) (rest := []) ⟨hx, hb, hml, hown, hts⟩ (met_X0_orderKey l D cI cJ ad S p1 (hi5)) (cwV 1 hts gX0_compare_X0_orderKey rfl rfl rfl (by decide +kernel) ⟨Nat.le_of_ble_eq_true rfl, Nat.le_of_ble_eq_true rfl⟩) ⟨fun a U g mk q => ⟨q.1, b0R_calling q.2⟩, va_recv hK hP (ci := 0) (q0 := 0) rfl rfl, fun U hU hW => ⟨rfl, b0R_at hP hK hU hW⟩⟩ rfl rfl hl.1 rfl (lv_room (Nat.le_of_ble_eq_true rfl)) dX0_compare_16 ⟨Nat.le_of_ble_eq_true rfl, Nat.le_of_ble_eq_true rfl⟩) hS (fun q _ h => h.elim) (fun q h => h.elim) (fun r16 u16 t H locs ht hvm hw16 hB hz hk hS => ?_)
      subst hw16
      have hP := hP.kept (fun k q hk9 => hk _ (vx_lt hP hk9) (fun h => h))
      refine lv_lstore (lv' := [(5, .long (f_X0_orderKey S p1)), (3, .long (f_X0_orderKey S p0)), (0, .ref (ad 0)), (1, .int p0), (2, .int p1)]) hx hb dX0_compare_19 hl (by decide) rfl (fun ls hl => ?_)
      refine lv_lload_n hx hb dX0_compare_21 rfl (lv_at hl 1 rfl) ?_
      refine lv_lload hx hb dX0_compare_22 (lv_at hl 0 rfl) ?_
      refine W.lcmp hx hb dX0_compare_24 ?_
      refine lv_if_ge (tgt := 30) hx hb dX0_compare_25 (by decide) (fun c24 => ?_) (fun c24 => ?_)
      · skip
        have c24 : ((f_X0_orderKey S p1) : Int64) ≤ (f_X0_orderKey S p0) := (lg_cmp_ge _ _).mp c24
        refine lv_lload_n hx hb dX0_compare_30 rfl (lv_at hl 1 rfl) ?_
        refine lv_lload hx hb dX0_compare_31 (lv_at hl 0 rfl) ?_
        refine W.lcmp hx hb dX0_compare_33 ?_
        refine lv_if_le (tgt := 41) hx hb dX0_compare_34 (by decide) (fun c33 => ?_) (fun c33 => ?_)
        · skip
          have c33 : ((f_X0_orderKey S p0) : Int64) ≤ (f_X0_orderKey S p1) := (lg_cmp_le _ _).mp c33
          refine lv_iconst (v := 0) hx hb dX0_compare_41 (by decide) ?_
          rw [hQ]
          refine vx_ret ?_
          exact W.iret (v := 0) hx hb hr (fun t ht hW => ⟨⟨0, (), rfl, (hR.trans (by simp only [f_X0_compare, hw1, hw5, if_pos c24, if_pos c33])), trivial⟩, hS.F ht⟩) hS.2.2 dX0_compare_42
        · skip
          have c33 : ¬ (((f_X0_orderKey S p0) : Int64) ≤ (f_X0_orderKey S p1)) := fun h => c33 ((lg_cmp_le _ _).mpr h)
          refine lv_iconst (v := 1) hx hb dX0_compare_37 (by decide) ?_
          refine lv_goto (tgt := 42) hx hb dX0_compare_38 (by decide) ?_
          rw [hQ]
          refine vx_ret ?_
          exact W.iret (v := 1) hx hb hr (fun t ht hW => ⟨⟨1, (), rfl, (hR.trans (by simp only [f_X0_compare, hw1, hw5, if_pos c24, if_neg c33])), trivial⟩, hS.F ht⟩) hS.2.2 dX0_compare_42
      · skip
        have c24 : ¬ (((f_X0_orderKey S p1) : Int64) ≤ (f_X0_orderKey S p0)) := fun h => c24 ((lg_cmp_ge _ _).mpr h)
        refine lv_iconst (v := (-1)) hx hb dX0_compare_28 (by decide) ?_
        rw [hQ]
        refine vx_ret ?_
        exact W.iret (v := (-1)) hx hb hr (fun t ht hW => ⟨⟨(-1), (), rfl, (hR.trans (by simp only [f_X0_compare, hw1, hw5, if_neg c24])), trivial⟩, hS.F ht⟩) hS.2.2 dX0_compare_29

def g_X0_rank_16 (S : pS) (p0 : Int32) : Nat → Int32 → Int32 → (Except Nat Int32)
  | 0, _, _ => .ok 0
  | n + 1, v16_4, v16_5 => (if (8 : Int32) ≤ v16_5 then (.ok v16_4) else (if ((f_X0_orderKey S p0) : Int64) ≤ (f_X0_orderKey S v16_5) then (g_X0_rank_16 S p0 n v16_4 (v16_5 + 1)) else (g_X0_rank_16 S p0 n (v16_4 + 1) (v16_5 + 1))))
def f_X0_rank (S : pS) (p0 : Int32) : Except Nat Int32 := (match f_X0_checkSlot p0 with | .error k => .error k | .ok _ => (g_X0_rank_16 S p0 (((8 : Int32).toInt - (0 : Int32).toInt).toNat + 1) 0 0))
set_option maxHeartbeats 4000000 in
set_option maxRecDepth 100000 in
theorem met_X0_rank (l : Launch) (hfl : l.stackTraces = false) (D : va_G) (cI cJ : ClassId) (ad : Nat → Nat) (S : pS) (p0 : Int32) : vx_Met l yX0_rank wsX0_rank ({ frames := 7, cells := 1, slots := 6, locals := 104 } : Room) (va_Pc [.ref (ad 0), .int p0] (fun U => b0R D cI cJ ad S U ∧ xE (fun _ => False) U U.heap)) (va_Qi (fun (r : Int32) (u : Unit) => f_X0_rank S p0 = .ok r) (fun _ _ => True) (fun _ => False)) (vx_X (fun k : Nat => f_X0_rank S p0 = .error k) (fun E k _ => E = exN k) (fun _ => False)) 1 6 (fun _ => False) := by
  refine vx_ofW (cc := cX0_rank) (maxL := 6) (ret := (some .int)) (by decide) rfl ?_
  intro p e s m args below meth c s₁ B hml hno hv
  obtain ⟨rfl, ⟨hP, hK⟩, hE⟩ := hv
  have hx := B.exec
  have hb := B.bytes
  have hr := B.returns
  have hts := atoms_spec (ws := wsX0_rank) B.pre
  have hown : s.vm.findClass RX0 = some m.cls := findClass_of_methodNamed B.named
  have hlocks := B.notSynchronized
  have hS : va_S (fun _ => False) s.heap s.heap [] := va_S.rf
  have hl := lv_entry ([.ref (ad 0), .int p0]) (n := 6) (Nat.le_of_ble_eq_true rfl)
  rw [lg_entry_eq]
  generalize (lg_sl ([.ref (ad 0), .int p0]) ++ List.replicate (6 - (lg_sl ([.ref (ad 0), .int p0])).length) Slot.unset).toArray = ls at hl ⊢
  have hl : lv_has ls 6 [(0, .ref (ad 0)), (1, .int p0)] := hl
  obtain ⟨Q, hQ⟩ : ∃ Q : State → Prop, Q = (vx_MQ below (va_Qi (fun (r : Int32) (u : Unit) => f_X0_rank S p0 = .ok r) (fun _ _ => True) (fun _ => False)) (vx_X (fun k : Nat => f_X0_rank S p0 = .error k) (fun E k _ => E = exN k) (fun _ => False)) ([.ref (ad 0), .int p0] : List Value).toArray s 1 6 (fun _ => False)) := ⟨_, rfl⟩
  rw [← hQ]
  have hR : f_X0_rank S p0 = f_X0_rank S p0 := rfl
  refine lv_iload_n hx hb dX0_rank_0 rfl (lv_at hl 1 rfl) ?_
  refine vx_callv (vx_runS (As := [.int p0]) (rest := []) ⟨hx, hb, hml, hown, hts⟩ (met_X0_checkSlot l hfl p0) (va_cwS 1 hts gX0_rank_X0_checkSlot rfl rfl rfl (by decide +kernel) ⟨Nat.le_of_ble_eq_true rfl, Nat.le_of_ble_eq_true rfl⟩) ⟨fun a U g mk q => ⟨q.1, xE_calling q.2⟩, fun U hU hW => ⟨rfl, xE_at hE hS hU hW⟩⟩ rfl rfl hl.1 rfl (lv_room (Nat.le_of_ble_eq_true rfl)) dX0_rank_1 ⟨Nat.le_of_ble_eq_true rfl, Nat.le_of_ble_eq_true rfl⟩) hS (fun q _ h => h.elim) (fun q h => h.elim) (fun q _ h => h.elim) (fun E ce q9 k1 t H locs ht hvm hw1 hB hz hk hS hc9 hv9 hf9 => ?_) (fun u1 t H locs ht hvm hw1 hB hz hk hS => ?_)
  · skip
    rw [hQ]
    exact vx_out (fun x hx => (hno x hx).elim) hlocks hc9 hv9 hf9 (fun t9 ht9 hvm9 => ⟨k1, (hR.trans (by simp only [f_X0_rank, hw1])), hB, hS.F ht9⟩) hS.2.2 (Nat.le_of_ble_eq_true rfl) (Nat.le_of_ble_eq_true rfl)
  · skip
    have hP := hP.kept (fun k q hk9 => hk _ (vx_lt hP hk9) (fun h => h))
    have hi1 : vp_in p0 8 := slot_in hw1
    refine lv_aload_n hx hb dX0_rank_4 rfl (lv_at hl 0 rfl) ?_
    refine lv_iload_n hx hb dX0_rank_5 rfl (lv_at hl 1 rfl) ?_
    refine va_calll (va_runV (As := [.int p0]) (rest := []) ⟨hx, hb, hml, hown, hts⟩ (met_X0_orderKey l D cI cJ ad S p0 (hi1)) (cwV 1 hts gX0_rank_X0_orderKey rfl rfl rfl (by decide +kernel) ⟨Nat.le_of_ble_eq_true rfl, Nat.le_of_ble_eq_true rfl⟩) ⟨fun a U g mk q => ⟨q.1, b0R_calling q.2⟩, va_recv hK hP (ci := 0) (q0 := 0) rfl rfl, fun U hU hW => ⟨rfl, b0R_at hP hK hU hW⟩⟩ rfl rfl hl.1 rfl (lv_room (Nat.le_of_ble_eq_true rfl)) dX0_rank_6 ⟨Nat.le_of_ble_eq_true rfl, Nat.le_of_ble_eq_true rfl⟩) hS (fun q _ h => h.elim) (fun q h => h.elim) (fun r6 u6 t H locs ht hvm hw6 hB hz hk hS => ?_)
    subst hw6
    have hP := hP.kept (fun k q hk9 => hk _ (vx_lt hP hk9) (fun h => h))
    refine lv_lstore_n (lv' := [(2, .long (f_X0_orderKey S p0)), (0, .ref (ad 0)), (1, .int p0)]) hx hb dX0_rank_9 rfl hl (by decide) rfl (fun ls hl => ?_)
    refine lv_iconst (v := 0) hx hb dX0_rank_10 (by decide) ?_
    refine lv_istore (lv' := [(4, .int 0), (2, .long (f_X0_orderKey S p0)), (0, .ref (ad 0)), (1, .int p0)]) hx hb dX0_rank_11 hl (by decide) rfl (fun ls hl => ?_)
    refine lv_iconst (v := 0) hx hb dX0_rank_13 (by decide) ?_
    refine lv_istore (lv' := [(5, .int 0), (4, .int 0), (2, .long (f_X0_orderKey S p0)), (0, .ref (ad 0)), (1, .int p0)]) hx hb dX0_rank_14 hl (by decide) rfl (fun ls hl => ?_)
    have J16 : ∀ (n16 : Nat) (v16_4 : Int32) (v16_5 : Int32) (ls : Array Slot) (H : Heap) (locs : List Loc), lv_has ls 6 [(0, .ref (ad 0)), (1, .int p0), (2, .long (f_X0_orderKey S p0)), (4, .int v16_4), (5, .int v16_5)] → va_S (fun _ => False) s.heap H locs → va_P D pCl (pmW cI cJ ad S) H → f_X0_rank S p0 = g_X0_rank_16 S p0 n16 v16_4 v16_5 → ((8 : Int32).toInt - v16_5.toInt).toNat < n16 → ((0 : Int32) ≤ v16_5) → W p l e (headSpec wsX0_rank ({ frames := 7, cells := 1, slots := 6, locals := 104 } : Room)).room s m ([.ref (ad 0), .int p0] : List Value).toArray below meth c H locs 1 6 Q (F0 m 16 ls []) := by
      intro n16
      induction n16 with
      | zero => intro v16_4 v16_5 ls H locs hl hS hP hR hmu16 hi16_0; exact absurd hmu16 (Nat.not_lt_zero _)
      | succ n16 ih16 =>
        intro v16_4 v16_5 ls H locs hl hS hP hR hmu16 hi16_0
        refine lv_iload hx hb dX0_rank_16 (lv_at hl 4 rfl) ?_
        refine lv_bipush (v := 8) hx hb dX0_rank_18 (by decide) ?_
        refine lv_icmp_ge (tgt := 43) hx hb dX0_rank_20 (by decide) (fun c20 => ?_) (fun c20 => ?_)
        · skip
          refine lv_iload hx hb dX0_rank_43 (lv_at hl 3 rfl) ?_
          rw [hQ]
          refine vx_ret ?_
          exact W.iret (v := v16_4) hx hb hr (fun t ht hW => ⟨⟨v16_4, (), rfl, (hR.trans (by simp only [g_X0_rank_16, if_pos c20])), trivial⟩, hS.F ht⟩) hS.2.2 dX0_rank_45
        · skip
          refine lv_aload_n hx hb dX0_rank_23 rfl (lv_at hl 0 rfl) ?_
          refine lv_iload hx hb dX0_rank_24 (lv_at hl 4 rfl) ?_
          refine va_calll (va_runV (As := [.int v16_5]) (rest := []) ⟨hx, hb, hml, hown, hts⟩ (met_X0_orderKey l D cI cJ ad S v16_5 ((in8 hi16_0 c20))) (cwV 1 hts gX0_rank_X0_orderKey rfl rfl rfl (by decide +kernel) ⟨Nat.le_of_ble_eq_true rfl, Nat.le_of_ble_eq_true rfl⟩) ⟨fun a U g mk q => ⟨q.1, b0R_calling q.2⟩, va_recv hK hP (ci := 0) (q0 := 0) rfl rfl, fun U hU hW => ⟨rfl, b0R_at hP hK hU hW⟩⟩ rfl rfl hl.1 rfl (lv_room (Nat.le_of_ble_eq_true rfl)) dX0_rank_26 ⟨Nat.le_of_ble_eq_true rfl, Nat.le_of_ble_eq_true rfl⟩) hS (fun q _ h => h.elim) (fun q h => h.elim) (fun r26 u26 t H locs ht hvm hw26 hB hz hk hS => ?_)
          subst hw26
          have hP := hP.kept (fun k q hk9 => hk _ (vx_lt hP hk9) (fun h => h))
          refine lv_lload_n hx hb dX0_rank_29 rfl (lv_at hl 2 rfl) ?_
          refine W.lcmp hx hb dX0_rank_30 ?_
          refine lv_if_ge (tgt := 37) hx hb dX0_rank_31 (by decide) (fun c30 => ?_) (fun c30 => ?_)
          · skip
            have c30 : ((f_X0_orderKey S p0) : Int64) ≤ (f_X0_orderKey S v16_5) := (lg_cmp_ge _ _).mp c30
            refine lv_iinc (v := (v16_5 + 1)) (lv' := [(5, .int (v16_5 + 1)), (0, .ref (ad 0)), (1, .int p0), (2, .long (f_X0_orderKey S p0)), (4, .int v16_4)]) hx hb dX0_rank_37 hl (k := 4) rfl (by rfl) (by decide) rfl (fun ls hl => ?_)
            refine lv_goto (tgt := 16) hx hb dX0_rank_40 (by decide) ?_
            exact ih16 v16_4 (v16_5 + 1) ls _ _ (lv_sub hl [1, 2, 3, 4, 0] rfl) hS hP (hR.trans (by simp only [g_X0_rank_16, if_neg c20, if_pos c30])) (mu_up c20 hmu16) (inc0 hi16_0 c20)
          · skip
            have c30 : ¬ (((f_X0_orderKey S p0) : Int64) ≤ (f_X0_orderKey S v16_5)) := fun h => c30 ((lg_cmp_ge _ _).mpr h)
            refine lv_iinc (v := (v16_4 + 1)) (lv' := [(4, .int (v16_4 + 1)), (0, .ref (ad 0)), (1, .int p0), (2, .long (f_X0_orderKey S p0)), (5, .int v16_5)]) hx hb dX0_rank_34 hl (k := 3) rfl (by rfl) (by decide) rfl (fun ls hl => ?_)
            refine lv_iinc (v := (v16_5 + 1)) (lv' := [(5, .int (v16_5 + 1)), (4, .int (v16_4 + 1)), (0, .ref (ad 0)), (1, .int p0), (2, .long (f_X0_orderKey S p0))]) hx hb dX0_rank_37 hl (k := 4) rfl (by rfl) (by decide) rfl (fun ls hl => ?_)
            refine lv_goto (tgt := 16) hx hb dX0_rank_40 (by decide) ?_
            exact ih16 (v16_4 + 1) (v16_5 + 1) ls _ _ (lv_sub hl [2, 3, 4, 1, 0] rfl) hS hP (hR.trans (by simp only [g_X0_rank_16, if_neg c20, if_neg c30])) (mu_up c20 hmu16) (inc0 hi16_0 c20)
    exact J16 (((8 : Int32).toInt - (0 : Int32).toInt).toNat + 1) 0 0 ls _ _ (lv_sub hl [3, 4, 2, 1, 0] rfl) hS hP (hR.trans (by simp only [f_X0_rank, hw1])) (Nat.lt_succ_self _) (by decide)

def g_X0_at_8 (S : pS) (p0 : Int32) : Nat → Int32 → Int32 → (Except Nat Int32)
  | 0, _, _ => .ok 0
  | n + 1, v8_2, v8_3 => (if (8 : Int32) ≤ v8_3 then (.ok v8_2) else (if ((f_X0_placeOf S v8_3) : Int32) = p0 then (g_X0_at_8 S p0 n v8_3 (v8_3 + 1)) else (g_X0_at_8 S p0 n v8_2 (v8_3 + 1))))
def f_X0_at (S : pS) (p0 : Int32) : Except Nat Int32 := (match f_X0_checkSlot p0 with | .error k => .error k | .ok _ => (g_X0_at_8 S p0 (((8 : Int32).toInt - (0 : Int32).toInt).toNat + 1) 0 0))
set_option maxHeartbeats 4000000 in
set_option maxRecDepth 100000 in
theorem met_X0_at (l : Launch) (hfl : l.stackTraces = false) (D : va_G) (cI cJ : ClassId) (ad : Nat → Nat) (S : pS) (p0 : Int32) : vx_Met l yX0_at wsX0_at ({ frames := 7, cells := 1, slots := 6, locals := 120 } : Room) (va_Pc [.ref (ad 0), .int p0] (fun U => b0R D cI cJ ad S U ∧ xE (fun _ => False) U U.heap)) (va_Qi (fun (r : Int32) (u : Unit) => f_X0_at S p0 = .ok r) (fun _ _ => True) (fun _ => False)) (vx_X (fun k : Nat => f_X0_at S p0 = .error k) (fun E k _ => E = exN k) (fun _ => False)) 1 6 (fun _ => False) := by
  refine vx_ofW (cc := cX0_at) (maxL := 4) (ret := (some .int)) (by decide) rfl ?_
  intro p e s m args below meth c s₁ B hml hno hv
  obtain ⟨rfl, ⟨hP, hK⟩, hE⟩ := hv
  have hx := B.exec
  have hb := B.bytes
  have hr := B.returns
  have hts := atoms_spec (ws := wsX0_at) B.pre
  have hown : s.vm.findClass RX0 = some m.cls := findClass_of_methodNamed B.named
  have hlocks := B.notSynchronized
  have hS : va_S (fun _ => False) s.heap s.heap [] := va_S.rf
  have hl := lv_entry ([.ref (ad 0), .int p0]) (n := 4) (Nat.le_of_ble_eq_true rfl)
  rw [lg_entry_eq]
  generalize (lg_sl ([.ref (ad 0), .int p0]) ++ List.replicate (4 - (lg_sl ([.ref (ad 0), .int p0])).length) Slot.unset).toArray = ls at hl ⊢
  have hl : lv_has ls 4 [(0, .ref (ad 0)), (1, .int p0)] := hl
  obtain ⟨Q, hQ⟩ : ∃ Q : State → Prop, Q = (vx_MQ below (va_Qi (fun (r : Int32) (u : Unit) => f_X0_at S p0 = .ok r) (fun _ _ => True) (fun _ => False)) (vx_X (fun k : Nat => f_X0_at S p0 = .error k) (fun E k _ => E = exN k) (fun _ => False)) ([.ref (ad 0), .int p0] : List Value).toArray s 1 6 (fun _ => False)) := ⟨_, rfl⟩
  rw [← hQ]
  have hR : f_X0_at S p0 = f_X0_at S p0 := rfl
  refine lv_iload_n hx hb dX0_at_0 rfl (lv_at hl 1 rfl) ?_
  refine vx_callv (vx_runS (As := [.int p0]) (rest := []) ⟨hx, hb, hml, hown, hts⟩ (met_X0_checkSlot l hfl p0) (va_cwS 1 hts gX0_at_X0_checkSlot rfl rfl rfl (by decide +kernel) ⟨Nat.le_of_ble_eq_true rfl, Nat.le_of_ble_eq_true rfl⟩) ⟨fun a U g mk q => ⟨q.1, xE_calling q.2⟩, fun U hU hW => ⟨rfl, xE_at hE hS hU hW⟩⟩ rfl rfl hl.1 rfl (lv_room (Nat.le_of_ble_eq_true rfl)) dX0_at_1 ⟨Nat.le_of_ble_eq_true rfl, Nat.le_of_ble_eq_true rfl⟩) hS (fun q _ h => h.elim) (fun q h => h.elim) (fun q _ h => h.elim) (fun E ce q9 k1 t H locs ht hvm hw1 hB hz hk hS hc9 hv9 hf9 => ?_) (fun u1 t H locs ht hvm hw1 hB hz hk hS => ?_)
  · skip
    rw [hQ]
    exact vx_out (fun x hx => (hno x hx).elim) hlocks hc9 hv9 hf9 (fun t9 ht9 hvm9 => ⟨k1, (hR.trans (by simp only [f_X0_at, hw1])), hB, hS.F ht9⟩) hS.2.2 (Nat.le_of_ble_eq_true rfl) (Nat.le_of_ble_eq_true rfl)
  · skip
    have hP := hP.kept (fun k q hk9 => hk _ (vx_lt hP hk9) (fun h => h))
    have hi1 : vp_in p0 8 := slot_in hw1
    refine lv_iconst (v := 0) hx hb dX0_at_4 (by decide) ?_
    refine lv_istore_n (lv' := [(2, .int 0), (0, .ref (ad 0)), (1, .int p0)]) hx hb dX0_at_5 rfl hl (by decide) rfl (fun ls hl => ?_)
    refine lv_iconst (v := 0) hx hb dX0_at_6 (by decide) ?_
    refine lv_istore_n (lv' := [(3, .int 0), (2, .int 0), (0, .ref (ad 0)), (1, .int p0)]) hx hb dX0_at_7 rfl hl (by decide) rfl (fun ls hl => ?_)
    have J8 : ∀ (n8 : Nat) (v8_2 : Int32) (v8_3 : Int32) (ls : Array Slot) (H : Heap) (locs : List Loc), lv_has ls 4 [(0, .ref (ad 0)), (1, .int p0), (2, .int v8_2), (3, .int v8_3)] → va_S (fun _ => False) s.heap H locs → va_P D pCl (pmW cI cJ ad S) H → f_X0_at S p0 = g_X0_at_8 S p0 n8 v8_2 v8_3 → ((8 : Int32).toInt - v8_3.toInt).toNat < n8 → ((0 : Int32) ≤ v8_3) → W p l e (headSpec wsX0_at ({ frames := 7, cells := 1, slots := 6, locals := 120 } : Room)).room s m ([.ref (ad 0), .int p0] : List Value).toArray below meth c H locs 1 6 Q (F0 m 8 ls []) := by
      intro n8
      induction n8 with
      | zero => intro v8_2 v8_3 ls H locs hl hS hP hR hmu8 hi8_0; exact absurd hmu8 (Nat.not_lt_zero _)
      | succ n8 ih8 =>
        intro v8_2 v8_3 ls H locs hl hS hP hR hmu8 hi8_0
        refine lv_iload_n hx hb dX0_at_8 rfl (lv_at hl 3 rfl) ?_
        refine lv_bipush (v := 8) hx hb dX0_at_9 (by decide) ?_
        refine lv_icmp_ge (tgt := 31) hx hb dX0_at_11 (by decide) (fun c11 => ?_) (fun c11 => ?_)
        · skip
          refine lv_iload_n hx hb dX0_at_31 rfl (lv_at hl 2 rfl) ?_
          rw [hQ]
          refine vx_ret ?_
          exact W.iret (v := v8_2) hx hb hr (fun t ht hW => ⟨⟨v8_2, (), rfl, (hR.trans (by simp only [g_X0_at_8, if_pos c11])), trivial⟩, hS.F ht⟩) hS.2.2 dX0_at_32
        · skip
          refine lv_aload_n hx hb dX0_at_14 rfl (lv_at hl 0 rfl) ?_
          refine lv_iload_n hx hb dX0_at_15 rfl (lv_at hl 3 rfl) ?_
          refine va_calli (va_runV (As := [.int v8_3]) (rest := []) ⟨hx, hb, hml, hown, hts⟩ (met_X0_placeOf l D cI cJ ad S v8_3 ((in8 hi8_0 c11))) (cwV 1 hts gX0_at_X0_placeOf rfl rfl rfl (by decide +kernel) ⟨Nat.le_of_ble_eq_true rfl, Nat.le_of_ble_eq_true rfl⟩) ⟨fun a U g mk q => ⟨q.1, b0R_calling q.2⟩, va_recv hK hP (ci := 0) (q0 := 0) rfl rfl, fun U hU hW => ⟨rfl, b0R_at hP hK hU hW⟩⟩ rfl rfl hl.1 rfl (lv_room (Nat.le_of_ble_eq_true rfl)) dX0_at_16 ⟨Nat.le_of_ble_eq_true rfl, Nat.le_of_ble_eq_true rfl⟩) hS (fun q _ h => h.elim) (fun q h => h.elim) (fun r16 u16 t H locs ht hvm hw16 hB hz hk hS => ?_)
          subst hw16
          have hP := hP.kept (fun k q hk9 => hk _ (vx_lt hP hk9) (fun h => h))
          refine lv_iload_n hx hb dX0_at_19 rfl (lv_at hl 1 rfl) ?_
          refine lv_icmp_ne (tgt := 25) hx hb dX0_at_20 (by decide) (fun c20 => ?_) (fun c20 => ?_)
          · skip
            refine lv_iinc (v := (v8_3 + 1)) (lv' := [(3, .int (v8_3 + 1)), (0, .ref (ad 0)), (1, .int p0), (2, .int v8_2)]) hx hb dX0_at_25 hl (k := 3) rfl (by rfl) (by decide) rfl (fun ls hl => ?_)
            refine lv_goto (tgt := 8) hx hb dX0_at_28 (by decide) ?_
            exact ih8 v8_2 (v8_3 + 1) ls _ _ (lv_sub hl [1, 2, 3, 0] rfl) hS hP (hR.trans (by simp only [g_X0_at_8, if_neg c11, if_neg c20])) (mu_up c11 hmu8) (inc0 hi8_0 c11)
          · skip
            refine lv_iload_n hx hb dX0_at_23 rfl (lv_at hl 3 rfl) ?_
            refine lv_istore_n (lv' := [(2, .int v8_3), (0, .ref (ad 0)), (1, .int p0), (3, .int v8_3)]) hx hb dX0_at_24 rfl hl (by decide) rfl (fun ls hl => ?_)
            refine lv_iinc (v := (v8_3 + 1)) (lv' := [(3, .int (v8_3 + 1)), (2, .int v8_3), (0, .ref (ad 0)), (1, .int p0)]) hx hb dX0_at_25 hl (k := 3) rfl (by rfl) (by decide) rfl (fun ls hl => ?_)
            refine lv_goto (tgt := 8) hx hb dX0_at_28 (by decide) ?_
            exact ih8 v8_3 (v8_3 + 1) ls _ _ (lv_sub hl [2, 3, 1, 0] rfl) hS hP (hR.trans (by simp only [g_X0_at_8, if_neg c11, if_pos c20])) (mu_up c11 hmu8) (inc0 hi8_0 c11)
    exact J8 (((8 : Int32).toInt - (0 : Int32).toInt).toNat + 1) 0 0 ls _ _ (lv_sub hl [2, 3, 1, 0] rfl) hS hP (hR.trans (by simp only [f_X0_at, hw1])) (Nat.lt_succ_self _) (by decide)

def f_X0_log (S : pS) (p0 : Int32) (p1 : Int32) : Except Nat Int32 := (match f_X0_checkSlot p1 with | .error k => .error k | .ok _ => (match f_X0_checkDigitBase p0 with | .error k => .error k | .ok _ => (match f_X0_checkNear S p1 with | .error k => .error k | .ok _ => (if (1 : Int32) ≤ ((sgS S) p1.toNatClampNeg) then (.ok ((f_X0_countDigits p0 (f_X0_nearSize S p1)) - 1)) else (.error 4)))))
set_option maxHeartbeats 4000000 in
set_option maxRecDepth 100000 in
theorem met_X0_log (l : Launch) (hfl : l.stackTraces = false) (D : va_G) (cI cJ : ClassId) (ad : Nat → Nat) (S : pS) (p0 : Int32) (p1 : Int32) : vx_Met l yX0_log wsX0_log ({ frames := 8, cells := 4, slots := 24, locals := 126 } : Room) (va_Pc [.ref (ad 0), .int p0, .int p1] (fun U => b0R D cI cJ ad S U ∧ xE (fun _ => False) U U.heap)) (va_Qi (fun (r : Int32) (u : Unit) => f_X0_log S p0 p1 = .ok r) (fun _ _ => True) (fun _ => False)) (vx_X (fun k : Nat => f_X0_log S p0 p1 = .error k) (fun E k _ => E = exN k) (fun _ => False)) 4 24 (fun _ => False) := by
  refine vx_ofW (cc := cX0_log) (maxL := 3) (ret := (some .int)) (by decide) rfl ?_
  intro p e s m args below meth c s₁ B hml hno hv
  obtain ⟨rfl, ⟨hP, hK⟩, hE⟩ := hv
  have hx := B.exec
  have hb := B.bytes
  have hr := B.returns
  have hts := atoms_spec (ws := wsX0_log) B.pre
  have hown : s.vm.findClass RX0 = some m.cls := findClass_of_methodNamed B.named
  have hlocks := B.notSynchronized
  have hS : va_S (fun _ => False) s.heap s.heap [] := va_S.rf
  have hin : ∀ w ∈ wsX00, w ∈ wsX0_log := by decide +kernel
  have hf9 := hts (.fieldLink RX0 9 "Powermill" "signs" "[I") (by decide +kernel)
  have hl := lv_entry ([.ref (ad 0), .int p0, .int p1]) (n := 3) (Nat.le_of_ble_eq_true rfl)
  rw [lg_entry_eq]
  generalize (lg_sl ([.ref (ad 0), .int p0, .int p1]) ++ List.replicate (3 - (lg_sl ([.ref (ad 0), .int p0, .int p1])).length) Slot.unset).toArray = ls at hl ⊢
  have hl : lv_has ls 3 [(0, .ref (ad 0)), (1, .int p0), (2, .int p1)] := hl
  obtain ⟨Q, hQ⟩ : ∃ Q : State → Prop, Q = (vx_MQ below (va_Qi (fun (r : Int32) (u : Unit) => f_X0_log S p0 p1 = .ok r) (fun _ _ => True) (fun _ => False)) (vx_X (fun k : Nat => f_X0_log S p0 p1 = .error k) (fun E k _ => E = exN k) (fun _ => False)) ([.ref (ad 0), .int p0, .int p1] : List Value).toArray s 4 24 (fun _ => False)) := ⟨_, rfl⟩
  rw [← hQ]
  have hR : f_X0_log S p0 p1 = f_X0_log S p0 p1 := rfl
  refine lv_iload_n hx hb dX0_log_0 rfl (lv_at hl 2 rfl) ?_
  refine vx_callv (vx_runS (As := [.int p1]) (rest := []) ⟨hx, hb, hml, hown, hts⟩ (met_X0_checkSlot l hfl p1) (va_cwS 1 hts gX0_log_X0_checkSlot rfl rfl rfl (by decide +kernel) ⟨Nat.le_of_ble_eq_true rfl, Nat.le_of_ble_eq_true rfl⟩) ⟨fun a U g mk q => ⟨q.1, xE_calling q.2⟩, fun U hU hW => ⟨rfl, xE_at hE hS hU hW⟩⟩ rfl rfl hl.1 rfl (lv_room (Nat.le_of_ble_eq_true rfl)) dX0_log_1 ⟨Nat.le_of_ble_eq_true rfl, Nat.le_of_ble_eq_true rfl⟩) hS (fun q _ h => h.elim) (fun q h => h.elim) (fun q _ h => h.elim) (fun E ce q9 k1 t H locs ht hvm hw1 hB hz hk hS hc9 hv9 hf9 => ?_) (fun u1 t H locs ht hvm hw1 hB hz hk hS => ?_)
  · skip
    rw [hQ]
    exact vx_out (fun x hx => (hno x hx).elim) hlocks hc9 hv9 hf9 (fun t9 ht9 hvm9 => ⟨k1, (hR.trans (by simp only [f_X0_log, hw1])), hB, hS.F ht9⟩) hS.2.2 (Nat.le_of_ble_eq_true rfl) (Nat.le_of_ble_eq_true rfl)
  · skip
    have hP := hP.kept (fun k q hk9 => hk _ (vx_lt hP hk9) (fun h => h))
    have hi1 : vp_in p1 8 := slot_in hw1
    refine lv_iload_n hx hb dX0_log_4 rfl (lv_at hl 1 rfl) ?_
    refine vx_callv (vx_runS (As := [.int p0]) (rest := []) ⟨hx, hb, hml, hown, hts⟩ (met_X0_checkDigitBase l hfl p0) (va_cwS 1 hts gX0_log_X0_checkDigitBase rfl rfl rfl (by decide +kernel) ⟨Nat.le_of_ble_eq_true rfl, Nat.le_of_ble_eq_true rfl⟩) ⟨fun a U g mk q => ⟨q.1, xE_calling q.2⟩, fun U hU hW => ⟨rfl, xE_at hE hS hU hW⟩⟩ rfl rfl hl.1 rfl (lv_room (Nat.le_of_ble_eq_true rfl)) dX0_log_5 ⟨Nat.le_of_ble_eq_true rfl, Nat.le_of_ble_eq_true rfl⟩) hS (fun q _ h => h.elim) (fun q h => h.elim) (fun q _ h => h.elim) (fun E ce q9 k5 t H locs ht hvm hw5 hB hz hk hS hc9 hv9 hf9 => ?_) (fun u5 t H locs ht hvm hw5 hB hz hk hS => ?_)
    · skip
      rw [hQ]
      exact vx_out (fun x hx => (hno x hx).elim) hlocks hc9 hv9 hf9 (fun t9 ht9 hvm9 => ⟨k5, (hR.trans (by simp only [f_X0_log, hw1, hw5])), hB, hS.F ht9⟩) hS.2.2 (Nat.le_of_ble_eq_true rfl) (Nat.le_of_ble_eq_true rfl)
    · skip
      have hP := hP.kept (fun k q hk9 => hk _ (vx_lt hP hk9) (fun h => h))
      have hz5 : ¬ ((p0 : Int32).toInt64) = 0 := digitBase_nz hw5
      refine lv_aload_n hx hb dX0_log_8 rfl (lv_at hl 0 rfl) ?_
      refine lv_iload_n hx hb dX0_log_9 rfl (lv_at hl 2 rfl) ?_
      refine vx_callv (vx_runV (As := [.int p1]) (rest := []) ⟨hx, hb, hml, hown, hts⟩ (met_X0_checkNear l hfl D cI cJ ad S p1 (hi1)) (cwV 1 hts gX0_log_X0_checkNear rfl rfl rfl (by decide +kernel) ⟨Nat.le_of_ble_eq_true rfl, Nat.le_of_ble_eq_true rfl⟩) ⟨fun a U g mk q => ⟨q.1, b0R_calling q.2.1, xE_calling q.2.2⟩, va_recv hK hP (ci := 0) (q0 := 0) rfl rfl, fun U hU hW => ⟨rfl, b0R_at hP hK hU hW, xE_at hE hS hU hW⟩⟩ rfl rfl hl.1 rfl (lv_room (Nat.le_of_ble_eq_true rfl)) dX0_log_10 ⟨Nat.le_of_ble_eq_true rfl, Nat.le_of_ble_eq_true rfl⟩) hS (fun q _ h => h.elim) (fun q h => h.elim) (fun q _ h => h.elim) (fun E ce q9 k10 t H locs ht hvm hw10 hB hz hk hS hc9 hv9 hf9 => ?_) (fun u10 t H locs ht hvm hw10 hB hz hk hS => ?_)
      · skip
        rw [hQ]
        exact vx_out (fun x hx => (hno x hx).elim) hlocks hc9 hv9 hf9 (fun t9 ht9 hvm9 => ⟨k10, (hR.trans (by simp only [f_X0_log, hw1, hw5, hw10])), hB, hS.F ht9⟩) hS.2.2 (Nat.le_of_ble_eq_true rfl) (Nat.le_of_ble_eq_true rfl)
      · skip
        have hP := hP.kept (fun k q hk9 => hk _ (vx_lt hP hk9) (fun h => h))
        refine lv_aload_n hx hb dX0_log_13 rfl (lv_at hl 0 rfl) ?_
        refine va_get (D := D) (ci := 0) (v := .ref (ad 1)) (C := RX0) (T := TX0) (N := 9) hx hb hts hin hown hK hP 0 rfl rfl 0 (by decide) hf9 (fun _ h9 => h9) rfl dX0_log_14 ?_
        refine lv_iload_n hx hb dX0_log_17 rfl (lv_at hl 2 rfl) ?_
        refine va_iald hx hb hK hP 1 0 rfl rfl hi1 dX0_log_18 ?_
        refine lv_iconst (v := 1) hx hb dX0_log_19 (by decide) ?_
        refine lv_icmp_ge (tgt := 33) hx hb dX0_log_20 (by decide) (fun c20 => ?_) (fun c20 => ?_)
        · skip
          refine lv_iload_n hx hb dX0_log_33 rfl (lv_at hl 1 rfl) ?_
          refine lv_aload_n hx hb dX0_log_34 rfl (lv_at hl 0 rfl) ?_
          refine lv_iload_n hx hb dX0_log_35 rfl (lv_at hl 2 rfl) ?_
          refine va_calll (va_runV (As := [.int p1]) (rest := [.int p0]) ⟨hx, hb, hml, hown, hts⟩ (met_X0_nearSize l D cI cJ ad S p1 (hi1)) (cwV 1 hts gX0_log_X0_nearSize rfl rfl rfl (by decide +kernel) ⟨Nat.le_of_ble_eq_true rfl, Nat.le_of_ble_eq_true rfl⟩) ⟨fun a U g mk q => ⟨q.1, b0R_calling q.2⟩, va_recv hK hP (ci := 0) (q0 := 0) rfl rfl, fun U hU hW => ⟨rfl, b0R_at hP hK hU hW⟩⟩ rfl rfl hl.1 rfl (lv_room (Nat.le_of_ble_eq_true rfl)) dX0_log_36 ⟨Nat.le_of_ble_eq_true rfl, Nat.le_of_ble_eq_true rfl⟩) hS (fun q _ h => h.elim) (fun q h => h.elim) (fun r36 u36 t H locs ht hvm hw36 hB hz hk hS => ?_)
          subst hw36
          have hP := hP.kept (fun k q hk9 => hk _ (vx_lt hP hk9) (fun h => h))
          refine va_calli (va_runS (As := [.int p0, .long (f_X0_nearSize S p1)]) (rest := []) ⟨hx, hb, hml, hown, hts⟩ (met_X0_countDigits l p0 (f_X0_nearSize S p1) (hz5)) (va_cwS 2 hts gX0_log_X0_countDigits rfl rfl rfl (by decide +kernel) ⟨Nat.le_of_ble_eq_true rfl, Nat.le_of_ble_eq_true rfl⟩) ⟨fun a U g mk q => q, fun U hU hW => ⟨rfl, trivial⟩⟩ rfl rfl hl.1 rfl (lv_room (Nat.le_of_ble_eq_true rfl)) dX0_log_39 ⟨Nat.le_of_ble_eq_true rfl, Nat.le_of_ble_eq_true rfl⟩) hS (fun q _ h => h.elim) (fun q h => h.elim) (fun r39 u39 t H locs ht hvm hw39 hB hz hk hS => ?_)
          subst hw39
          have hP := hP.kept (fun k q hk9 => hk _ (vx_lt hP hk9) (fun h => h))
          refine lv_iconst (v := 1) hx hb dX0_log_42 (by decide) ?_
          refine lv_isub hx hb dX0_log_43 ?_
          refine W.widen (k := 4) (n := 24) (Nat.le_of_ble_eq_true rfl) (Nat.le_of_ble_eq_true rfl) ?_
          rw [hQ]
          refine vx_ret ?_
          exact W.iret (v := ((f_X0_countDigits p0 (f_X0_nearSize S p1)) - 1)) hx hb hr (fun t ht hW => ⟨⟨((f_X0_countDigits p0 (f_X0_nearSize S p1)) - 1), (), rfl, (hR.trans (by simp only [f_X0_log, hw1, hw5, hw10, if_pos c20])), trivial⟩, hS.F ht⟩) hS.2.2 dX0_log_44
        · skip
          obtain ⟨sa, hstr⟩ := hE.2.2.1 (121, "the number is less than 1") (by decide +kernel)
          rw [hQ]
          exact vx_throwS hx hb hfl (own := RX0) (cls := "java/lang/ArithmeticException") (text := "the number is less than 1") (names := ["java/lang/RuntimeException", "java/lang/Exception"]) (ik := 84) (is := 121) (ic := 88) hown (by decide +kernel) (by decide +kernel) (hts _ (by decide +kernel)) (hts _ (by decide +kernel)) hstr (vx_hat (fun w h => hts w ((by decide +kernel : ∀ w ∈ (vx_atS RX0 88 "java/lang/ArithmeticException" ["java/lang/RuntimeException", "java/lang/Exception"]).filter goodWord, w ∈ wsX0_log) w h)) (by decide +kernel) (vx_c (va_Nw.use rfl (hE.2.2.2.1 "java/lang/ArithmeticException" (by decide +kernel))) (vx_c (va_Nw.use rfl (hE.2.2.2.2 "java/lang/RuntimeException" (by decide +kernel))) (vx_c (va_Nw.use rfl (hE.2.2.2.2 "java/lang/Exception" (by decide +kernel))) (vx_c (va_Nw.use rfl (hE.2.2.2.2 "java/lang/Throwable" (by decide +kernel))) vx_n))))) (by decide +kernel) hE.1 hE.2.1 hS (by rw [hml]; exact hl.1) dX0_log_23 dX0_log_26 dX0_log_27 dX0_log_29 dX0_log_32 (fun x hx => (hno x hx).elim) (Nat.le_of_ble_eq_true rfl) (Nat.le_of_ble_eq_true rfl) (Nat.le_of_ble_eq_true rfl) (Nat.le_of_ble_eq_true rfl) hlocks (fun t hvm hz hk => ⟨4, (hR.trans (by simp only [f_X0_log, hw1, hw5, hw10, if_neg c20])), rfl, ⟨Nat.le_trans hS.1 hz, fun q h1 h2 => (hk q (Nat.lt_of_lt_of_le h1 hS.1)).trans (hS.2.1 q h1 h2)⟩⟩) hS.2.2 (Nat.le_of_ble_eq_true rfl) (Nat.le_of_ble_eq_true rfl)

def f_X0_digits (S : pS) (p0 : Int32) (p1 : Int32) : Except Nat Int32 := (match f_X0_checkSlot p1 with | .error k => .error k | .ok _ => (match f_X0_checkDigitBase p0 with | .error k => .error k | .ok _ => (match f_X0_checkNear S p1 with | .error k => .error k | .ok _ => (.ok (f_X0_countDigits p0 (f_X0_nearSize S p1))))))
set_option maxHeartbeats 4000000 in
set_option maxRecDepth 100000 in
theorem met_X0_digits (l : Launch) (hfl : l.stackTraces = false) (D : va_G) (cI cJ : ClassId) (ad : Nat → Nat) (S : pS) (p0 : Int32) (p1 : Int32) : vx_Met l yX0_digits wsX0_digits ({ frames := 8, cells := 3, slots := 18, locals := 126 } : Room) (va_Pc [.ref (ad 0), .int p0, .int p1] (fun U => b0R D cI cJ ad S U ∧ xE (fun _ => False) U U.heap)) (va_Qi (fun (r : Int32) (u : Unit) => f_X0_digits S p0 p1 = .ok r) (fun _ _ => True) (fun _ => False)) (vx_X (fun k : Nat => f_X0_digits S p0 p1 = .error k) (fun E k _ => E = exN k) (fun _ => False)) 3 18 (fun _ => False) := by
  refine vx_ofW (cc := cX0_digits) (maxL := 3) (ret := (some .int)) (by decide) rfl ?_
  intro p e s m args below meth c s₁ B hml hno hv
  obtain ⟨rfl, ⟨hP, hK⟩, hE⟩ := hv
  have hx := B.exec
  have hb := B.bytes
  have hr := B.returns
  have hts := atoms_spec (ws := wsX0_digits) B.pre
  have hown : s.vm.findClass RX0 = some m.cls := findClass_of_methodNamed B.named
  have hlocks := B.notSynchronized
  have hS : va_S (fun _ => False) s.heap s.heap [] := va_S.rf
  have hl := lv_entry ([.ref (ad 0), .int p0, .int p1]) (n := 3) (Nat.le_of_ble_eq_true rfl)
  rw [lg_entry_eq]
  generalize (lg_sl ([.ref (ad 0), .int p0, .int p1]) ++ List.replicate (3 - (lg_sl ([.ref (ad 0), .int p0, .int p1])).length) Slot.unset).toArray = ls at hl ⊢
  have hl : lv_has ls 3 [(0, .ref (ad 0)), (1, .int p0), (2, .int p1)] := hl
  obtain ⟨Q, hQ⟩ : ∃ Q : State → Prop, Q = (vx_MQ below (va_Qi (fun (r : Int32) (u : Unit) => f_X0_digits S p0 p1 = .ok r) (fun _ _ => True) (fun _ => False)) (vx_X (fun k : Nat => f_X0_digits S p0 p1 = .error k) (fun E k _ => E = exN k) (fun _ => False)) ([.ref (ad 0), .int p0, .int p1] : List Value).toArray s 3 18 (fun _ => False)) := ⟨_, rfl⟩
  rw [← hQ]
  have hR : f_X0_digits S p0 p1 = f_X0_digits S p0 p1 := rfl
  refine lv_iload_n hx hb dX0_digits_0 rfl (lv_at hl 2 rfl) ?_
  refine vx_callv (vx_runS (As := [.int p1]) (rest := []) ⟨hx, hb, hml, hown, hts⟩ (met_X0_checkSlot l hfl p1) (va_cwS 1 hts gX0_digits_X0_checkSlot rfl rfl rfl (by decide +kernel) ⟨Nat.le_of_ble_eq_true rfl, Nat.le_of_ble_eq_true rfl⟩) ⟨fun a U g mk q => ⟨q.1, xE_calling q.2⟩, fun U hU hW => ⟨rfl, xE_at hE hS hU hW⟩⟩ rfl rfl hl.1 rfl (lv_room (Nat.le_of_ble_eq_true rfl)) dX0_digits_1 ⟨Nat.le_of_ble_eq_true rfl, Nat.le_of_ble_eq_true rfl⟩) hS (fun q _ h => h.elim) (fun q h => h.elim) (fun q _ h => h.elim) (fun E ce q9 k1 t H locs ht hvm hw1 hB hz hk hS hc9 hv9 hf9 => ?_) (fun u1 t H locs ht hvm hw1 hB hz hk hS => ?_)
  · skip
    rw [hQ]
    exact vx_out (fun x hx => (hno x hx).elim) hlocks hc9 hv9 hf9 (fun t9 ht9 hvm9 => ⟨k1, (hR.trans (by simp only [f_X0_digits, hw1])), hB, hS.F ht9⟩) hS.2.2 (Nat.le_of_ble_eq_true rfl) (Nat.le_of_ble_eq_true rfl)
  · skip
    have hP := hP.kept (fun k q hk9 => hk _ (vx_lt hP hk9) (fun h => h))
    have hi1 : vp_in p1 8 := slot_in hw1
    refine lv_iload_n hx hb dX0_digits_4 rfl (lv_at hl 1 rfl) ?_
    refine vx_callv (vx_runS (As := [.int p0]) (rest := []) ⟨hx, hb, hml, hown, hts⟩ (met_X0_checkDigitBase l hfl p0) (va_cwS 1 hts gX0_digits_X0_checkDigitBase rfl rfl rfl (by decide +kernel) ⟨Nat.le_of_ble_eq_true rfl, Nat.le_of_ble_eq_true rfl⟩) ⟨fun a U g mk q => ⟨q.1, xE_calling q.2⟩, fun U hU hW => ⟨rfl, xE_at hE hS hU hW⟩⟩ rfl rfl hl.1 rfl (lv_room (Nat.le_of_ble_eq_true rfl)) dX0_digits_5 ⟨Nat.le_of_ble_eq_true rfl, Nat.le_of_ble_eq_true rfl⟩) hS (fun q _ h => h.elim) (fun q h => h.elim) (fun q _ h => h.elim) (fun E ce q9 k5 t H locs ht hvm hw5 hB hz hk hS hc9 hv9 hf9 => ?_) (fun u5 t H locs ht hvm hw5 hB hz hk hS => ?_)
    · skip
      rw [hQ]
      exact vx_out (fun x hx => (hno x hx).elim) hlocks hc9 hv9 hf9 (fun t9 ht9 hvm9 => ⟨k5, (hR.trans (by simp only [f_X0_digits, hw1, hw5])), hB, hS.F ht9⟩) hS.2.2 (Nat.le_of_ble_eq_true rfl) (Nat.le_of_ble_eq_true rfl)
    · skip
      have hP := hP.kept (fun k q hk9 => hk _ (vx_lt hP hk9) (fun h => h))
      have hz5 : ¬ ((p0 : Int32).toInt64) = 0 := digitBase_nz hw5
      refine lv_aload_n hx hb dX0_digits_8 rfl (lv_at hl 0 rfl) ?_
      refine lv_iload_n hx hb dX0_digits_9 rfl (lv_at hl 2 rfl) ?_
      refine vx_callv (vx_runV (As := [.int p1]) (rest := []) ⟨hx, hb, hml, hown, hts⟩ (met_X0_checkNear l hfl D cI cJ ad S p1 (hi1)) (cwV 1 hts gX0_digits_X0_checkNear rfl rfl rfl (by decide +kernel) ⟨Nat.le_of_ble_eq_true rfl, Nat.le_of_ble_eq_true rfl⟩) ⟨fun a U g mk q => ⟨q.1, b0R_calling q.2.1, xE_calling q.2.2⟩, va_recv hK hP (ci := 0) (q0 := 0) rfl rfl, fun U hU hW => ⟨rfl, b0R_at hP hK hU hW, xE_at hE hS hU hW⟩⟩ rfl rfl hl.1 rfl (lv_room (Nat.le_of_ble_eq_true rfl)) dX0_digits_10 ⟨Nat.le_of_ble_eq_true rfl, Nat.le_of_ble_eq_true rfl⟩) hS (fun q _ h => h.elim) (fun q h => h.elim) (fun q _ h => h.elim) (fun E ce q9 k10 t H locs ht hvm hw10 hB hz hk hS hc9 hv9 hf9 => ?_) (fun u10 t H locs ht hvm hw10 hB hz hk hS => ?_)
      · skip
        rw [hQ]
        exact vx_out (fun x hx => (hno x hx).elim) hlocks hc9 hv9 hf9 (fun t9 ht9 hvm9 => ⟨k10, (hR.trans (by simp only [f_X0_digits, hw1, hw5, hw10])), hB, hS.F ht9⟩) hS.2.2 (Nat.le_of_ble_eq_true rfl) (Nat.le_of_ble_eq_true rfl)
      · skip
        have hP := hP.kept (fun k q hk9 => hk _ (vx_lt hP hk9) (fun h => h))
        refine lv_iload_n hx hb dX0_digits_13 rfl (lv_at hl 1 rfl) ?_
        refine lv_aload_n hx hb dX0_digits_14 rfl (lv_at hl 0 rfl) ?_
        refine lv_iload_n hx hb dX0_digits_15 rfl (lv_at hl 2 rfl) ?_
        refine va_calll (va_runV (As := [.int p1]) (rest := [.int p0]) ⟨hx, hb, hml, hown, hts⟩ (met_X0_nearSize l D cI cJ ad S p1 (hi1)) (cwV 1 hts gX0_digits_X0_nearSize rfl rfl rfl (by decide +kernel) ⟨Nat.le_of_ble_eq_true rfl, Nat.le_of_ble_eq_true rfl⟩) ⟨fun a U g mk q => ⟨q.1, b0R_calling q.2⟩, va_recv hK hP (ci := 0) (q0 := 0) rfl rfl, fun U hU hW => ⟨rfl, b0R_at hP hK hU hW⟩⟩ rfl rfl hl.1 rfl (lv_room (Nat.le_of_ble_eq_true rfl)) dX0_digits_16 ⟨Nat.le_of_ble_eq_true rfl, Nat.le_of_ble_eq_true rfl⟩) hS (fun q _ h => h.elim) (fun q h => h.elim) (fun r16 u16 t H locs ht hvm hw16 hB hz hk hS => ?_)
        subst hw16
        have hP := hP.kept (fun k q hk9 => hk _ (vx_lt hP hk9) (fun h => h))
        refine va_calli (va_runS (As := [.int p0, .long (f_X0_nearSize S p1)]) (rest := []) ⟨hx, hb, hml, hown, hts⟩ (met_X0_countDigits l p0 (f_X0_nearSize S p1) (hz5)) (va_cwS 2 hts gX0_digits_X0_countDigits rfl rfl rfl (by decide +kernel) ⟨Nat.le_of_ble_eq_true rfl, Nat.le_of_ble_eq_true rfl⟩) ⟨fun a U g mk q => q, fun U hU hW => ⟨rfl, trivial⟩⟩ rfl rfl hl.1 rfl (lv_room (Nat.le_of_ble_eq_true rfl)) dX0_digits_19 ⟨Nat.le_of_ble_eq_true rfl, Nat.le_of_ble_eq_true rfl⟩) hS (fun q _ h => h.elim) (fun q h => h.elim) (fun r19 u19 t H locs ht hvm hw19 hB hz hk hS => ?_)
        subst hw19
        have hP := hP.kept (fun k q hk9 => hk _ (vx_lt hP hk9) (fun h => h))
        rw [hQ]
        refine vx_ret ?_
        exact W.iret (v := (f_X0_countDigits p0 (f_X0_nearSize S p1))) hx hb hr (fun t ht hW => ⟨⟨(f_X0_countDigits p0 (f_X0_nearSize S p1)), (), rfl, (hR.trans (by simp only [f_X0_digits, hw1, hw5, hw10])), trivial⟩, hS.F ht⟩) hS.2.2 dX0_digits_22

def g_X0_digit_63 (p0 : Int32) (v37_4 : Int64) : Except Nat Int32 := (.ok (((v37_4 - v37_4 / ((p0 : Int32).toInt64) * ((p0 : Int32).toInt64)) : Int64).toInt32))
def g_X0_digit_37 (p0 : Int32) (p2 : Int32) : Nat → Int64 → Int32 → (Except Nat Int32)
  | 0, _, _ => .ok 0
  | n + 1, v37_4, v37_6 => (if (p2 : Int32) ≤ v37_6 then (g_X0_digit_63 p0 v37_4) else (if (v37_4 : Int64) ≤ 0 then (g_X0_digit_63 p0 v37_4) else (g_X0_digit_37 p0 p2 n (v37_4 / ((p0 : Int32).toInt64)) (v37_6 + 1))))
def f_X0_digit (S : pS) (p0 : Int32) (p1 : Int32) (p2 : Int32) : Except Nat Int32 := (match f_X0_checkSlot p1 with | .error k => .error k | .ok _ => (match f_X0_checkDigitBase p0 with | .error k => .error k | .ok _ => (if (0 : Int32) ≤ p2 then (match f_X0_checkNear S p1 with | .error k => .error k | .ok _ => (g_X0_digit_37 p0 p2 (((p2 : Int32).toInt - (0 : Int32).toInt).toNat + 1) (f_X0_nearSize S p1) 0)) else (.error 2))))
set_option maxHeartbeats 4000000 in
set_option maxRecDepth 100000 in
theorem met_X0_digit (l : Launch) (hfl : l.stackTraces = false) (D : va_G) (cI cJ : ClassId) (ad : Nat → Nat) (S : pS) (p0 : Int32) (p1 : Int32) (p2 : Int32) : vx_Met l yX0_digit wsX0_digit ({ frames := 8, cells := 4, slots := 24, locals := 126 } : Room) (va_Pc [.ref (ad 0), .int p0, .int p1, .int p2] (fun U => b0R D cI cJ ad S U ∧ xE (fun _ => False) U U.heap)) (va_Qi (fun (r : Int32) (u : Unit) => f_X0_digit S p0 p1 p2 = .ok r) (fun _ _ => True) (fun _ => False)) (vx_X (fun k : Nat => f_X0_digit S p0 p1 p2 = .error k) (fun E k _ => E = exN k) (fun _ => False)) 4 24 (fun _ => False) := by
  refine vx_ofW (cc := cX0_digit) (maxL := 7) (ret := (some .int)) (by decide) rfl ?_
  intro p e s m args below meth c s₁ B hml hno hv
  obtain ⟨rfl, ⟨hP, hK⟩, hE⟩ := hv
  have hx := B.exec
  have hb := B.bytes
  have hr := B.returns
  have hts := atoms_spec (ws := wsX0_digit) B.pre
  have hown : s.vm.findClass RX0 = some m.cls := findClass_of_methodNamed B.named
  have hlocks := B.notSynchronized
  have hS : va_S (fun _ => False) s.heap s.heap [] := va_S.rf
  have hl := lv_entry ([.ref (ad 0), .int p0, .int p1, .int p2]) (n := 7) (Nat.le_of_ble_eq_true rfl)
  rw [lg_entry_eq]
  generalize (lg_sl ([.ref (ad 0), .int p0, .int p1, .int p2]) ++ List.replicate (7 - (lg_sl ([.ref (ad 0), .int p0, .int p1, .int p2])).length) Slot.unset).toArray = ls at hl ⊢
  have hl : lv_has ls 7 [(0, .ref (ad 0)), (1, .int p0), (2, .int p1), (3, .int p2)] := hl
  obtain ⟨Q, hQ⟩ : ∃ Q : State → Prop, Q = (vx_MQ below (va_Qi (fun (r : Int32) (u : Unit) => f_X0_digit S p0 p1 p2 = .ok r) (fun _ _ => True) (fun _ => False)) (vx_X (fun k : Nat => f_X0_digit S p0 p1 p2 = .error k) (fun E k _ => E = exN k) (fun _ => False)) ([.ref (ad 0), .int p0, .int p1, .int p2] : List Value).toArray s 4 24 (fun _ => False)) := ⟨_, rfl⟩
  rw [← hQ]
  have hR : f_X0_digit S p0 p1 p2 = f_X0_digit S p0 p1 p2 := rfl
  refine lv_iload_n hx hb dX0_digit_0 rfl (lv_at hl 2 rfl) ?_
  refine vx_callv (vx_runS (As := [.int p1]) (rest := []) ⟨hx, hb, hml, hown, hts⟩ (met_X0_checkSlot l hfl p1) (va_cwS 1 hts gX0_digit_X0_checkSlot rfl rfl rfl (by decide +kernel) ⟨Nat.le_of_ble_eq_true rfl, Nat.le_of_ble_eq_true rfl⟩) ⟨fun a U g mk q => ⟨q.1, xE_calling q.2⟩, fun U hU hW => ⟨rfl, xE_at hE hS hU hW⟩⟩ rfl rfl hl.1 rfl (lv_room (Nat.le_of_ble_eq_true rfl)) dX0_digit_1 ⟨Nat.le_of_ble_eq_true rfl, Nat.le_of_ble_eq_true rfl⟩) hS (fun q _ h => h.elim) (fun q h => h.elim) (fun q _ h => h.elim) (fun E ce q9 k1 t H locs ht hvm hw1 hB hz hk hS hc9 hv9 hf9 => ?_) (fun u1 t H locs ht hvm hw1 hB hz hk hS => ?_)
  · skip
    rw [hQ]
    exact vx_out (fun x hx => (hno x hx).elim) hlocks hc9 hv9 hf9 (fun t9 ht9 hvm9 => ⟨k1, (hR.trans (by simp only [f_X0_digit, hw1])), hB, hS.F ht9⟩) hS.2.2 (Nat.le_of_ble_eq_true rfl) (Nat.le_of_ble_eq_true rfl)
  · skip
    have hP := hP.kept (fun k q hk9 => hk _ (vx_lt hP hk9) (fun h => h))
    have hi1 : vp_in p1 8 := slot_in hw1
    refine lv_iload_n hx hb dX0_digit_4 rfl (lv_at hl 1 rfl) ?_
    refine vx_callv (vx_runS (As := [.int p0]) (rest := []) ⟨hx, hb, hml, hown, hts⟩ (met_X0_checkDigitBase l hfl p0) (va_cwS 1 hts gX0_digit_X0_checkDigitBase rfl rfl rfl (by decide +kernel) ⟨Nat.le_of_ble_eq_true rfl, Nat.le_of_ble_eq_true rfl⟩) ⟨fun a U g mk q => ⟨q.1, xE_calling q.2⟩, fun U hU hW => ⟨rfl, xE_at hE hS hU hW⟩⟩ rfl rfl hl.1 rfl (lv_room (Nat.le_of_ble_eq_true rfl)) dX0_digit_5 ⟨Nat.le_of_ble_eq_true rfl, Nat.le_of_ble_eq_true rfl⟩) hS (fun q _ h => h.elim) (fun q h => h.elim) (fun q _ h => h.elim) (fun E ce q9 k5 t H locs ht hvm hw5 hB hz hk hS hc9 hv9 hf9 => ?_) (fun u5 t H locs ht hvm hw5 hB hz hk hS => ?_)
    · skip
      rw [hQ]
      exact vx_out (fun x hx => (hno x hx).elim) hlocks hc9 hv9 hf9 (fun t9 ht9 hvm9 => ⟨k5, (hR.trans (by simp only [f_X0_digit, hw1, hw5])), hB, hS.F ht9⟩) hS.2.2 (Nat.le_of_ble_eq_true rfl) (Nat.le_of_ble_eq_true rfl)
    · skip
      have hP := hP.kept (fun k q hk9 => hk _ (vx_lt hP hk9) (fun h => h))
      have hz5 : ¬ ((p0 : Int32).toInt64) = 0 := digitBase_nz hw5
      refine lv_iload_n hx hb dX0_digit_8 rfl (lv_at hl 3 rfl) ?_
      refine lv_if_ge (tgt := 22) hx hb dX0_digit_9 (by decide) (fun c9 => ?_) (fun c9 => ?_)
      · skip
        refine lv_aload_n hx hb dX0_digit_22 rfl (lv_at hl 0 rfl) ?_
        refine lv_iload_n hx hb dX0_digit_23 rfl (lv_at hl 2 rfl) ?_
        refine vx_callv (vx_runV (As := [.int p1]) (rest := []) ⟨hx, hb, hml, hown, hts⟩ (met_X0_checkNear l hfl D cI cJ ad S p1 (hi1)) (cwV 1 hts gX0_digit_X0_checkNear rfl rfl rfl (by decide +kernel) ⟨Nat.le_of_ble_eq_true rfl, Nat.le_of_ble_eq_true rfl⟩) ⟨fun a U g mk q => ⟨q.1, b0R_calling q.2.1, xE_calling q.2.2⟩, va_recv hK hP (ci := 0) (q0 := 0) rfl rfl, fun U hU hW => ⟨rfl, b0R_at hP hK hU hW, xE_at hE hS hU hW⟩⟩ rfl rfl hl.1 rfl (lv_room (Nat.le_of_ble_eq_true rfl)) dX0_digit_24 ⟨Nat.le_of_ble_eq_true rfl, Nat.le_of_ble_eq_true rfl⟩) hS (fun q _ h => h.elim) (fun q h => h.elim) (fun q _ h => h.elim) (fun E ce q9 k24 t H locs ht hvm hw24 hB hz hk hS hc9 hv9 hf9 => ?_) (fun u24 t H locs ht hvm hw24 hB hz hk hS => ?_)
        · skip
          rw [hQ]
          exact vx_out (fun x hx => (hno x hx).elim) hlocks hc9 hv9 hf9 (fun t9 ht9 hvm9 => ⟨k24, (hR.trans (by simp only [f_X0_digit, hw1, hw5, if_pos c9, hw24])), hB, hS.F ht9⟩) hS.2.2 (Nat.le_of_ble_eq_true rfl) (Nat.le_of_ble_eq_true rfl)
        · skip
          have hP := hP.kept (fun k q hk9 => hk _ (vx_lt hP hk9) (fun h => h))
          refine lv_aload_n hx hb dX0_digit_27 rfl (lv_at hl 0 rfl) ?_
          refine lv_iload_n hx hb dX0_digit_28 rfl (lv_at hl 2 rfl) ?_
          refine va_calll (va_runV (As := [.int p1]) (rest := []) ⟨hx, hb, hml, hown, hts⟩ (met_X0_nearSize l D cI cJ ad S p1 (hi1)) (cwV 1 hts gX0_digit_X0_nearSize rfl rfl rfl (by decide +kernel) ⟨Nat.le_of_ble_eq_true rfl, Nat.le_of_ble_eq_true rfl⟩) ⟨fun a U g mk q => ⟨q.1, b0R_calling q.2⟩, va_recv hK hP (ci := 0) (q0 := 0) rfl rfl, fun U hU hW => ⟨rfl, b0R_at hP hK hU hW⟩⟩ rfl rfl hl.1 rfl (lv_room (Nat.le_of_ble_eq_true rfl)) dX0_digit_29 ⟨Nat.le_of_ble_eq_true rfl, Nat.le_of_ble_eq_true rfl⟩) hS (fun q _ h => h.elim) (fun q h => h.elim) (fun r29 u29 t H locs ht hvm hw29 hB hz hk hS => ?_)
          subst hw29
          have hP := hP.kept (fun k q hk9 => hk _ (vx_lt hP hk9) (fun h => h))
          refine lv_lstore (lv' := [(4, .long (f_X0_nearSize S p1)), (0, .ref (ad 0)), (1, .int p0), (2, .int p1), (3, .int p2)]) hx hb dX0_digit_32 hl (by decide) rfl (fun ls hl => ?_)
          refine lv_iconst (v := 0) hx hb dX0_digit_34 (by decide) ?_
          refine lv_istore (lv' := [(6, .int 0), (4, .long (f_X0_nearSize S p1)), (0, .ref (ad 0)), (1, .int p0), (2, .int p1), (3, .int p2)]) hx hb dX0_digit_35 hl (by decide) rfl (fun ls hl => ?_)
          have J37 : ∀ (n37 : Nat) (v37_4 : Int64) (v37_6 : Int32) (ls : Array Slot) (H : Heap) (locs : List Loc), lv_has ls 7 [(0, .ref (ad 0)), (1, .int p0), (2, .int p1), (3, .int p2), (4, .long v37_4), (6, .int v37_6)] → va_S (fun _ => False) s.heap H locs → va_P D pCl (pmW cI cJ ad S) H → f_X0_digit S p0 p1 p2 = g_X0_digit_37 p0 p2 n37 v37_4 v37_6 → ((p2 : Int32).toInt - v37_6.toInt).toNat < n37 → W p l e (headSpec wsX0_digit ({ frames := 8, cells := 4, slots := 24, locals := 126 } : Room)).room s m ([.ref (ad 0), .int p0, .int p1, .int p2] : List Value).toArray below meth c H locs 3 18 Q (F0 m 37 ls []) := by
            intro n37
            induction n37 with
            | zero => intro v37_4 v37_6 ls H locs hl hS hP hR hmu37; exact absurd hmu37 (Nat.not_lt_zero _)
            | succ n37 ih37 =>
              intro v37_4 v37_6 ls H locs hl hS hP hR hmu37
              refine lv_iload hx hb dX0_digit_37 (lv_at hl 5 rfl) ?_
              refine lv_iload_n hx hb dX0_digit_39 rfl (lv_at hl 3 rfl) ?_
              have J63 : ∀ (ls : Array Slot) (H : Heap) (locs : List Loc), lv_has ls 7 [(0, .ref (ad 0)), (1, .int p0), (2, .int p1), (3, .int p2), (4, .long v37_4), (6, .int v37_6)] → va_S (fun _ => False) s.heap H locs → va_P D pCl (pmW cI cJ ad S) H → f_X0_digit S p0 p1 p2 = g_X0_digit_63 p0 v37_4 → W p l e (headSpec wsX0_digit ({ frames := 8, cells := 4, slots := 24, locals := 126 } : Room)).room s m ([.ref (ad 0), .int p0, .int p1, .int p2] : List Value).toArray below meth c H locs 3 18 Q (F0 m 63 ls []) := by
                intro ls H locs hl hS hP hR
                refine lv_lload hx hb dX0_digit_63 (lv_at hl 4 rfl) ?_
                refine lv_iload_n hx hb dX0_digit_65 rfl (lv_at hl 1 rfl) ?_
                refine lv_i2l hx hb dX0_digit_66 rfl ?_
                refine lv_lrem hx hb dX0_digit_67 (hz5) ?_
                refine lv_l2i hx hb dX0_digit_68 rfl ?_
                refine W.widen (k := 4) (n := 24) (Nat.le_of_ble_eq_true rfl) (Nat.le_of_ble_eq_true rfl) ?_
                rw [hQ]
                refine vx_ret ?_
                exact W.iret (v := (((v37_4 - v37_4 / ((p0 : Int32).toInt64) * ((p0 : Int32).toInt64)) : Int64).toInt32)) hx hb hr (fun t ht hW => ⟨⟨(((v37_4 - v37_4 / ((p0 : Int32).toInt64) * ((p0 : Int32).toInt64)) : Int64).toInt32), (), rfl, (hR.trans (by simp only [g_X0_digit_63])), trivial⟩, hS.F ht⟩) hS.2.2 dX0_digit_69
              refine lv_icmp_ge (tgt := 63) hx hb dX0_digit_40 (by decide) (fun c40 => ?_) (fun c40 => ?_)
              · skip
                exact J63 ls _ _ (lv_sub hl [0, 1, 2, 3, 4, 5] rfl) hS hP (hR.trans (by simp only [g_X0_digit_37, if_pos c40]))
              · skip
                refine lv_lload hx hb dX0_digit_43 (lv_at hl 4 rfl) ?_
                refine lv_lconst (v := 0) hx hb dX0_digit_45 rfl ?_
                refine W.lcmp hx hb dX0_digit_46 ?_
                refine lv_if_le (tgt := 63) hx hb dX0_digit_47 (by decide) (fun c46 => ?_) (fun c46 => ?_)
                · skip
                  have c46 : (v37_4 : Int64) ≤ 0 := (lg_cmp_le _ _).mp c46
                  exact J63 ls _ _ (lv_sub hl [0, 1, 2, 3, 4, 5] rfl) hS hP (hR.trans (by simp only [g_X0_digit_37, if_neg c40, if_pos c46]))
                · skip
                  have c46 : ¬ ((v37_4 : Int64) ≤ 0) := fun h => c46 ((lg_cmp_le _ _).mpr h)
                  refine lv_lload hx hb dX0_digit_50 (lv_at hl 4 rfl) ?_
                  refine lv_iload_n hx hb dX0_digit_52 rfl (lv_at hl 1 rfl) ?_
                  refine lv_i2l hx hb dX0_digit_53 rfl ?_
                  refine lv_ldiv hx hb dX0_digit_54 (hz5) ?_
                  refine lv_lstore (lv' := [(4, .long (v37_4 / ((p0 : Int32).toInt64))), (0, .ref (ad 0)), (1, .int p0), (2, .int p1), (3, .int p2), (6, .int v37_6)]) hx hb dX0_digit_55 hl (by decide) rfl (fun ls hl => ?_)
                  refine lv_iinc (v := (v37_6 + 1)) (lv' := [(6, .int (v37_6 + 1)), (4, .long (v37_4 / ((p0 : Int32).toInt64))), (0, .ref (ad 0)), (1, .int p0), (2, .int p1), (3, .int p2)]) hx hb dX0_digit_57 hl (k := 5) rfl (by rfl) (by decide) rfl (fun ls hl => ?_)
                  refine lv_goto (tgt := 37) hx hb dX0_digit_60 (by decide) ?_
                  exact ih37 (v37_4 / ((p0 : Int32).toInt64)) (v37_6 + 1) ls _ _ (lv_sub hl [2, 3, 4, 5, 1, 0] rfl) hS hP (hR.trans (by simp only [g_X0_digit_37, if_neg c40, if_neg c46])) (mu_up c40 hmu37)
          exact J37 (((p2 : Int32).toInt - (0 : Int32).toInt).toNat + 1) (f_X0_nearSize S p1) 0 ls _ _ (lv_sub hl [2, 3, 4, 5, 1, 0] rfl) hS hP (hR.trans (by simp only [f_X0_digit, hw1, hw5, if_pos c9, hw24])) (Nat.lt_succ_self _)
      · skip
        obtain ⟨sa, hstr⟩ := hE.2.2.1 (129, "the place is below 0") (by decide +kernel)
        rw [hQ]
        exact vx_throwS hx hb hfl (own := RX0) (cls := "java/lang/IllegalArgumentException") (text := "the place is below 0") (names := ["java/lang/RuntimeException", "java/lang/Exception"]) (ik := 127) (is := 129) (ic := 131) hown (by decide +kernel) (by decide +kernel) (hts _ (by decide +kernel)) (hts _ (by decide +kernel)) hstr (vx_hat (fun w h => hts w ((by decide +kernel : ∀ w ∈ (vx_atS RX0 131 "java/lang/IllegalArgumentException" ["java/lang/RuntimeException", "java/lang/Exception"]).filter goodWord, w ∈ wsX0_digit) w h)) (by decide +kernel) (vx_c (va_Nw.use rfl (hE.2.2.2.1 "java/lang/IllegalArgumentException" (by decide +kernel))) (vx_c (va_Nw.use rfl (hE.2.2.2.2 "java/lang/RuntimeException" (by decide +kernel))) (vx_c (va_Nw.use rfl (hE.2.2.2.2 "java/lang/Exception" (by decide +kernel))) (vx_c (va_Nw.use rfl (hE.2.2.2.2 "java/lang/Throwable" (by decide +kernel))) vx_n))))) (by decide +kernel) hE.1 hE.2.1 hS (by rw [hml]; exact hl.1) dX0_digit_12 dX0_digit_15 dX0_digit_16 dX0_digit_18 dX0_digit_21 (fun x hx => (hno x hx).elim) (Nat.le_of_ble_eq_true rfl) (Nat.le_of_ble_eq_true rfl) (Nat.le_of_ble_eq_true rfl) (Nat.le_of_ble_eq_true rfl) hlocks (fun t hvm hz hk => ⟨2, (hR.trans (by simp only [f_X0_digit, hw1, hw5, if_neg c9])), rfl, ⟨Nat.le_trans hS.1 hz, fun q h1 h2 => (hk q (Nat.lt_of_lt_of_le h1 hS.1)).trans (hS.2.1 q h1 h2)⟩⟩) hS.2.2 (Nat.le_of_ble_eq_true rfl) (Nat.le_of_ble_eq_true rfl)

def g_X0_root_44 (S : pS) (p0 : Int32) (p1 : Int32) : Nat → Int32 → (Except Nat Int32)
  | 0, _ => .ok 0
  | n + 1, v44_5 => (if (64 : Int32) ≤ v44_5 then (.ok v44_5) else (if ((f_X0_powerUpTo (((v44_5 + 1) : Int32).toInt64) p0 (f_X0_nearSize S p1)) : Int64) = (-1) then (.ok v44_5) else (g_X0_root_44 S p0 p1 n (v44_5 + 1))))
def f_X0_root (S : pS) (p0 : Int32) (p1 : Int32) : Except Nat Int32 := (match f_X0_checkSlot p1 with | .error k => .error k | .ok _ => (match f_X0_checkRange p0 1 53 with | .error k => .error k | .ok _ => (match f_X0_checkNear S p1 with | .error k => .error k | .ok _ => (if (0 : Int32) ≤ ((sgS S) p1.toNatClampNeg) then (g_X0_root_44 S p0 p1 (((64 : Int32).toInt - (0 : Int32).toInt).toNat + 1) 0) else (.error 4)))))
set_option maxHeartbeats 4000000 in
set_option maxRecDepth 100000 in
theorem met_X0_root (l : Launch) (hfl : l.stackTraces = false) (D : va_G) (cI cJ : ClassId) (ad : Nat → Nat) (S : pS) (p0 : Int32) (p1 : Int32) : vx_Met l yX0_root wsX0_root ({ frames := 7, cells := 4, slots := 24, locals := 106 } : Room) (va_Pc [.ref (ad 0), .int p0, .int p1] (fun U => b0R D cI cJ ad S U ∧ xE (fun _ => False) U U.heap)) (va_Qi (fun (r : Int32) (u : Unit) => f_X0_root S p0 p1 = .ok r) (fun _ _ => True) (fun _ => False)) (vx_X (fun k : Nat => f_X0_root S p0 p1 = .error k) (fun E k _ => E = exN k) (fun _ => False)) 4 24 (fun _ => False) := by
  refine vx_ofW (cc := cX0_root) (maxL := 6) (ret := (some .int)) (by decide) rfl ?_
  intro p e s m args below meth c s₁ B hml hno hv
  obtain ⟨rfl, ⟨hP, hK⟩, hE⟩ := hv
  have hx := B.exec
  have hb := B.bytes
  have hr := B.returns
  have hts := atoms_spec (ws := wsX0_root) B.pre
  have hown : s.vm.findClass RX0 = some m.cls := findClass_of_methodNamed B.named
  have hlocks := B.notSynchronized
  have hS : va_S (fun _ => False) s.heap s.heap [] := va_S.rf
  have hin : ∀ w ∈ wsX00, w ∈ wsX0_root := by decide +kernel
  have hf9 := hts (.fieldLink RX0 9 "Powermill" "signs" "[I") (by decide +kernel)
  have hl := lv_entry ([.ref (ad 0), .int p0, .int p1]) (n := 6) (Nat.le_of_ble_eq_true rfl)
  rw [lg_entry_eq]
  generalize (lg_sl ([.ref (ad 0), .int p0, .int p1]) ++ List.replicate (6 - (lg_sl ([.ref (ad 0), .int p0, .int p1])).length) Slot.unset).toArray = ls at hl ⊢
  have hl : lv_has ls 6 [(0, .ref (ad 0)), (1, .int p0), (2, .int p1)] := hl
  obtain ⟨Q, hQ⟩ : ∃ Q : State → Prop, Q = (vx_MQ below (va_Qi (fun (r : Int32) (u : Unit) => f_X0_root S p0 p1 = .ok r) (fun _ _ => True) (fun _ => False)) (vx_X (fun k : Nat => f_X0_root S p0 p1 = .error k) (fun E k _ => E = exN k) (fun _ => False)) ([.ref (ad 0), .int p0, .int p1] : List Value).toArray s 4 24 (fun _ => False)) := ⟨_, rfl⟩
  rw [← hQ]
  have hR : f_X0_root S p0 p1 = f_X0_root S p0 p1 := rfl
  refine lv_iload_n hx hb dX0_root_0 rfl (lv_at hl 2 rfl) ?_
  refine vx_callv (vx_runS (As := [.int p1]) (rest := []) ⟨hx, hb, hml, hown, hts⟩ (met_X0_checkSlot l hfl p1) (va_cwS 1 hts gX0_root_X0_checkSlot rfl rfl rfl (by decide +kernel) ⟨Nat.le_of_ble_eq_true rfl, Nat.le_of_ble_eq_true rfl⟩) ⟨fun a U g mk q => ⟨q.1, xE_calling q.2⟩, fun U hU hW => ⟨rfl, xE_at hE hS hU hW⟩⟩ rfl rfl hl.1 rfl (lv_room (Nat.le_of_ble_eq_true rfl)) dX0_root_1 ⟨Nat.le_of_ble_eq_true rfl, Nat.le_of_ble_eq_true rfl⟩) hS (fun q _ h => h.elim) (fun q h => h.elim) (fun q _ h => h.elim) (fun E ce q9 k1 t H locs ht hvm hw1 hB hz hk hS hc9 hv9 hf9 => ?_) (fun u1 t H locs ht hvm hw1 hB hz hk hS => ?_)
  · skip
    rw [hQ]
    exact vx_out (fun x hx => (hno x hx).elim) hlocks hc9 hv9 hf9 (fun t9 ht9 hvm9 => ⟨k1, (hR.trans (by simp only [f_X0_root, hw1])), hB, hS.F ht9⟩) hS.2.2 (Nat.le_of_ble_eq_true rfl) (Nat.le_of_ble_eq_true rfl)
  · skip
    have hP := hP.kept (fun k q hk9 => hk _ (vx_lt hP hk9) (fun h => h))
    have hi1 : vp_in p1 8 := slot_in hw1
    refine lv_iload_n hx hb dX0_root_4 rfl (lv_at hl 1 rfl) ?_
    refine lv_iconst (v := 1) hx hb dX0_root_5 (by decide) ?_
    refine lv_bipush (v := 53) hx hb dX0_root_6 (by decide) ?_
    refine vx_callv (vx_runS (As := [.int p0, .int 1, .int 53]) (rest := []) ⟨hx, hb, hml, hown, hts⟩ (met_X0_checkRange l hfl p0 1 53) (va_cwS 3 hts gX0_root_X0_checkRange rfl rfl rfl (by decide +kernel) ⟨Nat.le_of_ble_eq_true rfl, Nat.le_of_ble_eq_true rfl⟩) ⟨fun a U g mk q => ⟨q.1, xE_calling q.2⟩, fun U hU hW => ⟨rfl, xE_at hE hS hU hW⟩⟩ rfl rfl hl.1 rfl (lv_room (Nat.le_of_ble_eq_true rfl)) dX0_root_8 ⟨Nat.le_of_ble_eq_true rfl, Nat.le_of_ble_eq_true rfl⟩) hS (fun q _ h => h.elim) (fun q h => h.elim) (fun q _ h => h.elim) (fun E ce q9 k8 t H locs ht hvm hw8 hB hz hk hS hc9 hv9 hf9 => ?_) (fun u8 t H locs ht hvm hw8 hB hz hk hS => ?_)
    · skip
      rw [hQ]
      exact vx_out (fun x hx => (hno x hx).elim) hlocks hc9 hv9 hf9 (fun t9 ht9 hvm9 => ⟨k8, (hR.trans (by simp only [f_X0_root, hw1, hw8])), hB, hS.F ht9⟩) hS.2.2 (Nat.le_of_ble_eq_true rfl) (Nat.le_of_ble_eq_true rfl)
    · skip
      have hP := hP.kept (fun k q hk9 => hk _ (vx_lt hP hk9) (fun h => h))
      have hz8 : ¬ ((p0 : Int32).toInt64) = 0 := range1_nz hw8
      refine lv_aload_n hx hb dX0_root_11 rfl (lv_at hl 0 rfl) ?_
      refine lv_iload_n hx hb dX0_root_12 rfl (lv_at hl 2 rfl) ?_
      refine vx_callv (vx_runV (As := [.int p1]) (rest := []) ⟨hx, hb, hml, hown, hts⟩ (met_X0_checkNear l hfl D cI cJ ad S p1 (hi1)) (cwV 1 hts gX0_root_X0_checkNear rfl rfl rfl (by decide +kernel) ⟨Nat.le_of_ble_eq_true rfl, Nat.le_of_ble_eq_true rfl⟩) ⟨fun a U g mk q => ⟨q.1, b0R_calling q.2.1, xE_calling q.2.2⟩, va_recv hK hP (ci := 0) (q0 := 0) rfl rfl, fun U hU hW => ⟨rfl, b0R_at hP hK hU hW, xE_at hE hS hU hW⟩⟩ rfl rfl hl.1 rfl (lv_room (Nat.le_of_ble_eq_true rfl)) dX0_root_13 ⟨Nat.le_of_ble_eq_true rfl, Nat.le_of_ble_eq_true rfl⟩) hS (fun q _ h => h.elim) (fun q h => h.elim) (fun q _ h => h.elim) (fun E ce q9 k13 t H locs ht hvm hw13 hB hz hk hS hc9 hv9 hf9 => ?_) (fun u13 t H locs ht hvm hw13 hB hz hk hS => ?_)
      · skip
        rw [hQ]
        exact vx_out (fun x hx => (hno x hx).elim) hlocks hc9 hv9 hf9 (fun t9 ht9 hvm9 => ⟨k13, (hR.trans (by simp only [f_X0_root, hw1, hw8, hw13])), hB, hS.F ht9⟩) hS.2.2 (Nat.le_of_ble_eq_true rfl) (Nat.le_of_ble_eq_true rfl)
      · skip
        have hP := hP.kept (fun k q hk9 => hk _ (vx_lt hP hk9) (fun h => h))
        refine lv_aload_n hx hb dX0_root_16 rfl (lv_at hl 0 rfl) ?_
        refine va_get (D := D) (ci := 0) (v := .ref (ad 1)) (C := RX0) (T := TX0) (N := 9) hx hb hts hin hown hK hP 0 rfl rfl 0 (by decide) hf9 (fun _ h9 => h9) rfl dX0_root_17 ?_
        refine lv_iload_n hx hb dX0_root_20 rfl (lv_at hl 2 rfl) ?_
        refine va_iald hx hb hK hP 1 0 rfl rfl hi1 dX0_root_21 ?_
        refine lv_if_ge (tgt := 35) hx hb dX0_root_22 (by decide) (fun c22 => ?_) (fun c22 => ?_)
        · skip
          refine lv_aload_n hx hb dX0_root_35 rfl (lv_at hl 0 rfl) ?_
          refine lv_iload_n hx hb dX0_root_36 rfl (lv_at hl 2 rfl) ?_
          refine va_calll (va_runV (As := [.int p1]) (rest := []) ⟨hx, hb, hml, hown, hts⟩ (met_X0_nearSize l D cI cJ ad S p1 (hi1)) (cwV 1 hts gX0_root_X0_nearSize rfl rfl rfl (by decide +kernel) ⟨Nat.le_of_ble_eq_true rfl, Nat.le_of_ble_eq_true rfl⟩) ⟨fun a U g mk q => ⟨q.1, b0R_calling q.2⟩, va_recv hK hP (ci := 0) (q0 := 0) rfl rfl, fun U hU hW => ⟨rfl, b0R_at hP hK hU hW⟩⟩ rfl rfl hl.1 rfl (lv_room (Nat.le_of_ble_eq_true rfl)) dX0_root_37 ⟨Nat.le_of_ble_eq_true rfl, Nat.le_of_ble_eq_true rfl⟩) hS (fun q _ h => h.elim) (fun q h => h.elim) (fun r37 u37 t H locs ht hvm hw37 hB hz hk hS => ?_)
          subst hw37
          have hP := hP.kept (fun k q hk9 => hk _ (vx_lt hP hk9) (fun h => h))
          refine lv_lstore_n (lv' := [(3, .long (f_X0_nearSize S p1)), (0, .ref (ad 0)), (1, .int p0), (2, .int p1)]) hx hb dX0_root_40 rfl hl (by decide) rfl (fun ls hl => ?_)
          refine lv_iconst (v := 0) hx hb dX0_root_41 (by decide) ?_
          refine lv_istore (lv' := [(5, .int 0), (3, .long (f_X0_nearSize S p1)), (0, .ref (ad 0)), (1, .int p0), (2, .int p1)]) hx hb dX0_root_42 hl (by decide) rfl (fun ls hl => ?_)
          have J44 : ∀ (n44 : Nat) (v44_5 : Int32) (ls : Array Slot) (H : Heap) (locs : List Loc), lv_has ls 6 [(0, .ref (ad 0)), (1, .int p0), (2, .int p1), (3, .long (f_X0_nearSize S p1)), (5, .int v44_5)] → va_S (fun _ => False) s.heap H locs → va_P D pCl (pmW cI cJ ad S) H → f_X0_root S p0 p1 = g_X0_root_44 S p0 p1 n44 v44_5 → ((64 : Int32).toInt - v44_5.toInt).toNat < n44 → W p l e (headSpec wsX0_root ({ frames := 7, cells := 4, slots := 24, locals := 106 } : Room)).room s m ([.ref (ad 0), .int p0, .int p1] : List Value).toArray below meth c H locs 3 18 Q (F0 m 44 ls []) := by
            intro n44
            induction n44 with
            | zero => intro v44_5 ls H locs hl hS hP hR hmu44; exact absurd hmu44 (Nat.not_lt_zero _)
            | succ n44 ih44 =>
              intro v44_5 ls H locs hl hS hP hR hmu44
              refine lv_iload hx hb dX0_root_44 (lv_at hl 4 rfl) ?_
              refine lv_bipush (v := 64) hx hb dX0_root_46 (by decide) ?_
              refine lv_icmp_ge (tgt := 74) hx hb dX0_root_48 (by decide) (fun c48 => ?_) (fun c48 => ?_)
              · skip
                refine lv_iload hx hb dX0_root_74 (lv_at hl 4 rfl) ?_
                refine W.widen (k := 4) (n := 24) (Nat.le_of_ble_eq_true rfl) (Nat.le_of_ble_eq_true rfl) ?_
                rw [hQ]
                refine vx_ret ?_
                exact W.iret (v := v44_5) hx hb hr (fun t ht hW => ⟨⟨v44_5, (), rfl, (hR.trans (by simp only [g_X0_root_44, if_pos c48])), trivial⟩, hS.F ht⟩) hS.2.2 dX0_root_76
              · skip
                refine lv_iload hx hb dX0_root_51 (lv_at hl 4 rfl) ?_
                refine lv_iconst (v := 1) hx hb dX0_root_53 (by decide) ?_
                refine lv_iadd hx hb dX0_root_54 ?_
                refine lv_i2l hx hb dX0_root_55 rfl ?_
                refine lv_iload_n hx hb dX0_root_56 rfl (lv_at hl 1 rfl) ?_
                refine lv_lload_n hx hb dX0_root_57 rfl (lv_at hl 3 rfl) ?_
                refine va_calll (va_runS (As := [.long (((v44_5 + 1) : Int32).toInt64), .int p0, .long (f_X0_nearSize S p1)]) (rest := []) ⟨hx, hb, hml, hown, hts⟩ (met_X0_powerUpTo l (((v44_5 + 1) : Int32).toInt64) p0 (f_X0_nearSize S p1)) (va_cwS 3 hts gX0_root_X0_powerUpTo rfl rfl rfl (by decide +kernel) ⟨Nat.le_of_ble_eq_true rfl, Nat.le_of_ble_eq_true rfl⟩) ⟨fun a U g mk q => q, fun U hU hW => ⟨rfl, trivial⟩⟩ rfl rfl hl.1 rfl (lv_room (Nat.le_of_ble_eq_true rfl)) dX0_root_58 ⟨Nat.le_of_ble_eq_true rfl, Nat.le_of_ble_eq_true rfl⟩) hS (fun q _ h => h.elim) (fun q h => h.elim) (fun r58 u58 t H locs ht hvm hw58 hB hz hk hS => ?_)
                subst hw58
                have hP := hP.kept (fun k q hk9 => hk _ (vx_lt hP hk9) (fun h => h))
                refine lv_ldc2 (v := (-1)) hx hb hown (hts (.constantLong RX0 138 (-1)) (by decide +kernel)) dX0_root_61 ?_
                refine W.lcmp hx hb dX0_root_64 ?_
                refine lv_if_eq (tgt := 74) hx hb dX0_root_65 (by decide) (fun c64 => ?_) (fun c64 => ?_)
                · skip
                  have c64 : ((f_X0_powerUpTo (((v44_5 + 1) : Int32).toInt64) p0 (f_X0_nearSize S p1)) : Int64) = (-1) := (lg_cmp_eq _ _).mp c64
                  refine lv_iload hx hb dX0_root_74 (lv_at hl 4 rfl) ?_
                  refine W.widen (k := 4) (n := 24) (Nat.le_of_ble_eq_true rfl) (Nat.le_of_ble_eq_true rfl) ?_
                  rw [hQ]
                  refine vx_ret ?_
                  exact W.iret (v := v44_5) hx hb hr (fun t ht hW => ⟨⟨v44_5, (), rfl, (hR.trans (by simp only [g_X0_root_44, if_neg c48, if_pos c64])), trivial⟩, hS.F ht⟩) hS.2.2 dX0_root_76
                · skip
                  have c64 : ¬ (((f_X0_powerUpTo (((v44_5 + 1) : Int32).toInt64) p0 (f_X0_nearSize S p1)) : Int64) = (-1)) := fun h => c64 ((lg_cmp_eq _ _).mpr h)
                  refine lv_iinc (v := (v44_5 + 1)) (lv' := [(5, .int (v44_5 + 1)), (0, .ref (ad 0)), (1, .int p0), (2, .int p1), (3, .long (f_X0_nearSize S p1))]) hx hb dX0_root_68 hl (k := 4) rfl (by rfl) (by decide) rfl (fun ls hl => ?_)
                  refine lv_goto (tgt := 44) hx hb dX0_root_71 (by decide) ?_
                  exact ih44 (v44_5 + 1) ls _ _ (lv_sub hl [1, 2, 3, 4, 0] rfl) hS hP (hR.trans (by simp only [g_X0_root_44, if_neg c48, if_neg c64])) (mu_up c48 hmu44)
          exact J44 (((64 : Int32).toInt - (0 : Int32).toInt).toNat + 1) 0 ls _ _ (lv_sub hl [2, 3, 4, 1, 0] rfl) hS hP (hR.trans (by simp only [f_X0_root, hw1, hw8, hw13, if_pos c22])) (Nat.lt_succ_self _)
        · skip
          obtain ⟨sa, hstr⟩ := hE.2.2.1 (132, "the number is below 0") (by decide +kernel)
          rw [hQ]
          exact vx_throwS hx hb hfl (own := RX0) (cls := "java/lang/ArithmeticException") (text := "the number is below 0") (names := ["java/lang/RuntimeException", "java/lang/Exception"]) (ik := 84) (is := 132) (ic := 88) hown (by decide +kernel) (by decide +kernel) (hts _ (by decide +kernel)) (hts _ (by decide +kernel)) hstr (vx_hat (fun w h => hts w ((by decide +kernel : ∀ w ∈ (vx_atS RX0 88 "java/lang/ArithmeticException" ["java/lang/RuntimeException", "java/lang/Exception"]).filter goodWord, w ∈ wsX0_root) w h)) (by decide +kernel) (vx_c (va_Nw.use rfl (hE.2.2.2.1 "java/lang/ArithmeticException" (by decide +kernel))) (vx_c (va_Nw.use rfl (hE.2.2.2.2 "java/lang/RuntimeException" (by decide +kernel))) (vx_c (va_Nw.use rfl (hE.2.2.2.2 "java/lang/Exception" (by decide +kernel))) (vx_c (va_Nw.use rfl (hE.2.2.2.2 "java/lang/Throwable" (by decide +kernel))) vx_n))))) (by decide +kernel) hE.1 hE.2.1 hS (by rw [hml]; exact hl.1) dX0_root_25 dX0_root_28 dX0_root_29 dX0_root_31 dX0_root_34 (fun x hx => (hno x hx).elim) (Nat.le_of_ble_eq_true rfl) (Nat.le_of_ble_eq_true rfl) (Nat.le_of_ble_eq_true rfl) (Nat.le_of_ble_eq_true rfl) hlocks (fun t hvm hz hk => ⟨4, (hR.trans (by simp only [f_X0_root, hw1, hw8, hw13, if_neg c22])), rfl, ⟨Nat.le_trans hS.1 hz, fun q h1 h2 => (hk q (Nat.lt_of_lt_of_le h1 hS.1)).trans (hS.2.1 q h1 h2)⟩⟩) hS.2.2 (Nat.le_of_ble_eq_true rfl) (Nat.le_of_ble_eq_true rfl)

def g_X0_sum_15 (p0 : Int32) (p1 : Int32) : Nat → Int64 → Int32 → (Except Nat Int64)
  | 0, _, _ => .ok 0
  | n + 1, v15_3, v15_5 => (if (p1 : Int32) ≤ v15_5 then (.ok v15_3) else (g_X0_sum_15 p0 p1 n ((v15_3 * ((p0 : Int32).toInt64)) + 1) (v15_5 + 1)))
def f_X0_sum (S : pS) (p0 : Int32) (p1 : Int32) : Except Nat Int64 := (match f_X0_checkBaseAndExponent p0 p1 with | .error k => .error k | .ok _ => (match f_X0_checkPowerNear p0 p1 with | .error k => .error k | .ok _ => (g_X0_sum_15 p0 p1 (((p1 : Int32).toInt - (0 : Int32).toInt).toNat + 1) 0 0)))
set_option maxHeartbeats 4000000 in
set_option maxRecDepth 100000 in
theorem met_X0_sum (l : Launch) (hfl : l.stackTraces = false) (D : va_G) (cI cJ : ClassId) (ad : Nat → Nat) (S : pS) (p0 : Int32) (p1 : Int32) : vx_Met l yX0_sum wsX0_sum ({ frames := 8, cells := 3, slots := 18, locals := 127 } : Room) (va_Pc [.ref (ad 0), .int p0, .int p1] (fun U => b0R D cI cJ ad S U ∧ xE (fun _ => False) U U.heap)) (va_Ql (fun (r : Int64) (u : Unit) => f_X0_sum S p0 p1 = .ok r) (fun _ _ => True) (fun _ => False)) (vx_X (fun k : Nat => f_X0_sum S p0 p1 = .error k) (fun E k _ => E = exN k) (fun _ => False)) 3 18 (fun _ => False) := by
  refine vx_ofW (cc := cX0_sum) (maxL := 6) (ret := (some .long)) (by decide) rfl ?_
  intro p e s m args below meth c s₁ B hml hno hv
  obtain ⟨rfl, ⟨hP, hK⟩, hE⟩ := hv
  have hx := B.exec
  have hb := B.bytes
  have hr := B.returns
  have hts := atoms_spec (ws := wsX0_sum) B.pre
  have hown : s.vm.findClass RX0 = some m.cls := findClass_of_methodNamed B.named
  have hlocks := B.notSynchronized
  have hS : va_S (fun _ => False) s.heap s.heap [] := va_S.rf
  have hl := lv_entry ([.ref (ad 0), .int p0, .int p1]) (n := 6) (Nat.le_of_ble_eq_true rfl)
  rw [lg_entry_eq]
  generalize (lg_sl ([.ref (ad 0), .int p0, .int p1]) ++ List.replicate (6 - (lg_sl ([.ref (ad 0), .int p0, .int p1])).length) Slot.unset).toArray = ls at hl ⊢
  have hl : lv_has ls 6 [(0, .ref (ad 0)), (1, .int p0), (2, .int p1)] := hl
  obtain ⟨Q, hQ⟩ : ∃ Q : State → Prop, Q = (vx_MQ below (va_Ql (fun (r : Int64) (u : Unit) => f_X0_sum S p0 p1 = .ok r) (fun _ _ => True) (fun _ => False)) (vx_X (fun k : Nat => f_X0_sum S p0 p1 = .error k) (fun E k _ => E = exN k) (fun _ => False)) ([.ref (ad 0), .int p0, .int p1] : List Value).toArray s 3 18 (fun _ => False)) := ⟨_, rfl⟩
  rw [← hQ]
  have hR : f_X0_sum S p0 p1 = f_X0_sum S p0 p1 := rfl
  refine lv_iload_n hx hb dX0_sum_0 rfl (lv_at hl 1 rfl) ?_
  refine lv_iload_n hx hb dX0_sum_1 rfl (lv_at hl 2 rfl) ?_
  refine vx_callv (vx_runS (As := [.int p0, .int p1]) (rest := []) ⟨hx, hb, hml, hown, hts⟩ (met_X0_checkBaseAndExponent l hfl p0 p1) (va_cwS 2 hts gX0_sum_X0_checkBaseAndExponent rfl rfl rfl (by decide +kernel) ⟨Nat.le_of_ble_eq_true rfl, Nat.le_of_ble_eq_true rfl⟩) ⟨fun a U g mk q => ⟨q.1, xE_calling q.2⟩, fun U hU hW => ⟨rfl, xE_at hE hS hU hW⟩⟩ rfl rfl hl.1 rfl (lv_room (Nat.le_of_ble_eq_true rfl)) dX0_sum_2 ⟨Nat.le_of_ble_eq_true rfl, Nat.le_of_ble_eq_true rfl⟩) hS (fun q _ h => h.elim) (fun q h => h.elim) (fun q _ h => h.elim) (fun E ce q9 k2 t H locs ht hvm hw2 hB hz hk hS hc9 hv9 hf9 => ?_) (fun u2 t H locs ht hvm hw2 hB hz hk hS => ?_)
  · skip
    rw [hQ]
    exact vx_out (fun x hx => (hno x hx).elim) hlocks hc9 hv9 hf9 (fun t9 ht9 hvm9 => ⟨k2, (hR.trans (by simp only [f_X0_sum, hw2])), hB, hS.F ht9⟩) hS.2.2 (Nat.le_of_ble_eq_true rfl) (Nat.le_of_ble_eq_true rfl)
  · skip
    have hP := hP.kept (fun k q hk9 => hk _ (vx_lt hP hk9) (fun h => h))
    refine lv_iload_n hx hb dX0_sum_5 rfl (lv_at hl 1 rfl) ?_
    refine lv_iload_n hx hb dX0_sum_6 rfl (lv_at hl 2 rfl) ?_
    refine vx_callv (vx_runS (As := [.int p0, .int p1]) (rest := []) ⟨hx, hb, hml, hown, hts⟩ (met_X0_checkPowerNear l hfl p0 p1) (va_cwS 2 hts gX0_sum_X0_checkPowerNear rfl rfl rfl (by decide +kernel) ⟨Nat.le_of_ble_eq_true rfl, Nat.le_of_ble_eq_true rfl⟩) ⟨fun a U g mk q => ⟨q.1, xE_calling q.2⟩, fun U hU hW => ⟨rfl, xE_at hE hS hU hW⟩⟩ rfl rfl hl.1 rfl (lv_room (Nat.le_of_ble_eq_true rfl)) dX0_sum_7 ⟨Nat.le_of_ble_eq_true rfl, Nat.le_of_ble_eq_true rfl⟩) hS (fun q _ h => h.elim) (fun q h => h.elim) (fun q _ h => h.elim) (fun E ce q9 k7 t H locs ht hvm hw7 hB hz hk hS hc9 hv9 hf9 => ?_) (fun u7 t H locs ht hvm hw7 hB hz hk hS => ?_)
    · skip
      rw [hQ]
      exact vx_out (fun x hx => (hno x hx).elim) hlocks hc9 hv9 hf9 (fun t9 ht9 hvm9 => ⟨k7, (hR.trans (by simp only [f_X0_sum, hw2, hw7])), hB, hS.F ht9⟩) hS.2.2 (Nat.le_of_ble_eq_true rfl) (Nat.le_of_ble_eq_true rfl)
    · skip
      have hP := hP.kept (fun k q hk9 => hk _ (vx_lt hP hk9) (fun h => h))
      refine lv_lconst (v := 0) hx hb dX0_sum_10 rfl ?_
      refine lv_lstore_n (lv' := [(3, .long 0), (0, .ref (ad 0)), (1, .int p0), (2, .int p1)]) hx hb dX0_sum_11 rfl hl (by decide) rfl (fun ls hl => ?_)
      refine lv_iconst (v := 0) hx hb dX0_sum_12 (by decide) ?_
      refine lv_istore (lv' := [(5, .int 0), (3, .long 0), (0, .ref (ad 0)), (1, .int p0), (2, .int p1)]) hx hb dX0_sum_13 hl (by decide) rfl (fun ls hl => ?_)
      have J15 : ∀ (n15 : Nat) (v15_3 : Int64) (v15_5 : Int32) (ls : Array Slot) (H : Heap) (locs : List Loc), lv_has ls 6 [(0, .ref (ad 0)), (1, .int p0), (2, .int p1), (3, .long v15_3), (5, .int v15_5)] → va_S (fun _ => False) s.heap H locs → va_P D pCl (pmW cI cJ ad S) H → f_X0_sum S p0 p1 = g_X0_sum_15 p0 p1 n15 v15_3 v15_5 → ((p1 : Int32).toInt - v15_5.toInt).toNat < n15 → W p l e (headSpec wsX0_sum ({ frames := 8, cells := 3, slots := 18, locals := 127 } : Room)).room s m ([.ref (ad 0), .int p0, .int p1] : List Value).toArray below meth c H locs 3 18 Q (F0 m 15 ls []) := by
        intro n15
        induction n15 with
        | zero => intro v15_3 v15_5 ls H locs hl hS hP hR hmu15; exact absurd hmu15 (Nat.not_lt_zero _)
        | succ n15 ih15 =>
          intro v15_3 v15_5 ls H locs hl hS hP hR hmu15
          refine lv_iload hx hb dX0_sum_15 (lv_at hl 4 rfl) ?_
          refine lv_iload_n hx hb dX0_sum_17 rfl (lv_at hl 2 rfl) ?_
          refine lv_icmp_ge (tgt := 34) hx hb dX0_sum_18 (by decide) (fun c18 => ?_) (fun c18 => ?_)
          · skip
            refine lv_lload_n hx hb dX0_sum_34 rfl (lv_at hl 3 rfl) ?_
            rw [hQ]
            refine vx_ret ?_
            exact W.lret (v := v15_3) hx hb hr (fun t ht hW => ⟨⟨v15_3, (), rfl, (hR.trans (by simp only [g_X0_sum_15, if_pos c18])), trivial⟩, hS.F ht⟩) hS.2.2 dX0_sum_35
          · skip
            refine lv_lload_n hx hb dX0_sum_21 rfl (lv_at hl 3 rfl) ?_
            refine lv_iload_n hx hb dX0_sum_22 rfl (lv_at hl 1 rfl) ?_
            refine lv_i2l hx hb dX0_sum_23 rfl ?_
            refine lv_lmul hx hb dX0_sum_24 ?_
            refine lv_lconst (v := 1) hx hb dX0_sum_25 rfl ?_
            refine lv_ladd hx hb dX0_sum_26 ?_
            refine lv_lstore_n (lv' := [(3, .long ((v15_3 * ((p0 : Int32).toInt64)) + 1)), (0, .ref (ad 0)), (1, .int p0), (2, .int p1), (5, .int v15_5)]) hx hb dX0_sum_27 rfl hl (by decide) rfl (fun ls hl => ?_)
            refine lv_iinc (v := (v15_5 + 1)) (lv' := [(5, .int (v15_5 + 1)), (3, .long ((v15_3 * ((p0 : Int32).toInt64)) + 1)), (0, .ref (ad 0)), (1, .int p0), (2, .int p1)]) hx hb dX0_sum_28 hl (k := 4) rfl (by rfl) (by decide) rfl (fun ls hl => ?_)
            refine lv_goto (tgt := 15) hx hb dX0_sum_31 (by decide) ?_
            exact ih15 ((v15_3 * ((p0 : Int32).toInt64)) + 1) (v15_5 + 1) ls _ _ (lv_sub hl [2, 3, 4, 1, 0] rfl) hS hP (hR.trans (by simp only [g_X0_sum_15, if_neg c18])) (mu_up c18 hmu15)
      exact J15 (((p1 : Int32).toInt - (0 : Int32).toInt).toNat + 1) 0 0 ls _ _ (lv_sub hl [2, 3, 4, 1, 0] rfl) hS hP (hR.trans (by simp only [f_X0_sum, hw2, hw7])) (Nat.lt_succ_self _)

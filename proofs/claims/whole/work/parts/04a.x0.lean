def g_X0_checkSlot_10 : Except Nat Unit := (.error 1)
def f_X0_checkSlot (p0 : Int32) : Except Nat Unit := (if (p0 : Int32) < 0 then (g_X0_checkSlot_10) else (if (p0 : Int32) < 8 then (.ok ()) else (g_X0_checkSlot_10)))
set_option maxHeartbeats 4000000 in
set_option maxRecDepth 100000 in
theorem met_X0_checkSlot (l : Launch) (hfl : l.stackTraces = false) (p0 : Int32) : vx_Met l yX0_checkSlot wsX0_checkSlot ({ frames := 6, cells := 1, slots := 6, locals := 84 } : Room) (va_Pc [.int p0] (fun U => xE (fun _ => False) U U.heap)) (va_Qv (fun (u : Unit) => f_X0_checkSlot p0 = .ok u) (fun _ _ => True) (fun _ => False)) (vx_X (fun k : Nat => f_X0_checkSlot p0 = .error k) (fun E k _ => E = exN k) (fun _ => False)) 1 6 (fun _ => False) := by
  refine vx_ofW (cc := cX0_checkSlot) (maxL := 1) (ret := none) (by decide) rfl ?_
  intro p e s m args below meth c s₁ B hml hno hv
  obtain ⟨rfl, hE⟩ := hv
  have hx := B.exec
  have hb := B.bytes
  have hr := B.returns
  have hts := atoms_spec (ws := wsX0_checkSlot) B.pre
  have hown : s.vm.findClass RX0 = some m.cls := findClass_of_methodNamed B.named
  have hlocks := B.notSynchronized
  have hS : va_S (fun _ => False) s.heap s.heap [] := va_S.rf
  have hl := lv_entry ([.int p0]) (n := 1) (Nat.le_of_ble_eq_true rfl)
  rw [lg_entry_eq]
  generalize (lg_sl ([.int p0]) ++ List.replicate (1 - (lg_sl ([.int p0])).length) Slot.unset).toArray = ls at hl ⊢
  have hl : lv_has ls 1 [(0, .int p0)] := hl
  obtain ⟨Q, hQ⟩ : ∃ Q : State → Prop, Q = (vx_MQ below (va_Qv (fun (u : Unit) => f_X0_checkSlot p0 = .ok u) (fun _ _ => True) (fun _ => False)) (vx_X (fun k : Nat => f_X0_checkSlot p0 = .error k) (fun E k _ => E = exN k) (fun _ => False)) ([.int p0] : List Value).toArray s 1 6 (fun _ => False)) := ⟨_, rfl⟩
  rw [← hQ]
  have hR : f_X0_checkSlot p0 = f_X0_checkSlot p0 := rfl
  refine lv_iload_n hx hb dX0_checkSlot_0 rfl (lv_at hl 0 rfl) ?_
  have J10 : ∀ (ls : Array Slot) (H : Heap) (locs : List Loc), lv_has ls 1 [(0, .int p0)] → va_S (fun _ => False) s.heap H locs → f_X0_checkSlot p0 = g_X0_checkSlot_10 → W p l e (headSpec wsX0_checkSlot ({ frames := 6, cells := 1, slots := 6, locals := 84 } : Room)).room s m ([.int p0] : List Value).toArray below meth c H locs 0 0 Q (F0 m 10 ls []) := by
    intro ls H locs hl hS hR
    obtain ⟨sa, hstr⟩ := hE.2.2.1 (196, "no such slot or place") (by decide +kernel)
    rw [hQ]
    exact vx_throwS hx hb hfl (own := RX0) (cls := "java/lang/IndexOutOfBoundsException") (text := "no such slot or place") (names := ["java/lang/RuntimeException", "java/lang/Exception"]) (ik := 194) (is := 196) (ic := 198) hown (by decide +kernel) (by decide +kernel) (hts _ (by decide +kernel)) (hts _ (by decide +kernel)) hstr (vx_hat (fun w h => hts w ((by decide +kernel : ∀ w ∈ (vx_atS RX0 198 "java/lang/IndexOutOfBoundsException" ["java/lang/RuntimeException", "java/lang/Exception"]).filter goodWord, w ∈ wsX0_checkSlot) w h)) (by decide +kernel) (vx_c (va_Nw.use rfl (hE.2.2.2.1 "java/lang/IndexOutOfBoundsException" (by decide +kernel))) (vx_c (va_Nw.use rfl (hE.2.2.2.2 "java/lang/RuntimeException" (by decide +kernel))) (vx_c (va_Nw.use rfl (hE.2.2.2.2 "java/lang/Exception" (by decide +kernel))) (vx_c (va_Nw.use rfl (hE.2.2.2.2 "java/lang/Throwable" (by decide +kernel))) vx_n))))) (by decide +kernel) hE.1 hE.2.1 hS (by rw [hml]; exact hl.1) dX0_checkSlot_10 dX0_checkSlot_13 dX0_checkSlot_14 dX0_checkSlot_16 dX0_checkSlot_19 (fun x hx => (hno x hx).elim) (Nat.le_of_ble_eq_true rfl) (Nat.le_of_ble_eq_true rfl) (Nat.le_of_ble_eq_true rfl) (Nat.le_of_ble_eq_true rfl) hlocks (fun t hvm hz hk => ⟨1, (hR.trans (by simp only [g_X0_checkSlot_10])), rfl, ⟨Nat.le_trans hS.1 hz, fun q h1 h2 => (hk q (Nat.lt_of_lt_of_le h1 hS.1)).trans (hS.2.1 q h1 h2)⟩⟩) hS.2.2 (Nat.le_of_ble_eq_true rfl) (Nat.le_of_ble_eq_true rfl)
  refine lv_if_lt (tgt := 10) hx hb dX0_checkSlot_1 (by decide) (fun c1 => ?_) (fun c1 => ?_)
  · skip
    exact J10 ls _ _ (lv_sub hl [0] rfl) hS (hR.trans (by simp only [f_X0_checkSlot, if_pos c1]))
  · skip
    refine lv_iload_n hx hb dX0_checkSlot_4 rfl (lv_at hl 0 rfl) ?_
    refine lv_bipush (v := 8) hx hb dX0_checkSlot_5 (by decide) ?_
    refine lv_icmp_lt (tgt := 20) hx hb dX0_checkSlot_7 (by decide) (fun c7 => ?_) (fun c7 => ?_)
    · skip
      refine W.widen (k := 1) (n := 6) (Nat.le_of_ble_eq_true rfl) (Nat.le_of_ble_eq_true rfl) ?_
      rw [hQ]
      refine vx_ret ?_
      exact W.vret hx hb hr (fun t ht hW => ⟨⟨(), rfl, (hR.trans (by simp only [f_X0_checkSlot, if_neg c1, if_pos c7])), trivial⟩, hS.F ht⟩) hS.2.2 dX0_checkSlot_20
    · skip
      exact J10 ls _ _ (lv_sub hl [0] rfl) hS (hR.trans (by simp only [f_X0_checkSlot, if_neg c1, if_neg c7]))

theorem slot_in {p : Int32} {u : Unit} (h : f_X0_checkSlot p = .ok u) : vp_in p 8 := by
  unfold f_X0_checkSlot g_X0_checkSlot_10 at h
  split at h
  · cases h
  · rename_i c1
    split at h
    · rename_i c2
      rw [fa_lt, i0] at c1
      rw [fa_lt, i8] at c2
      exact vp_in_iff.mpr ⟨by omega, by omega⟩
    · cases h

def g_X0_checkRange_10 : Except Nat Unit := (.error 2)
def f_X0_checkRange (p0 : Int32) (p1 : Int32) (p2 : Int32) : Except Nat Unit := (if (p0 : Int32) < p1 then (g_X0_checkRange_10) else (if (p0 : Int32) ≤ p2 then (.ok ()) else (g_X0_checkRange_10)))
set_option maxHeartbeats 4000000 in
set_option maxRecDepth 100000 in
theorem met_X0_checkRange (l : Launch) (hfl : l.stackTraces = false) (p0 : Int32) (p1 : Int32) (p2 : Int32) : vx_Met l yX0_checkRange wsX0_checkRange ({ frames := 6, cells := 1, slots := 6, locals := 84 } : Room) (va_Pc [.int p0, .int p1, .int p2] (fun U => xE (fun _ => False) U U.heap)) (va_Qv (fun (u : Unit) => f_X0_checkRange p0 p1 p2 = .ok u) (fun _ _ => True) (fun _ => False)) (vx_X (fun k : Nat => f_X0_checkRange p0 p1 p2 = .error k) (fun E k _ => E = exN k) (fun _ => False)) 1 6 (fun _ => False) := by
  refine vx_ofW (cc := cX0_checkRange) (maxL := 3) (ret := none) (by decide) rfl ?_
  intro p e s m args below meth c s₁ B hml hno hv
  obtain ⟨rfl, hE⟩ := hv
  have hx := B.exec
  have hb := B.bytes
  have hr := B.returns
  have hts := atoms_spec (ws := wsX0_checkRange) B.pre
  have hown : s.vm.findClass RX0 = some m.cls := findClass_of_methodNamed B.named
  have hlocks := B.notSynchronized
  have hS : va_S (fun _ => False) s.heap s.heap [] := va_S.rf
  have hl := lv_entry ([.int p0, .int p1, .int p2]) (n := 3) (Nat.le_of_ble_eq_true rfl)
  rw [lg_entry_eq]
  generalize (lg_sl ([.int p0, .int p1, .int p2]) ++ List.replicate (3 - (lg_sl ([.int p0, .int p1, .int p2])).length) Slot.unset).toArray = ls at hl ⊢
  have hl : lv_has ls 3 [(0, .int p0), (1, .int p1), (2, .int p2)] := hl
  obtain ⟨Q, hQ⟩ : ∃ Q : State → Prop, Q = (vx_MQ below (va_Qv (fun (u : Unit) => f_X0_checkRange p0 p1 p2 = .ok u) (fun _ _ => True) (fun _ => False)) (vx_X (fun k : Nat => f_X0_checkRange p0 p1 p2 = .error k) (fun E k _ => E = exN k) (fun _ => False)) ([.int p0, .int p1, .int p2] : List Value).toArray s 1 6 (fun _ => False)) := ⟨_, rfl⟩
  rw [← hQ]
  have hR : f_X0_checkRange p0 p1 p2 = f_X0_checkRange p0 p1 p2 := rfl
  refine lv_iload_n hx hb dX0_checkRange_0 rfl (lv_at hl 0 rfl) ?_
  refine lv_iload_n hx hb dX0_checkRange_1 rfl (lv_at hl 1 rfl) ?_
  have J10 : ∀ (ls : Array Slot) (H : Heap) (locs : List Loc), lv_has ls 3 [(0, .int p0), (1, .int p1), (2, .int p2)] → va_S (fun _ => False) s.heap H locs → f_X0_checkRange p0 p1 p2 = g_X0_checkRange_10 → W p l e (headSpec wsX0_checkRange ({ frames := 6, cells := 1, slots := 6, locals := 84 } : Room)).room s m ([.int p0, .int p1, .int p2] : List Value).toArray below meth c H locs 0 0 Q (F0 m 10 ls []) := by
    intro ls H locs hl hS hR
    obtain ⟨sa, hstr⟩ := hE.2.2.1 (199, "out of range") (by decide +kernel)
    rw [hQ]
    exact vx_throwS hx hb hfl (own := RX0) (cls := "java/lang/IllegalArgumentException") (text := "out of range") (names := ["java/lang/RuntimeException", "java/lang/Exception"]) (ik := 127) (is := 199) (ic := 131) hown (by decide +kernel) (by decide +kernel) (hts _ (by decide +kernel)) (hts _ (by decide +kernel)) hstr (vx_hat (fun w h => hts w ((by decide +kernel : ∀ w ∈ (vx_atS RX0 131 "java/lang/IllegalArgumentException" ["java/lang/RuntimeException", "java/lang/Exception"]).filter goodWord, w ∈ wsX0_checkRange) w h)) (by decide +kernel) (vx_c (va_Nw.use rfl (hE.2.2.2.1 "java/lang/IllegalArgumentException" (by decide +kernel))) (vx_c (va_Nw.use rfl (hE.2.2.2.2 "java/lang/RuntimeException" (by decide +kernel))) (vx_c (va_Nw.use rfl (hE.2.2.2.2 "java/lang/Exception" (by decide +kernel))) (vx_c (va_Nw.use rfl (hE.2.2.2.2 "java/lang/Throwable" (by decide +kernel))) vx_n))))) (by decide +kernel) hE.1 hE.2.1 hS (by rw [hml]; exact hl.1) dX0_checkRange_10 dX0_checkRange_13 dX0_checkRange_14 dX0_checkRange_16 dX0_checkRange_19 (fun x hx => (hno x hx).elim) (Nat.le_of_ble_eq_true rfl) (Nat.le_of_ble_eq_true rfl) (Nat.le_of_ble_eq_true rfl) (Nat.le_of_ble_eq_true rfl) hlocks (fun t hvm hz hk => ⟨2, (hR.trans (by simp only [g_X0_checkRange_10])), rfl, ⟨Nat.le_trans hS.1 hz, fun q h1 h2 => (hk q (Nat.lt_of_lt_of_le h1 hS.1)).trans (hS.2.1 q h1 h2)⟩⟩) hS.2.2 (Nat.le_of_ble_eq_true rfl) (Nat.le_of_ble_eq_true rfl)
  refine lv_icmp_lt (tgt := 10) hx hb dX0_checkRange_2 (by decide) (fun c2 => ?_) (fun c2 => ?_)
  · skip
    exact J10 ls _ _ (lv_sub hl [0, 1, 2] rfl) hS (hR.trans (by simp only [f_X0_checkRange, if_pos c2]))
  · skip
    refine lv_iload_n hx hb dX0_checkRange_5 rfl (lv_at hl 0 rfl) ?_
    refine lv_iload_n hx hb dX0_checkRange_6 rfl (lv_at hl 2 rfl) ?_
    refine lv_icmp_le (tgt := 20) hx hb dX0_checkRange_7 (by decide) (fun c7 => ?_) (fun c7 => ?_)
    · skip
      refine W.widen (k := 1) (n := 6) (Nat.le_of_ble_eq_true rfl) (Nat.le_of_ble_eq_true rfl) ?_
      rw [hQ]
      refine vx_ret ?_
      exact W.vret hx hb hr (fun t ht hW => ⟨⟨(), rfl, (hR.trans (by simp only [f_X0_checkRange, if_neg c2, if_pos c7])), trivial⟩, hS.F ht⟩) hS.2.2 dX0_checkRange_20
    · skip
      exact J10 ls _ _ (lv_sub hl [0, 1, 2] rfl) hS (hR.trans (by simp only [f_X0_checkRange, if_neg c2, if_neg c7]))

def f_X0_checkBaseAndExponent (p0 : Int32) (p1 : Int32) : Except Nat Unit := (match f_X0_checkRange p0 (-64) 64 with | .error k => .error k | .ok _ => (match f_X0_checkRange p1 0 64 with | .error k => .error k | .ok _ => (.ok ())))
set_option maxHeartbeats 4000000 in
set_option maxRecDepth 100000 in
theorem met_X0_checkBaseAndExponent (l : Launch) (hfl : l.stackTraces = false) (p0 : Int32) (p1 : Int32) : vx_Met l yX0_checkBaseAndExponent wsX0_checkBaseAndExponent ({ frames := 7, cells := 2, slots := 12, locals := 106 } : Room) (va_Pc [.int p0, .int p1] (fun U => xE (fun _ => False) U U.heap)) (va_Qv (fun (u : Unit) => f_X0_checkBaseAndExponent p0 p1 = .ok u) (fun _ _ => True) (fun _ => False)) (vx_X (fun k : Nat => f_X0_checkBaseAndExponent p0 p1 = .error k) (fun E k _ => E = exN k) (fun _ => False)) 2 12 (fun _ => False) := by
  refine vx_ofW (cc := cX0_checkBaseAndExponent) (maxL := 2) (ret := none) (by decide) rfl ?_
  intro p e s m args below meth c s₁ B hml hno hv
  obtain ⟨rfl, hE⟩ := hv
  have hx := B.exec
  have hb := B.bytes
  have hr := B.returns
  have hts := atoms_spec (ws := wsX0_checkBaseAndExponent) B.pre
  have hown : s.vm.findClass RX0 = some m.cls := findClass_of_methodNamed B.named
  have hlocks := B.notSynchronized
  have hS : va_S (fun _ => False) s.heap s.heap [] := va_S.rf
  have hl := lv_entry ([.int p0, .int p1]) (n := 2) (Nat.le_of_ble_eq_true rfl)
  rw [lg_entry_eq]
  generalize (lg_sl ([.int p0, .int p1]) ++ List.replicate (2 - (lg_sl ([.int p0, .int p1])).length) Slot.unset).toArray = ls at hl ⊢
  have hl : lv_has ls 2 [(0, .int p0), (1, .int p1)] := hl
  obtain ⟨Q, hQ⟩ : ∃ Q : State → Prop, Q = (vx_MQ below (va_Qv (fun (u : Unit) => f_X0_checkBaseAndExponent p0 p1 = .ok u) (fun _ _ => True) (fun _ => False)) (vx_X (fun k : Nat => f_X0_checkBaseAndExponent p0 p1 = .error k) (fun E k _ => E = exN k) (fun _ => False)) ([.int p0, .int p1] : List Value).toArray s 2 12 (fun _ => False)) := ⟨_, rfl⟩
  rw [← hQ]
  have hR : f_X0_checkBaseAndExponent p0 p1 = f_X0_checkBaseAndExponent p0 p1 := rfl
  refine lv_iload_n hx hb dX0_checkBaseAndExponent_0 rfl (lv_at hl 0 rfl) ?_
  refine lv_bipush (v := (-64)) hx hb dX0_checkBaseAndExponent_1 (by decide) ?_
  refine lv_bipush (v := 64) hx hb dX0_checkBaseAndExponent_3 (by decide) ?_
  refine vx_callv (vx_runS (As := [.int p0, .int (-64), .int 64]) (rest := []) ⟨hx, hb, hml, hown, hts⟩ (met_X0_checkRange l hfl p0 (-64) 64) (va_cwS 3 hts gX0_checkBaseAndExponent_X0_checkRange rfl rfl rfl (by decide +kernel) ⟨Nat.le_of_ble_eq_true rfl, Nat.le_of_ble_eq_true rfl⟩) ⟨fun a U g mk q => ⟨q.1, xE_calling q.2⟩, fun U hU hW => ⟨rfl, xE_at hE hS hU hW⟩⟩ rfl rfl hl.1 rfl (lv_room (Nat.le_of_ble_eq_true rfl)) dX0_checkBaseAndExponent_5 ⟨Nat.le_of_ble_eq_true rfl, Nat.le_of_ble_eq_true rfl⟩) hS (fun q _ h => h.elim) (fun q h => h.elim) (fun q _ h => h.elim) (fun E ce q9 k5 t H locs ht hvm hw5 hB hz hk hS hc9 hv9 hf9 => ?_) (fun u5 t H locs ht hvm hw5 hB hz hk hS => ?_)
  · skip
    rw [hQ]
    exact vx_out (fun x hx => (hno x hx).elim) hlocks hc9 hv9 hf9 (fun t9 ht9 hvm9 => ⟨k5, (hR.trans (by simp only [f_X0_checkBaseAndExponent, hw5])), hB, hS.F ht9⟩) hS.2.2 (Nat.le_of_ble_eq_true rfl) (Nat.le_of_ble_eq_true rfl)
  · skip
    refine lv_iload_n hx hb dX0_checkBaseAndExponent_8 rfl (lv_at hl 1 rfl) ?_
    refine lv_iconst (v := 0) hx hb dX0_checkBaseAndExponent_9 (by decide) ?_
    refine lv_bipush (v := 64) hx hb dX0_checkBaseAndExponent_10 (by decide) ?_
    refine vx_callv (vx_runS (As := [.int p1, .int 0, .int 64]) (rest := []) ⟨hx, hb, hml, hown, hts⟩ (met_X0_checkRange l hfl p1 0 64) (va_cwS 3 hts gX0_checkBaseAndExponent_X0_checkRange rfl rfl rfl (by decide +kernel) ⟨Nat.le_of_ble_eq_true rfl, Nat.le_of_ble_eq_true rfl⟩) ⟨fun a U g mk q => ⟨q.1, xE_calling q.2⟩, fun U hU hW => ⟨rfl, xE_at hE hS hU hW⟩⟩ rfl rfl hl.1 rfl (lv_room (Nat.le_of_ble_eq_true rfl)) dX0_checkBaseAndExponent_12 ⟨Nat.le_of_ble_eq_true rfl, Nat.le_of_ble_eq_true rfl⟩) hS (fun q _ h => h.elim) (fun q h => h.elim) (fun q _ h => h.elim) (fun E ce q9 k12 t H locs ht hvm hw12 hB hz hk hS hc9 hv9 hf9 => ?_) (fun u12 t H locs ht hvm hw12 hB hz hk hS => ?_)
    · skip
      rw [hQ]
      exact vx_out (fun x hx => (hno x hx).elim) hlocks hc9 hv9 hf9 (fun t9 ht9 hvm9 => ⟨k12, (hR.trans (by simp only [f_X0_checkBaseAndExponent, hw5, hw12])), hB, hS.F ht9⟩) hS.2.2 (Nat.le_of_ble_eq_true rfl) (Nat.le_of_ble_eq_true rfl)
    · skip
      rw [hQ]
      refine vx_ret ?_
      exact W.vret hx hb hr (fun t ht hW => ⟨⟨(), rfl, (hR.trans (by simp only [f_X0_checkBaseAndExponent, hw5, hw12])), trivial⟩, hS.F ht⟩) hS.2.2 dX0_checkBaseAndExponent_15

def f_X0_checkDigitBase (p0 : Int32) : Except Nat Unit := (match f_X0_checkRange p0 2 64 with | .error k => .error k | .ok _ => (.ok ()))
set_option maxHeartbeats 4000000 in
set_option maxRecDepth 100000 in
theorem met_X0_checkDigitBase (l : Launch) (hfl : l.stackTraces = false) (p0 : Int32) : vx_Met l yX0_checkDigitBase wsX0_checkDigitBase ({ frames := 7, cells := 1, slots := 6, locals := 106 } : Room) (va_Pc [.int p0] (fun U => xE (fun _ => False) U U.heap)) (va_Qv (fun (u : Unit) => f_X0_checkDigitBase p0 = .ok u) (fun _ _ => True) (fun _ => False)) (vx_X (fun k : Nat => f_X0_checkDigitBase p0 = .error k) (fun E k _ => E = exN k) (fun _ => False)) 1 6 (fun _ => False) := by
  refine vx_ofW (cc := cX0_checkDigitBase) (maxL := 1) (ret := none) (by decide) rfl ?_
  intro p e s m args below meth c s₁ B hml hno hv
  obtain ⟨rfl, hE⟩ := hv
  have hx := B.exec
  have hb := B.bytes
  have hr := B.returns
  have hts := atoms_spec (ws := wsX0_checkDigitBase) B.pre
  have hown : s.vm.findClass RX0 = some m.cls := findClass_of_methodNamed B.named
  have hlocks := B.notSynchronized
  have hS : va_S (fun _ => False) s.heap s.heap [] := va_S.rf
  have hl := lv_entry ([.int p0]) (n := 1) (Nat.le_of_ble_eq_true rfl)
  rw [lg_entry_eq]
  generalize (lg_sl ([.int p0]) ++ List.replicate (1 - (lg_sl ([.int p0])).length) Slot.unset).toArray = ls at hl ⊢
  have hl : lv_has ls 1 [(0, .int p0)] := hl
  obtain ⟨Q, hQ⟩ : ∃ Q : State → Prop, Q = (vx_MQ below (va_Qv (fun (u : Unit) => f_X0_checkDigitBase p0 = .ok u) (fun _ _ => True) (fun _ => False)) (vx_X (fun k : Nat => f_X0_checkDigitBase p0 = .error k) (fun E k _ => E = exN k) (fun _ => False)) ([.int p0] : List Value).toArray s 1 6 (fun _ => False)) := ⟨_, rfl⟩
  rw [← hQ]
  have hR : f_X0_checkDigitBase p0 = f_X0_checkDigitBase p0 := rfl
  refine lv_iload_n hx hb dX0_checkDigitBase_0 rfl (lv_at hl 0 rfl) ?_
  refine lv_iconst (v := 2) hx hb dX0_checkDigitBase_1 (by decide) ?_
  refine lv_bipush (v := 64) hx hb dX0_checkDigitBase_2 (by decide) ?_
  refine vx_callv (vx_runS (As := [.int p0, .int 2, .int 64]) (rest := []) ⟨hx, hb, hml, hown, hts⟩ (met_X0_checkRange l hfl p0 2 64) (va_cwS 3 hts gX0_checkDigitBase_X0_checkRange rfl rfl rfl (by decide +kernel) ⟨Nat.le_of_ble_eq_true rfl, Nat.le_of_ble_eq_true rfl⟩) ⟨fun a U g mk q => ⟨q.1, xE_calling q.2⟩, fun U hU hW => ⟨rfl, xE_at hE hS hU hW⟩⟩ rfl rfl hl.1 rfl (lv_room (Nat.le_of_ble_eq_true rfl)) dX0_checkDigitBase_4 ⟨Nat.le_of_ble_eq_true rfl, Nat.le_of_ble_eq_true rfl⟩) hS (fun q _ h => h.elim) (fun q h => h.elim) (fun q _ h => h.elim) (fun E ce q9 k4 t H locs ht hvm hw4 hB hz hk hS hc9 hv9 hf9 => ?_) (fun u4 t H locs ht hvm hw4 hB hz hk hS => ?_)
  · skip
    rw [hQ]
    exact vx_out (fun x hx => (hno x hx).elim) hlocks hc9 hv9 hf9 (fun t9 ht9 hvm9 => ⟨k4, (hR.trans (by simp only [f_X0_checkDigitBase, hw4])), hB, hS.F ht9⟩) hS.2.2 (Nat.le_of_ble_eq_true rfl) (Nat.le_of_ble_eq_true rfl)
  · skip
    rw [hQ]
    refine vx_ret ?_
    exact W.vret hx hb hr (fun t ht hW => ⟨⟨(), rfl, (hR.trans (by simp only [f_X0_checkDigitBase, hw4])), trivial⟩, hS.F ht⟩) hS.2.2 dX0_checkDigitBase_7

def f_X0_signOf (p0 : Int32) : Int32 := (if (p0 : Int32) = 0 then 0 else (if (0 : Int32) ≤ p0 then 1 else (-1)))
set_option maxHeartbeats 4000000 in
set_option maxRecDepth 100000 in
theorem met_X0_signOf (l : Launch) (p0 : Int32) : Met l yX0_signOf wsX0_signOf ({ frames := 0, cells := 0, slots := 0, locals := 0 } : Room) (va_Pc [.int p0] (fun U => True)) (va_Qi (fun (r : Int32) (u : Unit) => f_X0_signOf p0 = r) (fun _ _ => True) (fun _ => False)) 0 0 (fun _ => False) := by
  refine Met.ofW (cc := cX0_signOf) (maxL := 1) (ret := (some .int)) (by decide) rfl ?_
  intro p e s m args below meth c s₁ B hml hv
  obtain ⟨rfl, -⟩ := hv
  have hx := B.exec
  have hb := B.bytes
  have hr := B.returns
  have hts := atoms_spec (ws := wsX0_signOf) B.pre
  have hown : s.vm.findClass RX0 = some m.cls := findClass_of_methodNamed B.named
  have hlocks := B.notSynchronized
  have hS : va_S (fun _ => False) s.heap s.heap [] := va_S.rf
  have hl := lv_entry ([.int p0]) (n := 1) (Nat.le_of_ble_eq_true rfl)
  rw [lg_entry_eq]
  generalize (lg_sl ([.int p0]) ++ List.replicate (1 - (lg_sl ([.int p0])).length) Slot.unset).toArray = ls at hl ⊢
  have hl : lv_has ls 1 [(0, .int p0)] := hl
  obtain ⟨Q, hQ⟩ : ∃ Q : State → Prop, Q = (MQ below (va_Qi (fun (r : Int32) (u : Unit) => f_X0_signOf p0 = r) (fun _ _ => True) (fun _ => False)) ([.int p0] : List Value).toArray s 0 0 (fun _ => False)) := ⟨_, rfl⟩
  rw [← hQ]
  have hR : f_X0_signOf p0 = f_X0_signOf p0 := rfl
  refine lv_iload_n hx hb dX0_signOf_0 rfl (lv_at hl 0 rfl) ?_
  refine lv_if_ne (tgt := 6) hx hb dX0_signOf_1 (by decide) (fun c1 => ?_) (fun c1 => ?_)
  · skip
    refine lv_iload_n hx hb dX0_signOf_6 rfl (lv_at hl 0 rfl) ?_
    refine lv_if_ge (tgt := 14) hx hb dX0_signOf_7 (by decide) (fun c7 => ?_) (fun c7 => ?_)
    · skip
      refine lv_iconst (v := 1) hx hb dX0_signOf_14 (by decide) ?_
      rw [hQ]
      exact W.iret (v := 1) hx hb hr (fun t ht hW => ⟨⟨1, (), rfl, (hR.trans (by simp only [f_X0_signOf, if_neg c1, if_pos c7])), trivial⟩, hS.F ht⟩) hS.2.2 dX0_signOf_15
    · skip
      refine lv_iconst (v := (-1)) hx hb dX0_signOf_10 (by decide) ?_
      refine lv_goto (tgt := 15) hx hb dX0_signOf_11 (by decide) ?_
      rw [hQ]
      exact W.iret (v := (-1)) hx hb hr (fun t ht hW => ⟨⟨(-1), (), rfl, (hR.trans (by simp only [f_X0_signOf, if_neg c1, if_neg c7])), trivial⟩, hS.F ht⟩) hS.2.2 dX0_signOf_15
  · skip
    refine lv_iconst (v := 0) hx hb dX0_signOf_4 (by decide) ?_
    rw [hQ]
    exact W.iret (v := 0) hx hb hr (fun t ht hW => ⟨⟨0, (), rfl, (hR.trans (by simp only [f_X0_signOf, if_pos c1])), trivial⟩, hS.F ht⟩) hS.2.2 dX0_signOf_5

def f_X0_sizeOf (p0 : Int32) : Int64 := (if (0 : Int32) ≤ p0 then ((p0 : Int32).toInt64) else (-((p0 : Int32).toInt64)))
set_option maxHeartbeats 4000000 in
set_option maxRecDepth 100000 in
theorem met_X0_sizeOf (l : Launch) (p0 : Int32) : Met l yX0_sizeOf wsX0_sizeOf ({ frames := 0, cells := 0, slots := 0, locals := 0 } : Room) (va_Pc [.int p0] (fun U => True)) (va_Ql (fun (r : Int64) (u : Unit) => f_X0_sizeOf p0 = r) (fun _ _ => True) (fun _ => False)) 0 0 (fun _ => False) := by
  refine Met.ofW (cc := cX0_sizeOf) (maxL := 1) (ret := (some .long)) (by decide) rfl ?_
  intro p e s m args below meth c s₁ B hml hv
  obtain ⟨rfl, -⟩ := hv
  have hx := B.exec
  have hb := B.bytes
  have hr := B.returns
  have hts := atoms_spec (ws := wsX0_sizeOf) B.pre
  have hown : s.vm.findClass RX0 = some m.cls := findClass_of_methodNamed B.named
  have hlocks := B.notSynchronized
  have hS : va_S (fun _ => False) s.heap s.heap [] := va_S.rf
  have hl := lv_entry ([.int p0]) (n := 1) (Nat.le_of_ble_eq_true rfl)
  rw [lg_entry_eq]
  generalize (lg_sl ([.int p0]) ++ List.replicate (1 - (lg_sl ([.int p0])).length) Slot.unset).toArray = ls at hl ⊢
  have hl : lv_has ls 1 [(0, .int p0)] := hl
  obtain ⟨Q, hQ⟩ : ∃ Q : State → Prop, Q = (MQ below (va_Ql (fun (r : Int64) (u : Unit) => f_X0_sizeOf p0 = r) (fun _ _ => True) (fun _ => False)) ([.int p0] : List Value).toArray s 0 0 (fun _ => False)) := ⟨_, rfl⟩
  rw [← hQ]
  have hR : f_X0_sizeOf p0 = f_X0_sizeOf p0 := rfl
  refine lv_iload_n hx hb dX0_sizeOf_0 rfl (lv_at hl 0 rfl) ?_
  refine lv_if_ge (tgt := 10) hx hb dX0_sizeOf_1 (by decide) (fun c1 => ?_) (fun c1 => ?_)
  · skip
    refine lv_iload_n hx hb dX0_sizeOf_10 rfl (lv_at hl 0 rfl) ?_
    refine lv_i2l hx hb dX0_sizeOf_11 rfl ?_
    rw [hQ]
    exact W.lret (v := ((p0 : Int32).toInt64)) hx hb hr (fun t ht hW => ⟨⟨((p0 : Int32).toInt64), (), rfl, (hR.trans (by simp only [f_X0_sizeOf, if_pos c1])), trivial⟩, hS.F ht⟩) hS.2.2 dX0_sizeOf_12
  · skip
    refine lv_iload_n hx hb dX0_sizeOf_4 rfl (lv_at hl 0 rfl) ?_
    refine lv_i2l hx hb dX0_sizeOf_5 rfl ?_
    refine lv_lneg hx hb dX0_sizeOf_6 ?_
    refine lv_goto (tgt := 12) hx hb dX0_sizeOf_7 (by decide) ?_
    rw [hQ]
    exact W.lret (v := (-((p0 : Int32).toInt64))) hx hb hr (fun t ht hW => ⟨⟨(-((p0 : Int32).toInt64)), (), rfl, (hR.trans (by simp only [f_X0_sizeOf, if_neg c1])), trivial⟩, hS.F ht⟩) hS.2.2 dX0_sizeOf_12

def g_X0_shiftOf_8 (p0 : Int32) : Nat → Int32 → Int32
  | 0, _ => 0
  | n + 1, v8_1 => (if (31 : Int32) ≤ v8_1 then v8_1 else (if (((p0 >>> (v8_1 &&& 31)) &&& 1) : Int32) = 0 then (g_X0_shiftOf_8 p0 n (v8_1 + 1)) else v8_1))
def f_X0_shiftOf (p0 : Int32) : Int32 := (if (p0 : Int32) = 0 then 0 else (g_X0_shiftOf_8 p0 (((31 : Int32).toInt - (0 : Int32).toInt).toNat + 1) 0))
set_option maxHeartbeats 4000000 in
set_option maxRecDepth 100000 in
theorem met_X0_shiftOf (l : Launch) (p0 : Int32) : Met l yX0_shiftOf wsX0_shiftOf ({ frames := 0, cells := 0, slots := 0, locals := 0 } : Room) (va_Pc [.int p0] (fun U => True)) (va_Qi (fun (r : Int32) (u : Unit) => f_X0_shiftOf p0 = r) (fun _ _ => True) (fun _ => False)) 0 0 (fun _ => False) := by
  refine Met.ofW (cc := cX0_shiftOf) (maxL := 2) (ret := (some .int)) (by decide) rfl ?_
  intro p e s m args below meth c s₁ B hml hv
  obtain ⟨rfl, -⟩ := hv
  have hx := B.exec
  have hb := B.bytes
  have hr := B.returns
  have hts := atoms_spec (ws := wsX0_shiftOf) B.pre
  have hown : s.vm.findClass RX0 = some m.cls := findClass_of_methodNamed B.named
  have hlocks := B.notSynchronized
  have hS : va_S (fun _ => False) s.heap s.heap [] := va_S.rf
  have hl := lv_entry ([.int p0]) (n := 2) (Nat.le_of_ble_eq_true rfl)
  rw [lg_entry_eq]
  generalize (lg_sl ([.int p0]) ++ List.replicate (2 - (lg_sl ([.int p0])).length) Slot.unset).toArray = ls at hl ⊢
  have hl : lv_has ls 2 [(0, .int p0)] := hl
  obtain ⟨Q, hQ⟩ : ∃ Q : State → Prop, Q = (MQ below (va_Qi (fun (r : Int32) (u : Unit) => f_X0_shiftOf p0 = r) (fun _ _ => True) (fun _ => False)) ([.int p0] : List Value).toArray s 0 0 (fun _ => False)) := ⟨_, rfl⟩
  rw [← hQ]
  have hR : f_X0_shiftOf p0 = f_X0_shiftOf p0 := rfl
  refine lv_iload_n hx hb dX0_shiftOf_0 rfl (lv_at hl 0 rfl) ?_
  refine lv_if_ne (tgt := 6) hx hb dX0_shiftOf_1 (by decide) (fun c1 => ?_) (fun c1 => ?_)
  · skip
    refine lv_iconst (v := 0) hx hb dX0_shiftOf_6 (by decide) ?_
    refine lv_istore_n (lv' := [(1, .int 0), (0, .int p0)]) hx hb dX0_shiftOf_7 rfl hl (by decide) rfl (fun ls hl => ?_)
    have J8 : ∀ (n8 : Nat) (v8_1 : Int32) (ls : Array Slot) (H : Heap) (locs : List Loc), lv_has ls 2 [(0, .int p0), (1, .int v8_1)] → va_S (fun _ => False) s.heap H locs → f_X0_shiftOf p0 = g_X0_shiftOf_8 p0 n8 v8_1 → ((31 : Int32).toInt - v8_1.toInt).toNat < n8 → W p l e (headSpec wsX0_shiftOf ({ frames := 0, cells := 0, slots := 0, locals := 0 } : Room)).room s m ([.int p0] : List Value).toArray below meth c H locs 0 0 Q (F0 m 8 ls []) := by
      intro n8
      induction n8 with
      | zero => intro v8_1 ls H locs hl hS hR hmu8; exact absurd hmu8 (Nat.not_lt_zero _)
      | succ n8 ih8 =>
        intro v8_1 ls H locs hl hS hR hmu8
        refine lv_iload_n hx hb dX0_shiftOf_8 rfl (lv_at hl 1 rfl) ?_
        refine lv_bipush (v := 31) hx hb dX0_shiftOf_9 (by decide) ?_
        refine lv_icmp_ge (tgt := 28) hx hb dX0_shiftOf_11 (by decide) (fun c11 => ?_) (fun c11 => ?_)
        · skip
          refine lv_iload_n hx hb dX0_shiftOf_28 rfl (lv_at hl 1 rfl) ?_
          rw [hQ]
          exact W.iret (v := v8_1) hx hb hr (fun t ht hW => ⟨⟨v8_1, (), rfl, (hR.trans (by simp only [g_X0_shiftOf_8, if_pos c11])), trivial⟩, hS.F ht⟩) hS.2.2 dX0_shiftOf_29
        · skip
          refine lv_iload_n hx hb dX0_shiftOf_14 rfl (lv_at hl 0 rfl) ?_
          refine lv_iload_n hx hb dX0_shiftOf_15 rfl (lv_at hl 1 rfl) ?_
          refine lv_ishr hx hb dX0_shiftOf_16 ?_
          refine lv_iconst (v := 1) hx hb dX0_shiftOf_17 (by decide) ?_
          refine lv_iand hx hb dX0_shiftOf_18 ?_
          refine lv_if_ne (tgt := 28) hx hb dX0_shiftOf_19 (by decide) (fun c19 => ?_) (fun c19 => ?_)
          · skip
            refine lv_iload_n hx hb dX0_shiftOf_28 rfl (lv_at hl 1 rfl) ?_
            rw [hQ]
            exact W.iret (v := v8_1) hx hb hr (fun t ht hW => ⟨⟨v8_1, (), rfl, (hR.trans (by simp only [g_X0_shiftOf_8, if_neg c11, if_neg c19])), trivial⟩, hS.F ht⟩) hS.2.2 dX0_shiftOf_29
          · skip
            refine lv_iinc (v := (v8_1 + 1)) (lv' := [(1, .int (v8_1 + 1)), (0, .int p0)]) hx hb dX0_shiftOf_22 hl (k := 1) rfl (by rfl) (by decide) rfl (fun ls hl => ?_)
            refine lv_goto (tgt := 8) hx hb dX0_shiftOf_25 (by decide) ?_
            exact ih8 (v8_1 + 1) ls _ _ (lv_sub hl [1, 0] rfl) hS (hR.trans (by simp only [g_X0_shiftOf_8, if_neg c11, if_pos c19])) (mu_up c11 hmu8)
    exact J8 (((31 : Int32).toInt - (0 : Int32).toInt).toNat + 1) 0 ls _ _ (lv_sub hl [1, 0] rfl) hS (hR.trans (by simp only [f_X0_shiftOf, if_neg c1])) (Nat.lt_succ_self _)
  · skip
    refine lv_iconst (v := 0) hx hb dX0_shiftOf_4 (by decide) ?_
    rw [hQ]
    exact W.iret (v := 0) hx hb hr (fun t ht hW => ⟨⟨0, (), rfl, (hR.trans (by simp only [f_X0_shiftOf, if_pos c1])), trivial⟩, hS.F ht⟩) hS.2.2 dX0_shiftOf_5

def f_X0_oddOf (p0 : Int32) : Int64 := ((f_X0_sizeOf p0) >>> (((f_X0_shiftOf p0) : Int32).toInt64 &&& 63))
set_option maxHeartbeats 4000000 in
set_option maxRecDepth 100000 in
theorem met_X0_oddOf (l : Launch) (p0 : Int32) : Met l yX0_oddOf wsX0_oddOf ({ frames := 1, cells := 0, slots := 0, locals := 21 } : Room) (va_Pc [.int p0] (fun U => True)) (va_Ql (fun (r : Int64) (u : Unit) => f_X0_oddOf p0 = r) (fun _ _ => True) (fun _ => False)) 0 0 (fun _ => False) := by
  refine Met.ofW (cc := cX0_oddOf) (maxL := 1) (ret := (some .long)) (by decide) rfl ?_
  intro p e s m args below meth c s₁ B hml hv
  obtain ⟨rfl, -⟩ := hv
  have hx := B.exec
  have hb := B.bytes
  have hr := B.returns
  have hts := atoms_spec (ws := wsX0_oddOf) B.pre
  have hown : s.vm.findClass RX0 = some m.cls := findClass_of_methodNamed B.named
  have hlocks := B.notSynchronized
  have hS : va_S (fun _ => False) s.heap s.heap [] := va_S.rf
  have hl := lv_entry ([.int p0]) (n := 1) (Nat.le_of_ble_eq_true rfl)
  rw [lg_entry_eq]
  generalize (lg_sl ([.int p0]) ++ List.replicate (1 - (lg_sl ([.int p0])).length) Slot.unset).toArray = ls at hl ⊢
  have hl : lv_has ls 1 [(0, .int p0)] := hl
  obtain ⟨Q, hQ⟩ : ∃ Q : State → Prop, Q = (MQ below (va_Ql (fun (r : Int64) (u : Unit) => f_X0_oddOf p0 = r) (fun _ _ => True) (fun _ => False)) ([.int p0] : List Value).toArray s 0 0 (fun _ => False)) := ⟨_, rfl⟩
  rw [← hQ]
  have hR : f_X0_oddOf p0 = f_X0_oddOf p0 := rfl
  refine lv_iload_n hx hb dX0_oddOf_0 rfl (lv_at hl 0 rfl) ?_
  refine va_calll (va_runS (As := [.int p0]) (rest := []) ⟨hx, hb, hml, hown, hts⟩ (met_X0_sizeOf l p0) (va_cwS 1 hts gX0_oddOf_X0_sizeOf rfl rfl rfl (by decide +kernel) ⟨Nat.le_of_ble_eq_true rfl, Nat.le_of_ble_eq_true rfl⟩) ⟨fun a U g mk q => q, fun U hU hW => ⟨rfl, trivial⟩⟩ rfl rfl hl.1 rfl (lv_room (Nat.le_of_ble_eq_true rfl)) dX0_oddOf_1 ⟨Nat.le_of_ble_eq_true rfl, Nat.le_of_ble_eq_true rfl⟩) hS (fun q _ h => h.elim) (fun q h => h.elim) (fun r1 u1 t H locs ht hvm hw1 hB hz hk hS => ?_)
  subst hw1
  refine lv_iload_n hx hb dX0_oddOf_4 rfl (lv_at hl 0 rfl) ?_
  refine va_calli (va_runS (As := [.int p0]) (rest := [.long (f_X0_sizeOf p0)]) ⟨hx, hb, hml, hown, hts⟩ (met_X0_shiftOf l p0) (va_cwS 1 hts gX0_oddOf_X0_shiftOf rfl rfl rfl (by decide +kernel) ⟨Nat.le_of_ble_eq_true rfl, Nat.le_of_ble_eq_true rfl⟩) ⟨fun a U g mk q => q, fun U hU hW => ⟨rfl, trivial⟩⟩ rfl rfl hl.1 rfl (lv_room (Nat.le_of_ble_eq_true rfl)) dX0_oddOf_5 ⟨Nat.le_of_ble_eq_true rfl, Nat.le_of_ble_eq_true rfl⟩) hS (fun q _ h => h.elim) (fun q h => h.elim) (fun r5 u5 t H locs ht hvm hw5 hB hz hk hS => ?_)
  subst hw5
  refine lv_lshr hx hb dX0_oddOf_8 rfl ?_
  rw [hQ]
  exact W.lret (v := ((f_X0_sizeOf p0) >>> (((f_X0_shiftOf p0) : Int32).toInt64 &&& 63))) hx hb hr (fun t ht hW => ⟨⟨((f_X0_sizeOf p0) >>> (((f_X0_shiftOf p0) : Int32).toInt64 &&& 63)), (), rfl, (hR.trans (by simp only [f_X0_oddOf])), trivial⟩, hS.F ht⟩) hS.2.2 dX0_oddOf_9

def f_X0_isNear (p0 : Int64) (p1 : Int32) : Int32 := (if (p1 : Int32) < 0 then 0 else (if (52 : Int32) < p1 then 0 else (if (((9007199254740991 : Int64) >>> ((p1 : Int32).toInt64 &&& 63)) : Int64) < p0 then 0 else 1)))
set_option maxHeartbeats 4000000 in
set_option maxRecDepth 100000 in
theorem met_X0_isNear (l : Launch) (p0 : Int64) (p1 : Int32) : Met l yX0_isNear wsX0_isNear ({ frames := 0, cells := 0, slots := 0, locals := 0 } : Room) (va_Pc [.long p0, .int p1] (fun U => True)) (va_Qi (fun (r : Int32) (u : Unit) => f_X0_isNear p0 p1 = r ∧ (r = 0 ∨ r = 1)) (fun _ _ => True) (fun _ => False)) 0 0 (fun _ => False) := by
  refine Met.ofW (cc := cX0_isNear) (maxL := 3) (ret := (some .boolean)) (by decide) rfl ?_
  intro p e s m args below meth c s₁ B hml hv
  obtain ⟨rfl, -⟩ := hv
  have hx := B.exec
  have hb := B.bytes
  have hr := B.returns
  have hts := atoms_spec (ws := wsX0_isNear) B.pre
  have hown : s.vm.findClass RX0 = some m.cls := findClass_of_methodNamed B.named
  have hlocks := B.notSynchronized
  have hS : va_S (fun _ => False) s.heap s.heap [] := va_S.rf
  have hl := lv_entry ([.long p0, .int p1]) (n := 3) (Nat.le_of_ble_eq_true rfl)
  rw [lg_entry_eq]
  generalize (lg_sl ([.long p0, .int p1]) ++ List.replicate (3 - (lg_sl ([.long p0, .int p1])).length) Slot.unset).toArray = ls at hl ⊢
  have hl : lv_has ls 3 [(0, .long p0), (2, .int p1)] := hl
  obtain ⟨Q, hQ⟩ : ∃ Q : State → Prop, Q = (MQ below (va_Qi (fun (r : Int32) (u : Unit) => f_X0_isNear p0 p1 = r ∧ (r = 0 ∨ r = 1)) (fun _ _ => True) (fun _ => False)) ([.long p0, .int p1] : List Value).toArray s 0 0 (fun _ => False)) := ⟨_, rfl⟩
  rw [← hQ]
  have hR : f_X0_isNear p0 p1 = f_X0_isNear p0 p1 := rfl
  refine lv_iload_n hx hb dX0_isNear_0 rfl (lv_at hl 1 rfl) ?_
  refine lv_if_lt (tgt := 24) hx hb dX0_isNear_1 (by decide) (fun c1 => ?_) (fun c1 => ?_)
  · skip
    refine lv_iconst (v := 0) hx hb dX0_isNear_24 (by decide) ?_
    rw [hQ]
    exact W.zret (ty := .boolean) (v := 0) hx hb hr (nbool (Or.inl rfl)) (fun t ht hW => ⟨⟨0, (), rfl, ⟨(hR.trans (by simp only [f_X0_isNear, if_pos c1])), (Or.inl rfl)⟩, trivial⟩, hS.F ht⟩) hS.2.2 dX0_isNear_25
  · skip
    refine lv_iload_n hx hb dX0_isNear_4 rfl (lv_at hl 1 rfl) ?_
    refine lv_bipush (v := 52) hx hb dX0_isNear_5 (by decide) ?_
    refine lv_icmp_gt (tgt := 24) hx hb dX0_isNear_7 (by decide) (fun c7 => ?_) (fun c7 => ?_)
    · skip
      refine lv_iconst (v := 0) hx hb dX0_isNear_24 (by decide) ?_
      rw [hQ]
      exact W.zret (ty := .boolean) (v := 0) hx hb hr (nbool (Or.inl rfl)) (fun t ht hW => ⟨⟨0, (), rfl, ⟨(hR.trans (by simp only [f_X0_isNear, if_neg c1, if_pos c7])), (Or.inl rfl)⟩, trivial⟩, hS.F ht⟩) hS.2.2 dX0_isNear_25
    · skip
      refine lv_lload_n hx hb dX0_isNear_10 rfl (lv_at hl 0 rfl) ?_
      refine lv_ldc2 (v := 9007199254740991) hx hb hown (hts (.constantLong RX0 204 9007199254740991) (by decide +kernel)) dX0_isNear_11 ?_
      refine lv_iload_n hx hb dX0_isNear_14 rfl (lv_at hl 1 rfl) ?_
      refine lv_lshr hx hb dX0_isNear_15 rfl ?_
      refine W.lcmp hx hb dX0_isNear_16 ?_
      refine lv_if_gt (tgt := 24) hx hb dX0_isNear_17 (by decide) (fun c16 => ?_) (fun c16 => ?_)
      · skip
        have c16 : (((9007199254740991 : Int64) >>> ((p1 : Int32).toInt64 &&& 63)) : Int64) < p0 := (lg_cmp_gt _ _).mp c16
        refine lv_iconst (v := 0) hx hb dX0_isNear_24 (by decide) ?_
        rw [hQ]
        exact W.zret (ty := .boolean) (v := 0) hx hb hr (nbool (Or.inl rfl)) (fun t ht hW => ⟨⟨0, (), rfl, ⟨(hR.trans (by simp only [f_X0_isNear, if_neg c1, if_neg c7, if_pos c16])), (Or.inl rfl)⟩, trivial⟩, hS.F ht⟩) hS.2.2 dX0_isNear_25
      · skip
        have c16 : ¬ ((((9007199254740991 : Int64) >>> ((p1 : Int32).toInt64 &&& 63)) : Int64) < p0) := fun h => c16 ((lg_cmp_gt _ _).mpr h)
        refine lv_iconst (v := 1) hx hb dX0_isNear_20 (by decide) ?_
        refine lv_goto (tgt := 25) hx hb dX0_isNear_21 (by decide) ?_
        rw [hQ]
        exact W.zret (ty := .boolean) (v := 1) hx hb hr (nbool (Or.inr rfl)) (fun t ht hW => ⟨⟨1, (), rfl, ⟨(hR.trans (by simp only [f_X0_isNear, if_neg c1, if_neg c7, if_neg c16])), (Or.inr rfl)⟩, trivial⟩, hS.F ht⟩) hS.2.2 dX0_isNear_25

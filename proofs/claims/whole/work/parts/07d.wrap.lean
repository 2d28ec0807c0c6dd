set_option maxHeartbeats 4000000 in
set_option maxRecDepth 100000 in
theorem met_L_digits (l : Launch) (hfl : l.stackTraces = false) (D : va_G) (cI cJ : ClassId) (ad : Nat → Nat) (ao : Nat) (A : Nat → Prop) (S : pS) (o : Nat → Int64) (p0 : Int32) (p1 : Int32)  : Met l yL_digits wsL_digits ({ frames := 9, cells := 3, slots := 18, locals := 148 } : Room) (va_Pc [.ref (ad 0), .int p0, .int p1, .ref ao] (fun U => va_P D pCl (xW cI cJ ad ao S o) U.heap ∧ va_K D pCl (pTy cI cJ) U ∧ va_D A (xW cI cJ ad ao S o) ∧ xE (fun _ => False) U U.heap ∧ xN U)) (va_Qi (fun (r : Int32) (u : pS × (Nat → Int64)) => wrI [1, 2, 3] S o (f_X0_digits S p0 p1) = (r, u)) (fun u t => va_P D pCl (xW cI cJ ad ao u.1 u.2) t.heap) A) 3 18 A := by
  refine Met_ofWH (cc := cL_digits) (maxL := 5) (ret := (some .int)) (by decide) rfl ?_
  intro p e s m args below meth c s₁ B hml hv
  obtain ⟨rfl, hP, hK, hD, hE, hNc⟩ := hv
  have hx := B.exec
  have hb := B.bytes
  have hr := B.returns
  have hts := atoms_spec (ws := wsL_digits) B.pre
  have hown : s.vm.findClass RL = some m.cls := findClass_of_methodNamed B.named
  have hlocks := B.notSynchronized
  have htb := vx_table (x := yL_digits) B (hts _ List.mem_cons_self)
  have hS0 : va_S (fun _ => False) s.heap s.heap [] := va_S.rf
  have hS : va_S A s.heap s.heap [] := va_S.rf
  have hl := lv_entry ([.ref (ad 0), .int p0, .int p1, .ref ao]) (n := 5) (Nat.le_of_ble_eq_true rfl)
  rw [lg_entry_eq]
  generalize (lg_sl ([.ref (ad 0), .int p0, .int p1, .ref ao]) ++ List.replicate (5 - (lg_sl ([.ref (ad 0), .int p0, .int p1, .ref ao])).length) Slot.unset).toArray = ls at hl ⊢
  have hl : lv_has ls 5 [(0, .ref (ad 0)), (1, .int p0), (2, .int p1), (3, .ref ao)] := hl
  have hPc := hP.sub (ws' := pmW cI cJ ad S) [0, 1, 2, 3, 4, 5, 6, 7] rfl
  refine lv_aload_n hx hb dL_digits_0 rfl (lv_at hl 3 rfl) ?_
  refine lv_iconst (v := 0) hx hb dL_digits_1 (by decide) ?_
  refine lv_aload_n hx hb dL_digits_2 rfl (lv_at hl 0 rfl) ?_
  refine lv_iload_n hx hb dL_digits_3 rfl (lv_at hl 1 rfl) ?_
  refine lv_iload_n hx hb dL_digits_4 rfl (lv_at hl 2 rfl) ?_
  refine vx_calli (vx_runV (As := [.int p0, .int p1]) (rest := [.int 0, .ref ao]) ⟨hx, hb, hml, hown, hts⟩ (met_X0_digits l hfl D cI cJ ad S p0 p1) (cwV 2 hts gL_digits_X0_digits rfl rfl rfl (by decide +kernel) ⟨Nat.le_of_ble_eq_true rfl, Nat.le_of_ble_eq_true rfl⟩) ⟨fun a U g mk q => ⟨q.1, b0R_calling q.2.1, xE_calling q.2.2⟩, va_recv hK hPc (ci := 0) (q0 := 0) rfl rfl, fun U hU hW => ⟨rfl, b0R_at hPc hK hU hW, xE_at hE hS0 hU hW⟩⟩ rfl rfl hl.1 rfl (lv_room (Nat.le_of_ble_eq_true rfl)) dL_digits_5 ⟨Nat.le_of_ble_eq_true rfl, Nat.le_of_ble_eq_true rfl⟩) hS (fun q _ h => h.elim) (fun q h => h.elim) (fun q _ h => h.elim) (fun E ce q9 k9 t H locs ht hvm hw hB hz hk hS hc9 hv9 hf9 => ?_) (fun r u t H locs ht hvm hw hB hz hk hS => ?_)
  · have hP := hP.kept (fun k q hk9 => hk _ (vx_lt hP hk9) (fun h => h))
    rcases err_digits hw with rfl | rfl | rfl
    · subst hB
      refine vx_catch (name := "java/lang/IndexOutOfBoundsException") hown [] ⟨0, 10, 13, 13⟩ [⟨0, 10, 17, 15⟩, ⟨0, 10, 21, 29⟩] (by rw [htb]; rfl) (fun z hz => nomatch hz) (by decide) (by decide) (hts (.classLink RL 13 "java/lang/IndexOutOfBoundsException") (by decide +kernel)) (va_Nw.use rfl (hE.2.2.2.1 (exN 1) (by decide +kernel))) hc9 hv9 hf9 ?_
      refine lv_astore (lv' := [(4, .ref q9), (0, .ref (ad 0)), (1, .int p0), (2, .int p1), (3, .ref ao)]) hx hb dL_digits_13 hl (by decide) rfl (fun ls hl => ?_)
      refine lv_iconst (v := 1) hx hb dL_digits_15 (by decide) ?_
      refine W.widen (k := 3) (n := 18) (Nat.le_of_ble_eq_true rfl) (Nat.le_of_ble_eq_true rfl) ?_
      exact W.iret (v := 1) hx hb hr (fun t ht hW => ⟨⟨1, (S, o), rfl, by rw [hw]; rfl, by show va_P D pCl _ t.heap; rw [ht]; exact hP⟩, hS.F ht⟩) hS.2.2 dL_digits_16
    · subst hB
      have hpass : ∀ z ∈ ([⟨0, 10, 13, 13⟩] : List ExceptionTableEntry), covers z 5 = false ∨ (z.catchType ≠ 0 ∧ ∃ nm : String, (Cond.classLink RL z.catchType nm).before (#[.ref (ad 0), .int p0, .int p1, .ref ao] : Array Value) s = true ∧ va_Nc (exN 2) nm s) := by
        intro z hz
        simp only [List.mem_cons, List.not_mem_nil, or_false] at hz
        rcases hz with rfl
        · exact Or.inr ⟨by decide, "java/lang/IndexOutOfBoundsException", hts (.classLink RL 13 "java/lang/IndexOutOfBoundsException") (by decide +kernel), hNc 2 1 (by decide) (by decide) (by decide) (by decide) (by decide)⟩
      refine vx_catch (name := "java/lang/IllegalArgumentException") hown [⟨0, 10, 13, 13⟩] ⟨0, 10, 17, 15⟩ [⟨0, 10, 21, 29⟩] (by rw [htb]; rfl) hpass (by decide) (by decide) (hts (.classLink RL 15 "java/lang/IllegalArgumentException") (by decide +kernel)) (va_Nw.use rfl (hE.2.2.2.1 (exN 2) (by decide +kernel))) hc9 hv9 hf9 ?_
      refine lv_astore (lv' := [(4, .ref q9), (0, .ref (ad 0)), (1, .int p0), (2, .int p1), (3, .ref ao)]) hx hb dL_digits_17 hl (by decide) rfl (fun ls hl => ?_)
      refine lv_iconst (v := 2) hx hb dL_digits_19 (by decide) ?_
      refine W.widen (k := 3) (n := 18) (Nat.le_of_ble_eq_true rfl) (Nat.le_of_ble_eq_true rfl) ?_
      exact W.iret (v := 2) hx hb hr (fun t ht hW => ⟨⟨2, (S, o), rfl, by rw [hw]; rfl, by show va_P D pCl _ t.heap; rw [ht]; exact hP⟩, hS.F ht⟩) hS.2.2 dL_digits_20
    · subst hB
      have hpass : ∀ z ∈ ([⟨0, 10, 13, 13⟩, ⟨0, 10, 17, 15⟩] : List ExceptionTableEntry), covers z 5 = false ∨ (z.catchType ≠ 0 ∧ ∃ nm : String, (Cond.classLink RL z.catchType nm).before (#[.ref (ad 0), .int p0, .int p1, .ref ao] : Array Value) s = true ∧ va_Nc (exN 3) nm s) := by
        intro z hz
        simp only [List.mem_cons, List.not_mem_nil, or_false] at hz
        rcases hz with rfl | rfl
        · exact Or.inr ⟨by decide, "java/lang/IndexOutOfBoundsException", hts (.classLink RL 13 "java/lang/IndexOutOfBoundsException") (by decide +kernel), hNc 3 1 (by decide) (by decide) (by decide) (by decide) (by decide)⟩
        · exact Or.inr ⟨by decide, "java/lang/IllegalArgumentException", hts (.classLink RL 15 "java/lang/IllegalArgumentException") (by decide +kernel), hNc 3 2 (by decide) (by decide) (by decide) (by decide) (by decide)⟩
      refine vx_catch (name := "java/lang/IllegalStateException") hown [⟨0, 10, 13, 13⟩, ⟨0, 10, 17, 15⟩] ⟨0, 10, 21, 29⟩ [] (by rw [htb]; rfl) hpass (by decide) (by decide) (hts (.classLink RL 29 "java/lang/IllegalStateException") (by decide +kernel)) (va_Nw.use rfl (hE.2.2.2.1 (exN 3) (by decide +kernel))) hc9 hv9 hf9 ?_
      refine lv_astore (lv' := [(4, .ref q9), (0, .ref (ad 0)), (1, .int p0), (2, .int p1), (3, .ref ao)]) hx hb dL_digits_21 hl (by decide) rfl (fun ls hl => ?_)
      refine lv_iconst (v := 3) hx hb dL_digits_23 (by decide) ?_
      refine W.widen (k := 3) (n := 18) (Nat.le_of_ble_eq_true rfl) (Nat.le_of_ble_eq_true rfl) ?_
      exact W.iret (v := 3) hx hb hr (fun t ht hW => ⟨⟨3, (S, o), rfl, by rw [hw]; rfl, by show va_P D pCl _ t.heap; rw [ht]; exact hP⟩, hS.F ht⟩) hS.2.2 dL_digits_24
  · have hP := hP.kept (fun k q hk9 => hk _ (vx_lt hP hk9) (fun h => h))
    refine lv_i2l hx hb dL_digits_8 rfl ?_
    refine va_last hx hb hK hP hD hS 8 1 rfl rfl in01 dL_digits_9 (fun H locs hP hD hS => ?_)
    refine lv_goto (tgt := 25) hx hb dL_digits_10 (by decide) ?_
    refine lv_iconst (v := 0) hx hb dL_digits_25 (by decide) ?_
    refine W.widen (k := 3) (n := 18) (Nat.le_of_ble_eq_true rfl) (Nat.le_of_ble_eq_true rfl) ?_
    exact W.iret (v := 0) hx hb hr (fun t ht hW => ⟨⟨0, (S, vp_updL o (0 : Int32).toNatClampNeg ((r : Int32).toInt64)), rfl, by rw [hw]; rfl, by show va_P D pCl _ t.heap; rw [ht]; exact hP⟩, hS.F ht⟩) hS.2.2 dL_digits_26

set_option maxHeartbeats 4000000 in
set_option maxRecDepth 100000 in
theorem met_L_digit (l : Launch) (hfl : l.stackTraces = false) (D : va_G) (cI cJ : ClassId) (ad : Nat → Nat) (ao : Nat) (A : Nat → Prop) (S : pS) (o : Nat → Int64) (p0 : Int32) (p1 : Int32) (p2 : Int32)  : Met l yL_digit wsL_digit ({ frames := 9, cells := 4, slots := 24, locals := 152 } : Room) (va_Pc [.ref (ad 0), .int p0, .int p1, .int p2, .ref ao] (fun U => va_P D pCl (xW cI cJ ad ao S o) U.heap ∧ va_K D pCl (pTy cI cJ) U ∧ va_D A (xW cI cJ ad ao S o) ∧ xE (fun _ => False) U U.heap ∧ xN U)) (va_Qi (fun (r : Int32) (u : pS × (Nat → Int64)) => wrI [1, 2, 3] S o (f_X0_digit S p0 p1 p2) = (r, u)) (fun u t => va_P D pCl (xW cI cJ ad ao u.1 u.2) t.heap) A) 4 24 A := by
  refine Met_ofWH (cc := cL_digit) (maxL := 6) (ret := (some .int)) (by decide) rfl ?_
  intro p e s m args below meth c s₁ B hml hv
  obtain ⟨rfl, hP, hK, hD, hE, hNc⟩ := hv
  have hx := B.exec
  have hb := B.bytes
  have hr := B.returns
  have hts := atoms_spec (ws := wsL_digit) B.pre
  have hown : s.vm.findClass RL = some m.cls := findClass_of_methodNamed B.named
  have hlocks := B.notSynchronized
  have htb := vx_table (x := yL_digit) B (hts _ List.mem_cons_self)
  have hS0 : va_S (fun _ => False) s.heap s.heap [] := va_S.rf
  have hS : va_S A s.heap s.heap [] := va_S.rf
  have hl := lv_entry ([.ref (ad 0), .int p0, .int p1, .int p2, .ref ao]) (n := 6) (Nat.le_of_ble_eq_true rfl)
  rw [lg_entry_eq]
  generalize (lg_sl ([.ref (ad 0), .int p0, .int p1, .int p2, .ref ao]) ++ List.replicate (6 - (lg_sl ([.ref (ad 0), .int p0, .int p1, .int p2, .ref ao])).length) Slot.unset).toArray = ls at hl ⊢
  have hl : lv_has ls 6 [(0, .ref (ad 0)), (1, .int p0), (2, .int p1), (3, .int p2), (4, .ref ao)] := hl
  have hPc := hP.sub (ws' := pmW cI cJ ad S) [0, 1, 2, 3, 4, 5, 6, 7] rfl
  refine lv_aload hx hb dL_digit_0 (lv_at hl 4 rfl) ?_
  refine lv_iconst (v := 0) hx hb dL_digit_2 (by decide) ?_
  refine lv_aload_n hx hb dL_digit_3 rfl (lv_at hl 0 rfl) ?_
  refine lv_iload_n hx hb dL_digit_4 rfl (lv_at hl 1 rfl) ?_
  refine lv_iload_n hx hb dL_digit_5 rfl (lv_at hl 2 rfl) ?_
  refine lv_iload_n hx hb dL_digit_6 rfl (lv_at hl 3 rfl) ?_
  refine vx_calli (vx_runV (As := [.int p0, .int p1, .int p2]) (rest := [.int 0, .ref ao]) ⟨hx, hb, hml, hown, hts⟩ (met_X0_digit l hfl D cI cJ ad S p0 p1 p2) (cwV 3 hts gL_digit_X0_digit rfl rfl rfl (by decide +kernel) ⟨Nat.le_of_ble_eq_true rfl, Nat.le_of_ble_eq_true rfl⟩) ⟨fun a U g mk q => ⟨q.1, b0R_calling q.2.1, xE_calling q.2.2⟩, va_recv hK hPc (ci := 0) (q0 := 0) rfl rfl, fun U hU hW => ⟨rfl, b0R_at hPc hK hU hW, xE_at hE hS0 hU hW⟩⟩ rfl rfl hl.1 rfl (lv_room (Nat.le_of_ble_eq_true rfl)) dL_digit_7 ⟨Nat.le_of_ble_eq_true rfl, Nat.le_of_ble_eq_true rfl⟩) hS (fun q _ h => h.elim) (fun q h => h.elim) (fun q _ h => h.elim) (fun E ce q9 k9 t H locs ht hvm hw hB hz hk hS hc9 hv9 hf9 => ?_) (fun r u t H locs ht hvm hw hB hz hk hS => ?_)
  · have hP := hP.kept (fun k q hk9 => hk _ (vx_lt hP hk9) (fun h => h))
    rcases err_digit hw with rfl | rfl | rfl
    · subst hB
      refine vx_catch (name := "java/lang/IndexOutOfBoundsException") hown [] ⟨0, 12, 15, 13⟩ [⟨0, 12, 19, 15⟩, ⟨0, 12, 23, 29⟩] (by rw [htb]; rfl) (fun z hz => nomatch hz) (by decide) (by decide) (hts (.classLink RL 13 "java/lang/IndexOutOfBoundsException") (by decide +kernel)) (va_Nw.use rfl (hE.2.2.2.1 (exN 1) (by decide +kernel))) hc9 hv9 hf9 ?_
      refine lv_astore (lv' := [(5, .ref q9), (0, .ref (ad 0)), (1, .int p0), (2, .int p1), (3, .int p2), (4, .ref ao)]) hx hb dL_digit_15 hl (by decide) rfl (fun ls hl => ?_)
      refine lv_iconst (v := 1) hx hb dL_digit_17 (by decide) ?_
      refine W.widen (k := 4) (n := 24) (Nat.le_of_ble_eq_true rfl) (Nat.le_of_ble_eq_true rfl) ?_
      exact W.iret (v := 1) hx hb hr (fun t ht hW => ⟨⟨1, (S, o), rfl, by rw [hw]; rfl, by show va_P D pCl _ t.heap; rw [ht]; exact hP⟩, hS.F ht⟩) hS.2.2 dL_digit_18
    · subst hB
      have hpass : ∀ z ∈ ([⟨0, 12, 15, 13⟩] : List ExceptionTableEntry), covers z 7 = false ∨ (z.catchType ≠ 0 ∧ ∃ nm : String, (Cond.classLink RL z.catchType nm).before (#[.ref (ad 0), .int p0, .int p1, .int p2, .ref ao] : Array Value) s = true ∧ va_Nc (exN 2) nm s) := by
        intro z hz
        simp only [List.mem_cons, List.not_mem_nil, or_false] at hz
        rcases hz with rfl
        · exact Or.inr ⟨by decide, "java/lang/IndexOutOfBoundsException", hts (.classLink RL 13 "java/lang/IndexOutOfBoundsException") (by decide +kernel), hNc 2 1 (by decide) (by decide) (by decide) (by decide) (by decide)⟩
      refine vx_catch (name := "java/lang/IllegalArgumentException") hown [⟨0, 12, 15, 13⟩] ⟨0, 12, 19, 15⟩ [⟨0, 12, 23, 29⟩] (by rw [htb]; rfl) hpass (by decide) (by decide) (hts (.classLink RL 15 "java/lang/IllegalArgumentException") (by decide +kernel)) (va_Nw.use rfl (hE.2.2.2.1 (exN 2) (by decide +kernel))) hc9 hv9 hf9 ?_
      refine lv_astore (lv' := [(5, .ref q9), (0, .ref (ad 0)), (1, .int p0), (2, .int p1), (3, .int p2), (4, .ref ao)]) hx hb dL_digit_19 hl (by decide) rfl (fun ls hl => ?_)
      refine lv_iconst (v := 2) hx hb dL_digit_21 (by decide) ?_
      refine W.widen (k := 4) (n := 24) (Nat.le_of_ble_eq_true rfl) (Nat.le_of_ble_eq_true rfl) ?_
      exact W.iret (v := 2) hx hb hr (fun t ht hW => ⟨⟨2, (S, o), rfl, by rw [hw]; rfl, by show va_P D pCl _ t.heap; rw [ht]; exact hP⟩, hS.F ht⟩) hS.2.2 dL_digit_22
    · subst hB
      have hpass : ∀ z ∈ ([⟨0, 12, 15, 13⟩, ⟨0, 12, 19, 15⟩] : List ExceptionTableEntry), covers z 7 = false ∨ (z.catchType ≠ 0 ∧ ∃ nm : String, (Cond.classLink RL z.catchType nm).before (#[.ref (ad 0), .int p0, .int p1, .int p2, .ref ao] : Array Value) s = true ∧ va_Nc (exN 3) nm s) := by
        intro z hz
        simp only [List.mem_cons, List.not_mem_nil, or_false] at hz
        rcases hz with rfl | rfl
        · exact Or.inr ⟨by decide, "java/lang/IndexOutOfBoundsException", hts (.classLink RL 13 "java/lang/IndexOutOfBoundsException") (by decide +kernel), hNc 3 1 (by decide) (by decide) (by decide) (by decide) (by decide)⟩
        · exact Or.inr ⟨by decide, "java/lang/IllegalArgumentException", hts (.classLink RL 15 "java/lang/IllegalArgumentException") (by decide +kernel), hNc 3 2 (by decide) (by decide) (by decide) (by decide) (by decide)⟩
      refine vx_catch (name := "java/lang/IllegalStateException") hown [⟨0, 12, 15, 13⟩, ⟨0, 12, 19, 15⟩] ⟨0, 12, 23, 29⟩ [] (by rw [htb]; rfl) hpass (by decide) (by decide) (hts (.classLink RL 29 "java/lang/IllegalStateException") (by decide +kernel)) (va_Nw.use rfl (hE.2.2.2.1 (exN 3) (by decide +kernel))) hc9 hv9 hf9 ?_
      refine lv_astore (lv' := [(5, .ref q9), (0, .ref (ad 0)), (1, .int p0), (2, .int p1), (3, .int p2), (4, .ref ao)]) hx hb dL_digit_23 hl (by decide) rfl (fun ls hl => ?_)
      refine lv_iconst (v := 3) hx hb dL_digit_25 (by decide) ?_
      refine W.widen (k := 4) (n := 24) (Nat.le_of_ble_eq_true rfl) (Nat.le_of_ble_eq_true rfl) ?_
      exact W.iret (v := 3) hx hb hr (fun t ht hW => ⟨⟨3, (S, o), rfl, by rw [hw]; rfl, by show va_P D pCl _ t.heap; rw [ht]; exact hP⟩, hS.F ht⟩) hS.2.2 dL_digit_26
  · have hP := hP.kept (fun k q hk9 => hk _ (vx_lt hP hk9) (fun h => h))
    refine lv_i2l hx hb dL_digit_10 rfl ?_
    refine va_last hx hb hK hP hD hS 8 1 rfl rfl in01 dL_digit_11 (fun H locs hP hD hS => ?_)
    refine lv_goto (tgt := 27) hx hb dL_digit_12 (by decide) ?_
    refine lv_iconst (v := 0) hx hb dL_digit_27 (by decide) ?_
    refine W.widen (k := 4) (n := 24) (Nat.le_of_ble_eq_true rfl) (Nat.le_of_ble_eq_true rfl) ?_
    exact W.iret (v := 0) hx hb hr (fun t ht hW => ⟨⟨0, (S, vp_updL o (0 : Int32).toNatClampNeg ((r : Int32).toInt64)), rfl, by rw [hw]; rfl, by show va_P D pCl _ t.heap; rw [ht]; exact hP⟩, hS.F ht⟩) hS.2.2 dL_digit_28

set_option maxHeartbeats 4000000 in
set_option maxRecDepth 100000 in
theorem met_L_root (l : Launch) (hfl : l.stackTraces = false) (D : va_G) (cI cJ : ClassId) (ad : Nat → Nat) (ao : Nat) (A : Nat → Prop) (S : pS) (o : Nat → Int64) (p0 : Int32) (p1 : Int32)  : Met l yL_root wsL_root ({ frames := 8, cells := 4, slots := 24, locals := 131 } : Room) (va_Pc [.ref (ad 0), .int p0, .int p1, .ref ao] (fun U => va_P D pCl (xW cI cJ ad ao S o) U.heap ∧ va_K D pCl (pTy cI cJ) U ∧ va_D A (xW cI cJ ad ao S o) ∧ xE (fun _ => False) U U.heap ∧ xN U)) (va_Qi (fun (r : Int32) (u : pS × (Nat → Int64)) => wrI [1, 2, 3, 4] S o (f_X0_root S p0 p1) = (r, u)) (fun u t => va_P D pCl (xW cI cJ ad ao u.1 u.2) t.heap) A) 4 24 A := by
  refine Met_ofWH (cc := cL_root) (maxL := 5) (ret := (some .int)) (by decide) rfl ?_
  intro p e s m args below meth c s₁ B hml hv
  obtain ⟨rfl, hP, hK, hD, hE, hNc⟩ := hv
  have hx := B.exec
  have hb := B.bytes
  have hr := B.returns
  have hts := atoms_spec (ws := wsL_root) B.pre
  have hown : s.vm.findClass RL = some m.cls := findClass_of_methodNamed B.named
  have hlocks := B.notSynchronized
  have htb := vx_table (x := yL_root) B (hts _ List.mem_cons_self)
  have hS0 : va_S (fun _ => False) s.heap s.heap [] := va_S.rf
  have hS : va_S A s.heap s.heap [] := va_S.rf
  have hl := lv_entry ([.ref (ad 0), .int p0, .int p1, .ref ao]) (n := 5) (Nat.le_of_ble_eq_true rfl)
  rw [lg_entry_eq]
  generalize (lg_sl ([.ref (ad 0), .int p0, .int p1, .ref ao]) ++ List.replicate (5 - (lg_sl ([.ref (ad 0), .int p0, .int p1, .ref ao])).length) Slot.unset).toArray = ls at hl ⊢
  have hl : lv_has ls 5 [(0, .ref (ad 0)), (1, .int p0), (2, .int p1), (3, .ref ao)] := hl
  have hPc := hP.sub (ws' := pmW cI cJ ad S) [0, 1, 2, 3, 4, 5, 6, 7] rfl
  refine lv_aload_n hx hb dL_root_0 rfl (lv_at hl 3 rfl) ?_
  refine lv_iconst (v := 0) hx hb dL_root_1 (by decide) ?_
  refine lv_aload_n hx hb dL_root_2 rfl (lv_at hl 0 rfl) ?_
  refine lv_iload_n hx hb dL_root_3 rfl (lv_at hl 1 rfl) ?_
  refine lv_iload_n hx hb dL_root_4 rfl (lv_at hl 2 rfl) ?_
  refine vx_calli (vx_runV (As := [.int p0, .int p1]) (rest := [.int 0, .ref ao]) ⟨hx, hb, hml, hown, hts⟩ (met_X0_root l hfl D cI cJ ad S p0 p1) (cwV 2 hts gL_root_X0_root rfl rfl rfl (by decide +kernel) ⟨Nat.le_of_ble_eq_true rfl, Nat.le_of_ble_eq_true rfl⟩) ⟨fun a U g mk q => ⟨q.1, b0R_calling q.2.1, xE_calling q.2.2⟩, va_recv hK hPc (ci := 0) (q0 := 0) rfl rfl, fun U hU hW => ⟨rfl, b0R_at hPc hK hU hW, xE_at hE hS0 hU hW⟩⟩ rfl rfl hl.1 rfl (lv_room (Nat.le_of_ble_eq_true rfl)) dL_root_5 ⟨Nat.le_of_ble_eq_true rfl, Nat.le_of_ble_eq_true rfl⟩) hS (fun q _ h => h.elim) (fun q h => h.elim) (fun q _ h => h.elim) (fun E ce q9 k9 t H locs ht hvm hw hB hz hk hS hc9 hv9 hf9 => ?_) (fun r u t H locs ht hvm hw hB hz hk hS => ?_)
  · have hP := hP.kept (fun k q hk9 => hk _ (vx_lt hP hk9) (fun h => h))
    rcases err_root hw with rfl | rfl | rfl | rfl
    · subst hB
      refine vx_catch (name := "java/lang/IndexOutOfBoundsException") hown [] ⟨0, 10, 13, 13⟩ [⟨0, 10, 17, 15⟩, ⟨0, 10, 21, 29⟩, ⟨0, 10, 25, 31⟩] (by rw [htb]; rfl) (fun z hz => nomatch hz) (by decide) (by decide) (hts (.classLink RL 13 "java/lang/IndexOutOfBoundsException") (by decide +kernel)) (va_Nw.use rfl (hE.2.2.2.1 (exN 1) (by decide +kernel))) hc9 hv9 hf9 ?_
      refine lv_astore (lv' := [(4, .ref q9), (0, .ref (ad 0)), (1, .int p0), (2, .int p1), (3, .ref ao)]) hx hb dL_root_13 hl (by decide) rfl (fun ls hl => ?_)
      refine lv_iconst (v := 1) hx hb dL_root_15 (by decide) ?_
      refine W.widen (k := 4) (n := 24) (Nat.le_of_ble_eq_true rfl) (Nat.le_of_ble_eq_true rfl) ?_
      exact W.iret (v := 1) hx hb hr (fun t ht hW => ⟨⟨1, (S, o), rfl, by rw [hw]; rfl, by show va_P D pCl _ t.heap; rw [ht]; exact hP⟩, hS.F ht⟩) hS.2.2 dL_root_16
    · subst hB
      have hpass : ∀ z ∈ ([⟨0, 10, 13, 13⟩] : List ExceptionTableEntry), covers z 5 = false ∨ (z.catchType ≠ 0 ∧ ∃ nm : String, (Cond.classLink RL z.catchType nm).before (#[.ref (ad 0), .int p0, .int p1, .ref ao] : Array Value) s = true ∧ va_Nc (exN 2) nm s) := by
        intro z hz
        simp only [List.mem_cons, List.not_mem_nil, or_false] at hz
        rcases hz with rfl
        · exact Or.inr ⟨by decide, "java/lang/IndexOutOfBoundsException", hts (.classLink RL 13 "java/lang/IndexOutOfBoundsException") (by decide +kernel), hNc 2 1 (by decide) (by decide) (by decide) (by decide) (by decide)⟩
      refine vx_catch (name := "java/lang/IllegalArgumentException") hown [⟨0, 10, 13, 13⟩] ⟨0, 10, 17, 15⟩ [⟨0, 10, 21, 29⟩, ⟨0, 10, 25, 31⟩] (by rw [htb]; rfl) hpass (by decide) (by decide) (hts (.classLink RL 15 "java/lang/IllegalArgumentException") (by decide +kernel)) (va_Nw.use rfl (hE.2.2.2.1 (exN 2) (by decide +kernel))) hc9 hv9 hf9 ?_
      refine lv_astore (lv' := [(4, .ref q9), (0, .ref (ad 0)), (1, .int p0), (2, .int p1), (3, .ref ao)]) hx hb dL_root_17 hl (by decide) rfl (fun ls hl => ?_)
      refine lv_iconst (v := 2) hx hb dL_root_19 (by decide) ?_
      refine W.widen (k := 4) (n := 24) (Nat.le_of_ble_eq_true rfl) (Nat.le_of_ble_eq_true rfl) ?_
      exact W.iret (v := 2) hx hb hr (fun t ht hW => ⟨⟨2, (S, o), rfl, by rw [hw]; rfl, by show va_P D pCl _ t.heap; rw [ht]; exact hP⟩, hS.F ht⟩) hS.2.2 dL_root_20
    · subst hB
      have hpass : ∀ z ∈ ([⟨0, 10, 13, 13⟩, ⟨0, 10, 17, 15⟩] : List ExceptionTableEntry), covers z 5 = false ∨ (z.catchType ≠ 0 ∧ ∃ nm : String, (Cond.classLink RL z.catchType nm).before (#[.ref (ad 0), .int p0, .int p1, .ref ao] : Array Value) s = true ∧ va_Nc (exN 3) nm s) := by
        intro z hz
        simp only [List.mem_cons, List.not_mem_nil, or_false] at hz
        rcases hz with rfl | rfl
        · exact Or.inr ⟨by decide, "java/lang/IndexOutOfBoundsException", hts (.classLink RL 13 "java/lang/IndexOutOfBoundsException") (by decide +kernel), hNc 3 1 (by decide) (by decide) (by decide) (by decide) (by decide)⟩
        · exact Or.inr ⟨by decide, "java/lang/IllegalArgumentException", hts (.classLink RL 15 "java/lang/IllegalArgumentException") (by decide +kernel), hNc 3 2 (by decide) (by decide) (by decide) (by decide) (by decide)⟩
      refine vx_catch (name := "java/lang/IllegalStateException") hown [⟨0, 10, 13, 13⟩, ⟨0, 10, 17, 15⟩] ⟨0, 10, 21, 29⟩ [⟨0, 10, 25, 31⟩] (by rw [htb]; rfl) hpass (by decide) (by decide) (hts (.classLink RL 29 "java/lang/IllegalStateException") (by decide +kernel)) (va_Nw.use rfl (hE.2.2.2.1 (exN 3) (by decide +kernel))) hc9 hv9 hf9 ?_
      refine lv_astore (lv' := [(4, .ref q9), (0, .ref (ad 0)), (1, .int p0), (2, .int p1), (3, .ref ao)]) hx hb dL_root_21 hl (by decide) rfl (fun ls hl => ?_)
      refine lv_iconst (v := 3) hx hb dL_root_23 (by decide) ?_
      refine W.widen (k := 4) (n := 24) (Nat.le_of_ble_eq_true rfl) (Nat.le_of_ble_eq_true rfl) ?_
      exact W.iret (v := 3) hx hb hr (fun t ht hW => ⟨⟨3, (S, o), rfl, by rw [hw]; rfl, by show va_P D pCl _ t.heap; rw [ht]; exact hP⟩, hS.F ht⟩) hS.2.2 dL_root_24
    · subst hB
      have hpass : ∀ z ∈ ([⟨0, 10, 13, 13⟩, ⟨0, 10, 17, 15⟩, ⟨0, 10, 21, 29⟩] : List ExceptionTableEntry), covers z 5 = false ∨ (z.catchType ≠ 0 ∧ ∃ nm : String, (Cond.classLink RL z.catchType nm).before (#[.ref (ad 0), .int p0, .int p1, .ref ao] : Array Value) s = true ∧ va_Nc (exN 4) nm s) := by
        intro z hz
        simp only [List.mem_cons, List.not_mem_nil, or_false] at hz
        rcases hz with rfl | rfl | rfl
        · exact Or.inr ⟨by decide, "java/lang/IndexOutOfBoundsException", hts (.classLink RL 13 "java/lang/IndexOutOfBoundsException") (by decide +kernel), hNc 4 1 (by decide) (by decide) (by decide) (by decide) (by decide)⟩
        · exact Or.inr ⟨by decide, "java/lang/IllegalArgumentException", hts (.classLink RL 15 "java/lang/IllegalArgumentException") (by decide +kernel), hNc 4 2 (by decide) (by decide) (by decide) (by decide) (by decide)⟩
        · exact Or.inr ⟨by decide, "java/lang/IllegalStateException", hts (.classLink RL 29 "java/lang/IllegalStateException") (by decide +kernel), hNc 4 3 (by decide) (by decide) (by decide) (by decide) (by decide)⟩
      refine vx_catch (name := "java/lang/ArithmeticException") hown [⟨0, 10, 13, 13⟩, ⟨0, 10, 17, 15⟩, ⟨0, 10, 21, 29⟩] ⟨0, 10, 25, 31⟩ [] (by rw [htb]; rfl) hpass (by decide) (by decide) (hts (.classLink RL 31 "java/lang/ArithmeticException") (by decide +kernel)) (va_Nw.use rfl (hE.2.2.2.1 (exN 4) (by decide +kernel))) hc9 hv9 hf9 ?_
      refine lv_astore (lv' := [(4, .ref q9), (0, .ref (ad 0)), (1, .int p0), (2, .int p1), (3, .ref ao)]) hx hb dL_root_25 hl (by decide) rfl (fun ls hl => ?_)
      refine lv_iconst (v := 4) hx hb dL_root_27 (by decide) ?_
      refine W.widen (k := 4) (n := 24) (Nat.le_of_ble_eq_true rfl) (Nat.le_of_ble_eq_true rfl) ?_
      exact W.iret (v := 4) hx hb hr (fun t ht hW => ⟨⟨4, (S, o), rfl, by rw [hw]; rfl, by show va_P D pCl _ t.heap; rw [ht]; exact hP⟩, hS.F ht⟩) hS.2.2 dL_root_28
  · have hP := hP.kept (fun k q hk9 => hk _ (vx_lt hP hk9) (fun h => h))
    refine lv_i2l hx hb dL_root_8 rfl ?_
    refine va_last hx hb hK hP hD hS 8 1 rfl rfl in01 dL_root_9 (fun H locs hP hD hS => ?_)
    refine lv_goto (tgt := 29) hx hb dL_root_10 (by decide) ?_
    refine lv_iconst (v := 0) hx hb dL_root_29 (by decide) ?_
    refine W.widen (k := 4) (n := 24) (Nat.le_of_ble_eq_true rfl) (Nat.le_of_ble_eq_true rfl) ?_
    exact W.iret (v := 0) hx hb hr (fun t ht hW => ⟨⟨0, (S, vp_updL o (0 : Int32).toNatClampNeg ((r : Int32).toInt64)), rfl, by rw [hw]; rfl, by show va_P D pCl _ t.heap; rw [ht]; exact hP⟩, hS.F ht⟩) hS.2.2 dL_root_30

set_option maxHeartbeats 4000000 in
set_option maxRecDepth 100000 in
theorem met_L_sum (l : Launch) (hfl : l.stackTraces = false) (D : va_G) (cI cJ : ClassId) (ad : Nat → Nat) (ao : Nat) (A : Nat → Prop) (S : pS) (o : Nat → Int64) (p0 : Int32) (p1 : Int32)  : Met l yL_sum wsL_sum ({ frames := 9, cells := 3, slots := 18, locals := 152 } : Room) (va_Pc [.ref (ad 0), .int p0, .int p1, .ref ao] (fun U => va_P D pCl (xW cI cJ ad ao S o) U.heap ∧ va_K D pCl (pTy cI cJ) U ∧ va_D A (xW cI cJ ad ao S o) ∧ xE (fun _ => False) U U.heap ∧ xN U)) (va_Qi (fun (r : Int32) (u : pS × (Nat → Int64)) => wrL [2, 5] S o (f_X0_sum S p0 p1) = (r, u)) (fun u t => va_P D pCl (xW cI cJ ad ao u.1 u.2) t.heap) A) 3 18 A := by
  refine Met_ofWH (cc := cL_sum) (maxL := 5) (ret := (some .int)) (by decide) rfl ?_
  intro p e s m args below meth c s₁ B hml hv
  obtain ⟨rfl, hP, hK, hD, hE, hNc⟩ := hv
  have hx := B.exec
  have hb := B.bytes
  have hr := B.returns
  have hts := atoms_spec (ws := wsL_sum) B.pre
  have hown : s.vm.findClass RL = some m.cls := findClass_of_methodNamed B.named
  have hlocks := B.notSynchronized
  have htb := vx_table (x := yL_sum) B (hts _ List.mem_cons_self)
  have hS0 : va_S (fun _ => False) s.heap s.heap [] := va_S.rf
  have hS : va_S A s.heap s.heap [] := va_S.rf
  have hl := lv_entry ([.ref (ad 0), .int p0, .int p1, .ref ao]) (n := 5) (Nat.le_of_ble_eq_true rfl)
  rw [lg_entry_eq]
  generalize (lg_sl ([.ref (ad 0), .int p0, .int p1, .ref ao]) ++ List.replicate (5 - (lg_sl ([.ref (ad 0), .int p0, .int p1, .ref ao])).length) Slot.unset).toArray = ls at hl ⊢
  have hl : lv_has ls 5 [(0, .ref (ad 0)), (1, .int p0), (2, .int p1), (3, .ref ao)] := hl
  have hPc := hP.sub (ws' := pmW cI cJ ad S) [0, 1, 2, 3, 4, 5, 6, 7] rfl
  refine lv_aload_n hx hb dL_sum_0 rfl (lv_at hl 3 rfl) ?_
  refine lv_iconst (v := 0) hx hb dL_sum_1 (by decide) ?_
  refine lv_aload_n hx hb dL_sum_2 rfl (lv_at hl 0 rfl) ?_
  refine lv_iload_n hx hb dL_sum_3 rfl (lv_at hl 1 rfl) ?_
  refine lv_iload_n hx hb dL_sum_4 rfl (lv_at hl 2 rfl) ?_
  refine vx_calll (vx_runV (As := [.int p0, .int p1]) (rest := [.int 0, .ref ao]) ⟨hx, hb, hml, hown, hts⟩ (met_X0_sum l hfl D cI cJ ad S p0 p1) (cwV 2 hts gL_sum_X0_sum rfl rfl rfl (by decide +kernel) ⟨Nat.le_of_ble_eq_true rfl, Nat.le_of_ble_eq_true rfl⟩) ⟨fun a U g mk q => ⟨q.1, b0R_calling q.2.1, xE_calling q.2.2⟩, va_recv hK hPc (ci := 0) (q0 := 0) rfl rfl, fun U hU hW => ⟨rfl, b0R_at hPc hK hU hW, xE_at hE hS0 hU hW⟩⟩ rfl rfl hl.1 rfl (lv_room (Nat.le_of_ble_eq_true rfl)) dL_sum_5 ⟨Nat.le_of_ble_eq_true rfl, Nat.le_of_ble_eq_true rfl⟩) hS (fun q _ h => h.elim) (fun q h => h.elim) (fun q _ h => h.elim) (fun E ce q9 k9 t H locs ht hvm hw hB hz hk hS hc9 hv9 hf9 => ?_) (fun r u t H locs ht hvm hw hB hz hk hS => ?_)
  · have hP := hP.kept (fun k q hk9 => hk _ (vx_lt hP hk9) (fun h => h))
    rcases err_sum hw with rfl | rfl
    · subst hB
      refine vx_catch (name := "java/lang/IllegalArgumentException") hown [] ⟨0, 9, 12, 15⟩ [⟨0, 9, 16, 21⟩] (by rw [htb]; rfl) (fun z hz => nomatch hz) (by decide) (by decide) (hts (.classLink RL 15 "java/lang/IllegalArgumentException") (by decide +kernel)) (va_Nw.use rfl (hE.2.2.2.1 (exN 2) (by decide +kernel))) hc9 hv9 hf9 ?_
      refine lv_astore (lv' := [(4, .ref q9), (0, .ref (ad 0)), (1, .int p0), (2, .int p1), (3, .ref ao)]) hx hb dL_sum_12 hl (by decide) rfl (fun ls hl => ?_)
      refine lv_iconst (v := 1) hx hb dL_sum_14 (by decide) ?_
      refine W.widen (k := 3) (n := 18) (Nat.le_of_ble_eq_true rfl) (Nat.le_of_ble_eq_true rfl) ?_
      exact W.iret (v := 1) hx hb hr (fun t ht hW => ⟨⟨1, (S, o), rfl, by rw [hw]; rfl, by show va_P D pCl _ t.heap; rw [ht]; exact hP⟩, hS.F ht⟩) hS.2.2 dL_sum_15
    · subst hB
      have hpass : ∀ z ∈ ([⟨0, 9, 12, 15⟩] : List ExceptionTableEntry), covers z 5 = false ∨ (z.catchType ≠ 0 ∧ ∃ nm : String, (Cond.classLink RL z.catchType nm).before (#[.ref (ad 0), .int p0, .int p1, .ref ao] : Array Value) s = true ∧ va_Nc (exN 5) nm s) := by
        intro z hz
        simp only [List.mem_cons, List.not_mem_nil, or_false] at hz
        rcases hz with rfl
        · exact Or.inr ⟨by decide, "java/lang/IllegalArgumentException", hts (.classLink RL 15 "java/lang/IllegalArgumentException") (by decide +kernel), hNc 5 2 (by decide) (by decide) (by decide) (by decide) (by decide)⟩
      refine vx_catch (name := "java/lang/UnsupportedOperationException") hown [⟨0, 9, 12, 15⟩] ⟨0, 9, 16, 21⟩ [] (by rw [htb]; rfl) hpass (by decide) (by decide) (hts (.classLink RL 21 "java/lang/UnsupportedOperationException") (by decide +kernel)) (va_Nw.use rfl (hE.2.2.2.1 (exN 5) (by decide +kernel))) hc9 hv9 hf9 ?_
      refine lv_astore (lv' := [(4, .ref q9), (0, .ref (ad 0)), (1, .int p0), (2, .int p1), (3, .ref ao)]) hx hb dL_sum_16 hl (by decide) rfl (fun ls hl => ?_)
      refine lv_iconst (v := 2) hx hb dL_sum_18 (by decide) ?_
      refine W.widen (k := 3) (n := 18) (Nat.le_of_ble_eq_true rfl) (Nat.le_of_ble_eq_true rfl) ?_
      exact W.iret (v := 2) hx hb hr (fun t ht hW => ⟨⟨2, (S, o), rfl, by rw [hw]; rfl, by show va_P D pCl _ t.heap; rw [ht]; exact hP⟩, hS.F ht⟩) hS.2.2 dL_sum_19
  · have hP := hP.kept (fun k q hk9 => hk _ (vx_lt hP hk9) (fun h => h))
    refine va_last hx hb hK hP hD hS 8 1 rfl rfl in01 dL_sum_8 (fun H locs hP hD hS => ?_)
    refine lv_goto (tgt := 20) hx hb dL_sum_9 (by decide) ?_
    refine lv_iconst (v := 0) hx hb dL_sum_20 (by decide) ?_
    refine W.widen (k := 3) (n := 18) (Nat.le_of_ble_eq_true rfl) (Nat.le_of_ble_eq_true rfl) ?_
    exact W.iret (v := 0) hx hb hr (fun t ht hW => ⟨⟨0, (S, vp_updL o (0 : Int32).toNatClampNeg r), rfl, by rw [hw]; rfl, by show va_P D pCl _ t.heap; rw [ht]; exact hP⟩, hS.F ht⟩) hS.2.2 dL_sum_21

set_option maxHeartbeats 4000000 in
set_option maxRecDepth 100000 in
theorem met_L_rest (l : Launch) (hfl : l.stackTraces = false) (D : va_G) (cI cJ : ClassId) (ad : Nat → Nat) (ao : Nat) (A : Nat → Prop) (S : pS) (o : Nat → Int64) (p0 : Int32) (p1 : Int32) (p2 : Int32)  : Met l yL_rest wsL_rest ({ frames := 9, cells := 4, slots := 24, locals := 150 } : Room) (va_Pc [.ref (ad 0), .int p0, .int p1, .int p2, .ref ao] (fun U => va_P D pCl (xW cI cJ ad ao S o) U.heap ∧ va_K D pCl (pTy cI cJ) U ∧ va_D A (xW cI cJ ad ao S o) ∧ xE (fun _ => False) U U.heap ∧ xN U)) (va_Qi (fun (r : Int32) (u : pS × (Nat → Int64)) => wrI [2, 5] S o (f_X0_rest S p0 p1 p2) = (r, u)) (fun u t => va_P D pCl (xW cI cJ ad ao u.1 u.2) t.heap) A) 4 24 A := by
  refine Met_ofWH (cc := cL_rest) (maxL := 6) (ret := (some .int)) (by decide) rfl ?_
  intro p e s m args below meth c s₁ B hml hv
  obtain ⟨rfl, hP, hK, hD, hE, hNc⟩ := hv
  have hx := B.exec
  have hb := B.bytes
  have hr := B.returns
  have hts := atoms_spec (ws := wsL_rest) B.pre
  have hown : s.vm.findClass RL = some m.cls := findClass_of_methodNamed B.named
  have hlocks := B.notSynchronized
  have htb := vx_table (x := yL_rest) B (hts _ List.mem_cons_self)
  have hS0 : va_S (fun _ => False) s.heap s.heap [] := va_S.rf
  have hS : va_S A s.heap s.heap [] := va_S.rf
  have hl := lv_entry ([.ref (ad 0), .int p0, .int p1, .int p2, .ref ao]) (n := 6) (Nat.le_of_ble_eq_true rfl)
  rw [lg_entry_eq]
  generalize (lg_sl ([.ref (ad 0), .int p0, .int p1, .int p2, .ref ao]) ++ List.replicate (6 - (lg_sl ([.ref (ad 0), .int p0, .int p1, .int p2, .ref ao])).length) Slot.unset).toArray = ls at hl ⊢
  have hl : lv_has ls 6 [(0, .ref (ad 0)), (1, .int p0), (2, .int p1), (3, .int p2), (4, .ref ao)] := hl
  have hPc := hP.sub (ws' := pmW cI cJ ad S) [0, 1, 2, 3, 4, 5, 6, 7] rfl
  refine lv_aload hx hb dL_rest_0 (lv_at hl 4 rfl) ?_
  refine lv_iconst (v := 0) hx hb dL_rest_2 (by decide) ?_
  refine lv_aload_n hx hb dL_rest_3 rfl (lv_at hl 0 rfl) ?_
  refine lv_iload_n hx hb dL_rest_4 rfl (lv_at hl 1 rfl) ?_
  refine lv_iload_n hx hb dL_rest_5 rfl (lv_at hl 2 rfl) ?_
  refine lv_iload_n hx hb dL_rest_6 rfl (lv_at hl 3 rfl) ?_
  refine vx_calli (vx_runV (As := [.int p0, .int p1, .int p2]) (rest := [.int 0, .ref ao]) ⟨hx, hb, hml, hown, hts⟩ (met_X0_rest l hfl D cI cJ ad S p0 p1 p2) (cwV 3 hts gL_rest_X0_rest rfl rfl rfl (by decide +kernel) ⟨Nat.le_of_ble_eq_true rfl, Nat.le_of_ble_eq_true rfl⟩) ⟨fun a U g mk q => ⟨q.1, b0R_calling q.2.1, xE_calling q.2.2⟩, va_recv hK hPc (ci := 0) (q0 := 0) rfl rfl, fun U hU hW => ⟨rfl, b0R_at hPc hK hU hW, xE_at hE hS0 hU hW⟩⟩ rfl rfl hl.1 rfl (lv_room (Nat.le_of_ble_eq_true rfl)) dL_rest_7 ⟨Nat.le_of_ble_eq_true rfl, Nat.le_of_ble_eq_true rfl⟩) hS (fun q _ h => h.elim) (fun q h => h.elim) (fun q _ h => h.elim) (fun E ce q9 k9 t H locs ht hvm hw hB hz hk hS hc9 hv9 hf9 => ?_) (fun r u t H locs ht hvm hw hB hz hk hS => ?_)
  · have hP := hP.kept (fun k q hk9 => hk _ (vx_lt hP hk9) (fun h => h))
    rcases err_rest hw with rfl | rfl
    · subst hB
      refine vx_catch (name := "java/lang/IllegalArgumentException") hown [] ⟨0, 12, 15, 15⟩ [⟨0, 12, 19, 21⟩] (by rw [htb]; rfl) (fun z hz => nomatch hz) (by decide) (by decide) (hts (.classLink RL 15 "java/lang/IllegalArgumentException") (by decide +kernel)) (va_Nw.use rfl (hE.2.2.2.1 (exN 2) (by decide +kernel))) hc9 hv9 hf9 ?_
      refine lv_astore (lv' := [(5, .ref q9), (0, .ref (ad 0)), (1, .int p0), (2, .int p1), (3, .int p2), (4, .ref ao)]) hx hb dL_rest_15 hl (by decide) rfl (fun ls hl => ?_)
      refine lv_iconst (v := 1) hx hb dL_rest_17 (by decide) ?_
      refine W.widen (k := 4) (n := 24) (Nat.le_of_ble_eq_true rfl) (Nat.le_of_ble_eq_true rfl) ?_
      exact W.iret (v := 1) hx hb hr (fun t ht hW => ⟨⟨1, (S, o), rfl, by rw [hw]; rfl, by show va_P D pCl _ t.heap; rw [ht]; exact hP⟩, hS.F ht⟩) hS.2.2 dL_rest_18
    · subst hB
      have hpass : ∀ z ∈ ([⟨0, 12, 15, 15⟩] : List ExceptionTableEntry), covers z 7 = false ∨ (z.catchType ≠ 0 ∧ ∃ nm : String, (Cond.classLink RL z.catchType nm).before (#[.ref (ad 0), .int p0, .int p1, .int p2, .ref ao] : Array Value) s = true ∧ va_Nc (exN 5) nm s) := by
        intro z hz
        simp only [List.mem_cons, List.not_mem_nil, or_false] at hz
        rcases hz with rfl
        · exact Or.inr ⟨by decide, "java/lang/IllegalArgumentException", hts (.classLink RL 15 "java/lang/IllegalArgumentException") (by decide +kernel), hNc 5 2 (by decide) (by decide) (by decide) (by decide) (by decide)⟩
      refine vx_catch (name := "java/lang/UnsupportedOperationException") hown [⟨0, 12, 15, 15⟩] ⟨0, 12, 19, 21⟩ [] (by rw [htb]; rfl) hpass (by decide) (by decide) (hts (.classLink RL 21 "java/lang/UnsupportedOperationException") (by decide +kernel)) (va_Nw.use rfl (hE.2.2.2.1 (exN 5) (by decide +kernel))) hc9 hv9 hf9 ?_
      refine lv_astore (lv' := [(5, .ref q9), (0, .ref (ad 0)), (1, .int p0), (2, .int p1), (3, .int p2), (4, .ref ao)]) hx hb dL_rest_19 hl (by decide) rfl (fun ls hl => ?_)
      refine lv_iconst (v := 2) hx hb dL_rest_21 (by decide) ?_
      refine W.widen (k := 4) (n := 24) (Nat.le_of_ble_eq_true rfl) (Nat.le_of_ble_eq_true rfl) ?_
      exact W.iret (v := 2) hx hb hr (fun t ht hW => ⟨⟨2, (S, o), rfl, by rw [hw]; rfl, by show va_P D pCl _ t.heap; rw [ht]; exact hP⟩, hS.F ht⟩) hS.2.2 dL_rest_22
  · have hP := hP.kept (fun k q hk9 => hk _ (vx_lt hP hk9) (fun h => h))
    refine lv_i2l hx hb dL_rest_10 rfl ?_
    refine va_last hx hb hK hP hD hS 8 1 rfl rfl in01 dL_rest_11 (fun H locs hP hD hS => ?_)
    refine lv_goto (tgt := 23) hx hb dL_rest_12 (by decide) ?_
    refine lv_iconst (v := 0) hx hb dL_rest_23 (by decide) ?_
    refine W.widen (k := 4) (n := 24) (Nat.le_of_ble_eq_true rfl) (Nat.le_of_ble_eq_true rfl) ?_
    exact W.iret (v := 0) hx hb hr (fun t ht hW => ⟨⟨0, (S, vp_updL o (0 : Int32).toNatClampNeg ((r : Int32).toInt64)), rfl, by rw [hw]; rfl, by show va_P D pCl _ t.heap; rw [ht]; exact hP⟩, hS.F ht⟩) hS.2.2 dL_rest_24

set_option maxHeartbeats 4000000 in
set_option maxRecDepth 100000 in
theorem met_L_isFermat (l : Launch) (hfl : l.stackTraces = false) (D : va_G) (cI cJ : ClassId) (ad : Nat → Nat) (ao : Nat) (A : Nat → Prop) (S : pS) (o : Nat → Int64) (p0 : Int32) (p1 : Int32)  : Met l yL_isFermat wsL_isFermat ({ frames := 9, cells := 4, slots := 24, locals := 149 } : Room) (va_Pc [.ref (ad 0), .int p0, .int p1, .ref ao] (fun U => va_P D pCl (xW cI cJ ad ao S o) U.heap ∧ va_K D pCl (pTy cI cJ) U ∧ va_D A (xW cI cJ ad ao S o) ∧ xE (fun _ => False) U U.heap ∧ xN U)) (va_Qi (fun (r : Int32) (u : pS × (Nat → Int64)) => wrZ [2, 5] S o (f_X0_isFermat S p0 p1) = (r, u)) (fun u t => va_P D pCl (xW cI cJ ad ao u.1 u.2) t.heap) A) 4 24 A := by
  refine Met_ofWH (cc := cL_isFermat) (maxL := 5) (ret := (some .int)) (by decide) rfl ?_
  intro p e s m args below meth c s₁ B hml hv
  obtain ⟨rfl, hP, hK, hD, hE, hNc⟩ := hv
  have hx := B.exec
  have hb := B.bytes
  have hr := B.returns
  have hts := atoms_spec (ws := wsL_isFermat) B.pre
  have hown : s.vm.findClass RL = some m.cls := findClass_of_methodNamed B.named
  have hlocks := B.notSynchronized
  have htb := vx_table (x := yL_isFermat) B (hts _ List.mem_cons_self)
  have hS0 : va_S (fun _ => False) s.heap s.heap [] := va_S.rf
  have hS : va_S A s.heap s.heap [] := va_S.rf
  have hl := lv_entry ([.ref (ad 0), .int p0, .int p1, .ref ao]) (n := 5) (Nat.le_of_ble_eq_true rfl)
  rw [lg_entry_eq]
  generalize (lg_sl ([.ref (ad 0), .int p0, .int p1, .ref ao]) ++ List.replicate (5 - (lg_sl ([.ref (ad 0), .int p0, .int p1, .ref ao])).length) Slot.unset).toArray = ls at hl ⊢
  have hl : lv_has ls 5 [(0, .ref (ad 0)), (1, .int p0), (2, .int p1), (3, .ref ao)] := hl
  have hPc := hP.sub (ws' := pmW cI cJ ad S) [0, 1, 2, 3, 4, 5, 6, 7] rfl
  refine lv_aload_n hx hb dL_isFermat_0 rfl (lv_at hl 3 rfl) ?_
  refine lv_iconst (v := 0) hx hb dL_isFermat_1 (by decide) ?_
  refine lv_aload_n hx hb dL_isFermat_2 rfl (lv_at hl 0 rfl) ?_
  refine lv_iload_n hx hb dL_isFermat_3 rfl (lv_at hl 1 rfl) ?_
  refine lv_iload_n hx hb dL_isFermat_4 rfl (lv_at hl 2 rfl) ?_
  refine vx_calli (vx_runV (As := [.int p0, .int p1]) (rest := [.int 0, .ref ao]) ⟨hx, hb, hml, hown, hts⟩ (met_X0_isFermat l hfl D cI cJ ad S p0 p1) (cwV 2 hts gL_isFermat_X0_isFermat rfl rfl rfl (by decide +kernel) ⟨Nat.le_of_ble_eq_true rfl, Nat.le_of_ble_eq_true rfl⟩) ⟨fun a U g mk q => ⟨q.1, b0R_calling q.2.1, xE_calling q.2.2⟩, va_recv hK hPc (ci := 0) (q0 := 0) rfl rfl, fun U hU hW => ⟨rfl, b0R_at hPc hK hU hW, xE_at hE hS0 hU hW⟩⟩ rfl rfl hl.1 rfl (lv_room (Nat.le_of_ble_eq_true rfl)) dL_isFermat_5 ⟨Nat.le_of_ble_eq_true rfl, Nat.le_of_ble_eq_true rfl⟩) hS (fun q _ h => h.elim) (fun q h => h.elim) (fun q _ h => h.elim) (fun E ce q9 k9 t H locs ht hvm hw hB hz hk hS hc9 hv9 hf9 => ?_) (fun r u t H locs ht hvm hw hB hz hk hS => ?_)
  · have hP := hP.kept (fun k q hk9 => hk _ (vx_lt hP hk9) (fun h => h))
    rcases err_isFermat hw with rfl | rfl
    · subst hB
      refine vx_catch (name := "java/lang/IllegalArgumentException") hown [] ⟨0, 17, 20, 15⟩ [⟨0, 17, 24, 21⟩] (by rw [htb]; rfl) (fun z hz => nomatch hz) (by decide) (by decide) (hts (.classLink RL 15 "java/lang/IllegalArgumentException") (by decide +kernel)) (va_Nw.use rfl (hE.2.2.2.1 (exN 2) (by decide +kernel))) hc9 hv9 hf9 ?_
      refine lv_astore (lv' := [(4, .ref q9), (0, .ref (ad 0)), (1, .int p0), (2, .int p1), (3, .ref ao)]) hx hb dL_isFermat_20 hl (by decide) rfl (fun ls hl => ?_)
      refine lv_iconst (v := 1) hx hb dL_isFermat_22 (by decide) ?_
      refine W.widen (k := 4) (n := 24) (Nat.le_of_ble_eq_true rfl) (Nat.le_of_ble_eq_true rfl) ?_
      exact W.iret (v := 1) hx hb hr (fun t ht hW => ⟨⟨1, (S, o), rfl, by rw [hw]; rfl, by show va_P D pCl _ t.heap; rw [ht]; exact hP⟩, hS.F ht⟩) hS.2.2 dL_isFermat_23
    · subst hB
      have hpass : ∀ z ∈ ([⟨0, 17, 20, 15⟩] : List ExceptionTableEntry), covers z 5 = false ∨ (z.catchType ≠ 0 ∧ ∃ nm : String, (Cond.classLink RL z.catchType nm).before (#[.ref (ad 0), .int p0, .int p1, .ref ao] : Array Value) s = true ∧ va_Nc (exN 5) nm s) := by
        intro z hz
        simp only [List.mem_cons, List.not_mem_nil, or_false] at hz
        rcases hz with rfl
        · exact Or.inr ⟨by decide, "java/lang/IllegalArgumentException", hts (.classLink RL 15 "java/lang/IllegalArgumentException") (by decide +kernel), hNc 5 2 (by decide) (by decide) (by decide) (by decide) (by decide)⟩
      refine vx_catch (name := "java/lang/UnsupportedOperationException") hown [⟨0, 17, 20, 15⟩] ⟨0, 17, 24, 21⟩ [] (by rw [htb]; rfl) hpass (by decide) (by decide) (hts (.classLink RL 21 "java/lang/UnsupportedOperationException") (by decide +kernel)) (va_Nw.use rfl (hE.2.2.2.1 (exN 5) (by decide +kernel))) hc9 hv9 hf9 ?_
      refine lv_astore (lv' := [(4, .ref q9), (0, .ref (ad 0)), (1, .int p0), (2, .int p1), (3, .ref ao)]) hx hb dL_isFermat_24 hl (by decide) rfl (fun ls hl => ?_)
      refine lv_iconst (v := 2) hx hb dL_isFermat_26 (by decide) ?_
      refine W.widen (k := 4) (n := 24) (Nat.le_of_ble_eq_true rfl) (Nat.le_of_ble_eq_true rfl) ?_
      exact W.iret (v := 2) hx hb hr (fun t ht hW => ⟨⟨2, (S, o), rfl, by rw [hw]; rfl, by show va_P D pCl _ t.heap; rw [ht]; exact hP⟩, hS.F ht⟩) hS.2.2 dL_isFermat_27
  · have hP := hP.kept (fun k q hk9 => hk _ (vx_lt hP hk9) (fun h => h))
    obtain ⟨hw, -⟩ := hw
    refine lv_if_eq (tgt := 15) hx hb dL_isFermat_8 (by decide) (fun cz => ?_) (fun cz => ?_)
    · refine lv_lconst (v := 0) hx hb dL_isFermat_15 rfl ?_
      refine va_last hx hb hK hP hD hS 8 1 rfl rfl in01 dL_isFermat_16 (fun H locs hP hD hS => ?_)
      refine lv_goto (tgt := 28) hx hb dL_isFermat_17 (by decide) ?_
      refine lv_iconst (v := 0) hx hb dL_isFermat_28 (by decide) ?_
      refine W.widen (k := 4) (n := 24) (Nat.le_of_ble_eq_true rfl) (Nat.le_of_ble_eq_true rfl) ?_
      exact W.iret (v := 0) hx hb hr (fun t ht hW => ⟨⟨0, (S, vp_updL o (0 : Int32).toNatClampNeg 0), rfl, by rw [hw]; simp only [wrZ, if_pos cz], by show va_P D pCl _ t.heap; rw [ht]; exact hP⟩, hS.F ht⟩) hS.2.2 dL_isFermat_29
    · refine lv_lconst (v := 1) hx hb dL_isFermat_11 rfl ?_
      refine lv_goto (tgt := 16) hx hb dL_isFermat_12 (by decide) ?_
      refine va_last hx hb hK hP hD hS 8 1 rfl rfl in01 dL_isFermat_16 (fun H locs hP hD hS => ?_)
      refine lv_goto (tgt := 28) hx hb dL_isFermat_17 (by decide) ?_
      refine lv_iconst (v := 0) hx hb dL_isFermat_28 (by decide) ?_
      refine W.widen (k := 4) (n := 24) (Nat.le_of_ble_eq_true rfl) (Nat.le_of_ble_eq_true rfl) ?_
      exact W.iret (v := 0) hx hb hr (fun t ht hW => ⟨⟨0, (S, vp_updL o (0 : Int32).toNatClampNeg 1), rfl, by rw [hw]; simp only [wrZ, if_neg cz], by show va_P D pCl _ t.heap; rw [ht]; exact hP⟩, hS.F ht⟩) hS.2.2 dL_isFermat_29

set_option maxHeartbeats 4000000 in
set_option maxRecDepth 100000 in
theorem met_L_isChain (l : Launch) (hfl : l.stackTraces = false) (D : va_G) (cI cJ : ClassId) (ad : Nat → Nat) (ao : Nat) (A : Nat → Prop) (S : pS) (o : Nat → Int64) (p0 : Int32) (p1 : Int32)  : Met l yL_isChain wsL_isChain ({ frames := 9, cells := 3, slots := 18, locals := 152 } : Room) (va_Pc [.ref (ad 0), .int p0, .int p1, .ref ao] (fun U => va_P D pCl (xW cI cJ ad ao S o) U.heap ∧ va_K D pCl (pTy cI cJ) U ∧ va_D A (xW cI cJ ad ao S o) ∧ xE (fun _ => False) U U.heap ∧ xN U)) (va_Qi (fun (r : Int32) (u : pS × (Nat → Int64)) => wrZ [2, 5] S o (f_X0_isChain S p0 p1) = (r, u)) (fun u t => va_P D pCl (xW cI cJ ad ao u.1 u.2) t.heap) A) 3 18 A := by
  refine Met_ofWH (cc := cL_isChain) (maxL := 5) (ret := (some .int)) (by decide) rfl ?_
  intro p e s m args below meth c s₁ B hml hv
  obtain ⟨rfl, hP, hK, hD, hE, hNc⟩ := hv
  have hx := B.exec
  have hb := B.bytes
  have hr := B.returns
  have hts := atoms_spec (ws := wsL_isChain) B.pre
  have hown : s.vm.findClass RL = some m.cls := findClass_of_methodNamed B.named
  have hlocks := B.notSynchronized
  have htb := vx_table (x := yL_isChain) B (hts _ List.mem_cons_self)
  have hS0 : va_S (fun _ => False) s.heap s.heap [] := va_S.rf
  have hS : va_S A s.heap s.heap [] := va_S.rf
  have hl := lv_entry ([.ref (ad 0), .int p0, .int p1, .ref ao]) (n := 5) (Nat.le_of_ble_eq_true rfl)
  rw [lg_entry_eq]
  generalize (lg_sl ([.ref (ad 0), .int p0, .int p1, .ref ao]) ++ List.replicate (5 - (lg_sl ([.ref (ad 0), .int p0, .int p1, .ref ao])).length) Slot.unset).toArray = ls at hl ⊢
  have hl : lv_has ls 5 [(0, .ref (ad 0)), (1, .int p0), (2, .int p1), (3, .ref ao)] := hl
  have hPc := hP.sub (ws' := pmW cI cJ ad S) [0, 1, 2, 3, 4, 5, 6, 7] rfl
  refine lv_aload_n hx hb dL_isChain_0 rfl (lv_at hl 3 rfl) ?_
  refine lv_iconst (v := 0) hx hb dL_isChain_1 (by decide) ?_
  refine lv_aload_n hx hb dL_isChain_2 rfl (lv_at hl 0 rfl) ?_
  refine lv_iload_n hx hb dL_isChain_3 rfl (lv_at hl 1 rfl) ?_
  refine lv_iload_n hx hb dL_isChain_4 rfl (lv_at hl 2 rfl) ?_
  refine vx_calli (vx_runV (As := [.int p0, .int p1]) (rest := [.int 0, .ref ao]) ⟨hx, hb, hml, hown, hts⟩ (met_X0_isChain l hfl D cI cJ ad S p0 p1) (cwV 2 hts gL_isChain_X0_isChain rfl rfl rfl (by decide +kernel) ⟨Nat.le_of_ble_eq_true rfl, Nat.le_of_ble_eq_true rfl⟩) ⟨fun a U g mk q => ⟨q.1, b0R_calling q.2.1, xE_calling q.2.2⟩, va_recv hK hPc (ci := 0) (q0 := 0) rfl rfl, fun U hU hW => ⟨rfl, b0R_at hPc hK hU hW, xE_at hE hS0 hU hW⟩⟩ rfl rfl hl.1 rfl (lv_room (Nat.le_of_ble_eq_true rfl)) dL_isChain_5 ⟨Nat.le_of_ble_eq_true rfl, Nat.le_of_ble_eq_true rfl⟩) hS (fun q _ h => h.elim) (fun q h => h.elim) (fun q _ h => h.elim) (fun E ce q9 k9 t H locs ht hvm hw hB hz hk hS hc9 hv9 hf9 => ?_) (fun r u t H locs ht hvm hw hB hz hk hS => ?_)
  · have hP := hP.kept (fun k q hk9 => hk _ (vx_lt hP hk9) (fun h => h))
    rcases err_isChain hw with rfl | rfl
    · subst hB
      refine vx_catch (name := "java/lang/IllegalArgumentException") hown [] ⟨0, 17, 20, 15⟩ [⟨0, 17, 24, 21⟩] (by rw [htb]; rfl) (fun z hz => nomatch hz) (by decide) (by decide) (hts (.classLink RL 15 "java/lang/IllegalArgumentException") (by decide +kernel)) (va_Nw.use rfl (hE.2.2.2.1 (exN 2) (by decide +kernel))) hc9 hv9 hf9 ?_
      refine lv_astore (lv' := [(4, .ref q9), (0, .ref (ad 0)), (1, .int p0), (2, .int p1), (3, .ref ao)]) hx hb dL_isChain_20 hl (by decide) rfl (fun ls hl => ?_)
      refine lv_iconst (v := 1) hx hb dL_isChain_22 (by decide) ?_
      refine W.widen (k := 3) (n := 18) (Nat.le_of_ble_eq_true rfl) (Nat.le_of_ble_eq_true rfl) ?_
      exact W.iret (v := 1) hx hb hr (fun t ht hW => ⟨⟨1, (S, o), rfl, by rw [hw]; rfl, by show va_P D pCl _ t.heap; rw [ht]; exact hP⟩, hS.F ht⟩) hS.2.2 dL_isChain_23
    · subst hB
      have hpass : ∀ z ∈ ([⟨0, 17, 20, 15⟩] : List ExceptionTableEntry), covers z 5 = false ∨ (z.catchType ≠ 0 ∧ ∃ nm : String, (Cond.classLink RL z.catchType nm).before (#[.ref (ad 0), .int p0, .int p1, .ref ao] : Array Value) s = true ∧ va_Nc (exN 5) nm s) := by
        intro z hz
        simp only [List.mem_cons, List.not_mem_nil, or_false] at hz
        rcases hz with rfl
        · exact Or.inr ⟨by decide, "java/lang/IllegalArgumentException", hts (.classLink RL 15 "java/lang/IllegalArgumentException") (by decide +kernel), hNc 5 2 (by decide) (by decide) (by decide) (by decide) (by decide)⟩
      refine vx_catch (name := "java/lang/UnsupportedOperationException") hown [⟨0, 17, 20, 15⟩] ⟨0, 17, 24, 21⟩ [] (by rw [htb]; rfl) hpass (by decide) (by decide) (hts (.classLink RL 21 "java/lang/UnsupportedOperationException") (by decide +kernel)) (va_Nw.use rfl (hE.2.2.2.1 (exN 5) (by decide +kernel))) hc9 hv9 hf9 ?_
      refine lv_astore (lv' := [(4, .ref q9), (0, .ref (ad 0)), (1, .int p0), (2, .int p1), (3, .ref ao)]) hx hb dL_isChain_24 hl (by decide) rfl (fun ls hl => ?_)
      refine lv_iconst (v := 2) hx hb dL_isChain_26 (by decide) ?_
      refine W.widen (k := 3) (n := 18) (Nat.le_of_ble_eq_true rfl) (Nat.le_of_ble_eq_true rfl) ?_
      exact W.iret (v := 2) hx hb hr (fun t ht hW => ⟨⟨2, (S, o), rfl, by rw [hw]; rfl, by show va_P D pCl _ t.heap; rw [ht]; exact hP⟩, hS.F ht⟩) hS.2.2 dL_isChain_27
  · have hP := hP.kept (fun k q hk9 => hk _ (vx_lt hP hk9) (fun h => h))
    obtain ⟨hw, -⟩ := hw
    refine lv_if_eq (tgt := 15) hx hb dL_isChain_8 (by decide) (fun cz => ?_) (fun cz => ?_)
    · refine lv_lconst (v := 0) hx hb dL_isChain_15 rfl ?_
      refine va_last hx hb hK hP hD hS 8 1 rfl rfl in01 dL_isChain_16 (fun H locs hP hD hS => ?_)
      refine lv_goto (tgt := 28) hx hb dL_isChain_17 (by decide) ?_
      refine lv_iconst (v := 0) hx hb dL_isChain_28 (by decide) ?_
      refine W.widen (k := 3) (n := 18) (Nat.le_of_ble_eq_true rfl) (Nat.le_of_ble_eq_true rfl) ?_
      exact W.iret (v := 0) hx hb hr (fun t ht hW => ⟨⟨0, (S, vp_updL o (0 : Int32).toNatClampNeg 0), rfl, by rw [hw]; simp only [wrZ, if_pos cz], by show va_P D pCl _ t.heap; rw [ht]; exact hP⟩, hS.F ht⟩) hS.2.2 dL_isChain_29
    · refine lv_lconst (v := 1) hx hb dL_isChain_11 rfl ?_
      refine lv_goto (tgt := 16) hx hb dL_isChain_12 (by decide) ?_
      refine va_last hx hb hK hP hD hS 8 1 rfl rfl in01 dL_isChain_16 (fun H locs hP hD hS => ?_)
      refine lv_goto (tgt := 28) hx hb dL_isChain_17 (by decide) ?_
      refine lv_iconst (v := 0) hx hb dL_isChain_28 (by decide) ?_
      refine W.widen (k := 3) (n := 18) (Nat.le_of_ble_eq_true rfl) (Nat.le_of_ble_eq_true rfl) ?_
      exact W.iret (v := 0) hx hb hr (fun t ht hW => ⟨⟨0, (S, vp_updL o (0 : Int32).toNatClampNeg 1), rfl, by rw [hw]; simp only [wrZ, if_neg cz], by show va_P D pCl _ t.heap; rw [ht]; exact hP⟩, hS.F ht⟩) hS.2.2 dL_isChain_29

set_option maxHeartbeats 4000000 in
set_option maxRecDepth 100000 in
theorem met_L_addsUp (l : Launch) (hfl : l.stackTraces = false) (D : va_G) (cI cJ : ClassId) (ad : Nat → Nat) (ao : Nat) (A : Nat → Prop) (S : pS) (o : Nat → Int64) (p0 : Int32) (p1 : Int32) (p2 : Int32) (hnn : ∀ (u1 u2 u3 u4 : Unit), f_X0_checkBaseAndExponent p0 p1 = .ok u1 → f_X0_checkRange p2 0 64 = .ok u2 → f_X0_checkRange (p1 + p2) 0 64 = .ok u3 → f_X0_checkTold p0 (p1 + p2) = .ok u4 → FP.Core.val64 (FP.dmul (f_X0_powerAsDouble p0 p1) (f_X0_powerAsDouble p0 p2)) ≠ .nan) : Met l yL_addsUp wsL_addsUp ({ frames := 9, cells := 5, slots := 30, locals := 152 } : Room) (va_Pc [.ref (ad 0), .int p0, .int p1, .int p2, .ref ao] (fun U => va_P D pCl (xW cI cJ ad ao S o) U.heap ∧ va_K D pCl (pTy cI cJ) U ∧ va_D A (xW cI cJ ad ao S o) ∧ xE (fun _ => False) U U.heap ∧ xN U)) (va_Qi (fun (r : Int32) (u : pS × (Nat → Int64)) => wrZ [2, 5] S o (f_X0_addsUp S p0 p1 p2) = (r, u)) (fun u t => va_P D pCl (xW cI cJ ad ao u.1 u.2) t.heap) A) 5 30 A := by
  refine Met_ofWH (cc := cL_addsUp) (maxL := 6) (ret := (some .int)) (by decide) rfl ?_
  intro p e s m args below meth c s₁ B hml hv
  obtain ⟨rfl, hP, hK, hD, hE, hNc⟩ := hv
  have hx := B.exec
  have hb := B.bytes
  have hr := B.returns
  have hts := atoms_spec (ws := wsL_addsUp) B.pre
  have hown : s.vm.findClass RL = some m.cls := findClass_of_methodNamed B.named
  have hlocks := B.notSynchronized
  have htb := vx_table (x := yL_addsUp) B (hts _ List.mem_cons_self)
  have hS0 : va_S (fun _ => False) s.heap s.heap [] := va_S.rf
  have hS : va_S A s.heap s.heap [] := va_S.rf
  have hl := lv_entry ([.ref (ad 0), .int p0, .int p1, .int p2, .ref ao]) (n := 6) (Nat.le_of_ble_eq_true rfl)
  rw [lg_entry_eq]
  generalize (lg_sl ([.ref (ad 0), .int p0, .int p1, .int p2, .ref ao]) ++ List.replicate (6 - (lg_sl ([.ref (ad 0), .int p0, .int p1, .int p2, .ref ao])).length) Slot.unset).toArray = ls at hl ⊢
  have hl : lv_has ls 6 [(0, .ref (ad 0)), (1, .int p0), (2, .int p1), (3, .int p2), (4, .ref ao)] := hl
  have hPc := hP.sub (ws' := pmW cI cJ ad S) [0, 1, 2, 3, 4, 5, 6, 7] rfl
  refine lv_aload hx hb dL_addsUp_0 (lv_at hl 4 rfl) ?_
  refine lv_iconst (v := 0) hx hb dL_addsUp_2 (by decide) ?_
  refine lv_aload_n hx hb dL_addsUp_3 rfl (lv_at hl 0 rfl) ?_
  refine lv_iload_n hx hb dL_addsUp_4 rfl (lv_at hl 1 rfl) ?_
  refine lv_iload_n hx hb dL_addsUp_5 rfl (lv_at hl 2 rfl) ?_
  refine lv_iload_n hx hb dL_addsUp_6 rfl (lv_at hl 3 rfl) ?_
  refine vx_calli (vx_runV (As := [.int p0, .int p1, .int p2]) (rest := [.int 0, .ref ao]) ⟨hx, hb, hml, hown, hts⟩ (met_X0_addsUp l hfl D cI cJ ad S p0 p1 p2 hnn) (cwV 3 hts gL_addsUp_X0_addsUp rfl rfl rfl (by decide +kernel) ⟨Nat.le_of_ble_eq_true rfl, Nat.le_of_ble_eq_true rfl⟩) ⟨fun a U g mk q => ⟨q.1, b0R_calling q.2.1, xE_calling q.2.2⟩, va_recv hK hPc (ci := 0) (q0 := 0) rfl rfl, fun U hU hW => ⟨rfl, b0R_at hPc hK hU hW, xE_at hE hS0 hU hW⟩⟩ rfl rfl hl.1 rfl (lv_room (Nat.le_of_ble_eq_true rfl)) dL_addsUp_7 ⟨Nat.le_of_ble_eq_true rfl, Nat.le_of_ble_eq_true rfl⟩) hS (fun q _ h => h.elim) (fun q h => h.elim) (fun q _ h => h.elim) (fun E ce q9 k9 t H locs ht hvm hw hB hz hk hS hc9 hv9 hf9 => ?_) (fun r u t H locs ht hvm hw hB hz hk hS => ?_)
  · have hP := hP.kept (fun k q hk9 => hk _ (vx_lt hP hk9) (fun h => h))
    rcases err_addsUp hw with rfl | rfl
    · subst hB
      refine vx_catch (name := "java/lang/IllegalArgumentException") hown [] ⟨0, 19, 22, 15⟩ [⟨0, 19, 26, 21⟩] (by rw [htb]; rfl) (fun z hz => nomatch hz) (by decide) (by decide) (hts (.classLink RL 15 "java/lang/IllegalArgumentException") (by decide +kernel)) (va_Nw.use rfl (hE.2.2.2.1 (exN 2) (by decide +kernel))) hc9 hv9 hf9 ?_
      refine lv_astore (lv' := [(5, .ref q9), (0, .ref (ad 0)), (1, .int p0), (2, .int p1), (3, .int p2), (4, .ref ao)]) hx hb dL_addsUp_22 hl (by decide) rfl (fun ls hl => ?_)
      refine lv_iconst (v := 1) hx hb dL_addsUp_24 (by decide) ?_
      refine W.widen (k := 5) (n := 30) (Nat.le_of_ble_eq_true rfl) (Nat.le_of_ble_eq_true rfl) ?_
      exact W.iret (v := 1) hx hb hr (fun t ht hW => ⟨⟨1, (S, o), rfl, by rw [hw]; rfl, by show va_P D pCl _ t.heap; rw [ht]; exact hP⟩, hS.F ht⟩) hS.2.2 dL_addsUp_25
    · subst hB
      have hpass : ∀ z ∈ ([⟨0, 19, 22, 15⟩] : List ExceptionTableEntry), covers z 7 = false ∨ (z.catchType ≠ 0 ∧ ∃ nm : String, (Cond.classLink RL z.catchType nm).before (#[.ref (ad 0), .int p0, .int p1, .int p2, .ref ao] : Array Value) s = true ∧ va_Nc (exN 5) nm s) := by
        intro z hz
        simp only [List.mem_cons, List.not_mem_nil, or_false] at hz
        rcases hz with rfl
        · exact Or.inr ⟨by decide, "java/lang/IllegalArgumentException", hts (.classLink RL 15 "java/lang/IllegalArgumentException") (by decide +kernel), hNc 5 2 (by decide) (by decide) (by decide) (by decide) (by decide)⟩
      refine vx_catch (name := "java/lang/UnsupportedOperationException") hown [⟨0, 19, 22, 15⟩] ⟨0, 19, 26, 21⟩ [] (by rw [htb]; rfl) hpass (by decide) (by decide) (hts (.classLink RL 21 "java/lang/UnsupportedOperationException") (by decide +kernel)) (va_Nw.use rfl (hE.2.2.2.1 (exN 5) (by decide +kernel))) hc9 hv9 hf9 ?_
      refine lv_astore (lv' := [(5, .ref q9), (0, .ref (ad 0)), (1, .int p0), (2, .int p1), (3, .int p2), (4, .ref ao)]) hx hb dL_addsUp_26 hl (by decide) rfl (fun ls hl => ?_)
      refine lv_iconst (v := 2) hx hb dL_addsUp_28 (by decide) ?_
      refine W.widen (k := 5) (n := 30) (Nat.le_of_ble_eq_true rfl) (Nat.le_of_ble_eq_true rfl) ?_
      exact W.iret (v := 2) hx hb hr (fun t ht hW => ⟨⟨2, (S, o), rfl, by rw [hw]; rfl, by show va_P D pCl _ t.heap; rw [ht]; exact hP⟩, hS.F ht⟩) hS.2.2 dL_addsUp_29
  · have hP := hP.kept (fun k q hk9 => hk _ (vx_lt hP hk9) (fun h => h))
    obtain ⟨hw, -⟩ := hw
    refine lv_if_eq (tgt := 17) hx hb dL_addsUp_10 (by decide) (fun cz => ?_) (fun cz => ?_)
    · refine lv_lconst (v := 0) hx hb dL_addsUp_17 rfl ?_
      refine va_last hx hb hK hP hD hS 8 1 rfl rfl in01 dL_addsUp_18 (fun H locs hP hD hS => ?_)
      refine lv_goto (tgt := 30) hx hb dL_addsUp_19 (by decide) ?_
      refine lv_iconst (v := 0) hx hb dL_addsUp_30 (by decide) ?_
      refine W.widen (k := 5) (n := 30) (Nat.le_of_ble_eq_true rfl) (Nat.le_of_ble_eq_true rfl) ?_
      exact W.iret (v := 0) hx hb hr (fun t ht hW => ⟨⟨0, (S, vp_updL o (0 : Int32).toNatClampNeg 0), rfl, by rw [hw]; simp only [wrZ, if_pos cz], by show va_P D pCl _ t.heap; rw [ht]; exact hP⟩, hS.F ht⟩) hS.2.2 dL_addsUp_31
    · refine lv_lconst (v := 1) hx hb dL_addsUp_13 rfl ?_
      refine lv_goto (tgt := 18) hx hb dL_addsUp_14 (by decide) ?_
      refine va_last hx hb hK hP hD hS 8 1 rfl rfl in01 dL_addsUp_18 (fun H locs hP hD hS => ?_)
      refine lv_goto (tgt := 30) hx hb dL_addsUp_19 (by decide) ?_
      refine lv_iconst (v := 0) hx hb dL_addsUp_30 (by decide) ?_
      refine W.widen (k := 5) (n := 30) (Nat.le_of_ble_eq_true rfl) (Nat.le_of_ble_eq_true rfl) ?_
      exact W.iret (v := 0) hx hb hr (fun t ht hW => ⟨⟨0, (S, vp_updL o (0 : Int32).toNatClampNeg 1), rfl, by rw [hw]; simp only [wrZ, if_neg cz], by show va_P D pCl _ t.heap; rw [ht]; exact hP⟩, hS.F ht⟩) hS.2.2 dL_addsUp_31

set_option maxHeartbeats 4000000 in
set_option maxRecDepth 100000 in
theorem met_L_isNested (l : Launch) (hfl : l.stackTraces = false) (D : va_G) (cI cJ : ClassId) (ad : Nat → Nat) (ao : Nat) (A : Nat → Prop) (S : pS) (o : Nat → Int64) (p0 : Int32) (p1 : Int32) (p2 : Int32)  : Met l yL_isNested wsL_isNested ({ frames := 9, cells := 6, slots := 36, locals := 156 } : Room) (va_Pc [.ref (ad 0), .int p0, .int p1, .int p2, .ref ao] (fun U => va_P D pCl (xW cI cJ ad ao S o) U.heap ∧ va_K D pCl (pTy cI cJ) U ∧ va_D A (xW cI cJ ad ao S o) ∧ xE (fun _ => False) U U.heap ∧ xN U)) (va_Qi (fun (r : Int32) (u : pS × (Nat → Int64)) => wrZ [2, 5] S o (f_X0_isNested S p0 p1 p2) = (r, u)) (fun u t => va_P D pCl (xW cI cJ ad ao u.1 u.2) t.heap) A) 6 36 A := by
  refine Met_ofWH (cc := cL_isNested) (maxL := 6) (ret := (some .int)) (by decide) rfl ?_
  intro p e s m args below meth c s₁ B hml hv
  obtain ⟨rfl, hP, hK, hD, hE, hNc⟩ := hv
  have hx := B.exec
  have hb := B.bytes
  have hr := B.returns
  have hts := atoms_spec (ws := wsL_isNested) B.pre
  have hown : s.vm.findClass RL = some m.cls := findClass_of_methodNamed B.named
  have hlocks := B.notSynchronized
  have htb := vx_table (x := yL_isNested) B (hts _ List.mem_cons_self)
  have hS0 : va_S (fun _ => False) s.heap s.heap [] := va_S.rf
  have hS : va_S A s.heap s.heap [] := va_S.rf
  have hl := lv_entry ([.ref (ad 0), .int p0, .int p1, .int p2, .ref ao]) (n := 6) (Nat.le_of_ble_eq_true rfl)
  rw [lg_entry_eq]
  generalize (lg_sl ([.ref (ad 0), .int p0, .int p1, .int p2, .ref ao]) ++ List.replicate (6 - (lg_sl ([.ref (ad 0), .int p0, .int p1, .int p2, .ref ao])).length) Slot.unset).toArray = ls at hl ⊢
  have hl : lv_has ls 6 [(0, .ref (ad 0)), (1, .int p0), (2, .int p1), (3, .int p2), (4, .ref ao)] := hl
  have hPc := hP.sub (ws' := pmW cI cJ ad S) [0, 1, 2, 3, 4, 5, 6, 7] rfl
  refine lv_aload hx hb dL_isNested_0 (lv_at hl 4 rfl) ?_
  refine lv_iconst (v := 0) hx hb dL_isNested_2 (by decide) ?_
  refine lv_aload_n hx hb dL_isNested_3 rfl (lv_at hl 0 rfl) ?_
  refine lv_iload_n hx hb dL_isNested_4 rfl (lv_at hl 1 rfl) ?_
  refine lv_iload_n hx hb dL_isNested_5 rfl (lv_at hl 2 rfl) ?_
  refine lv_iload_n hx hb dL_isNested_6 rfl (lv_at hl 3 rfl) ?_
  refine vx_calli (vx_runV (As := [.int p0, .int p1, .int p2]) (rest := [.int 0, .ref ao]) ⟨hx, hb, hml, hown, hts⟩ (met_X0_isNested l hfl D cI cJ ad S p0 p1 p2) (cwV 3 hts gL_isNested_X0_isNested rfl rfl rfl (by decide +kernel) ⟨Nat.le_of_ble_eq_true rfl, Nat.le_of_ble_eq_true rfl⟩) ⟨fun a U g mk q => ⟨q.1, b0R_calling q.2.1, xE_calling q.2.2⟩, va_recv hK hPc (ci := 0) (q0 := 0) rfl rfl, fun U hU hW => ⟨rfl, b0R_at hPc hK hU hW, xE_at hE hS0 hU hW⟩⟩ rfl rfl hl.1 rfl (lv_room (Nat.le_of_ble_eq_true rfl)) dL_isNested_7 ⟨Nat.le_of_ble_eq_true rfl, Nat.le_of_ble_eq_true rfl⟩) hS (fun q _ h => h.elim) (fun q h => h.elim) (fun q _ h => h.elim) (fun E ce q9 k9 t H locs ht hvm hw hB hz hk hS hc9 hv9 hf9 => ?_) (fun r u t H locs ht hvm hw hB hz hk hS => ?_)
  · have hP := hP.kept (fun k q hk9 => hk _ (vx_lt hP hk9) (fun h => h))
    rcases err_isNested hw with rfl | rfl
    · subst hB
      refine vx_catch (name := "java/lang/IllegalArgumentException") hown [] ⟨0, 19, 22, 15⟩ [⟨0, 19, 26, 21⟩] (by rw [htb]; rfl) (fun z hz => nomatch hz) (by decide) (by decide) (hts (.classLink RL 15 "java/lang/IllegalArgumentException") (by decide +kernel)) (va_Nw.use rfl (hE.2.2.2.1 (exN 2) (by decide +kernel))) hc9 hv9 hf9 ?_
      refine lv_astore (lv' := [(5, .ref q9), (0, .ref (ad 0)), (1, .int p0), (2, .int p1), (3, .int p2), (4, .ref ao)]) hx hb dL_isNested_22 hl (by decide) rfl (fun ls hl => ?_)
      refine lv_iconst (v := 1) hx hb dL_isNested_24 (by decide) ?_
      refine W.widen (k := 6) (n := 36) (Nat.le_of_ble_eq_true rfl) (Nat.le_of_ble_eq_true rfl) ?_
      exact W.iret (v := 1) hx hb hr (fun t ht hW => ⟨⟨1, (S, o), rfl, by rw [hw]; rfl, by show va_P D pCl _ t.heap; rw [ht]; exact hP⟩, hS.F ht⟩) hS.2.2 dL_isNested_25
    · subst hB
      have hpass : ∀ z ∈ ([⟨0, 19, 22, 15⟩] : List ExceptionTableEntry), covers z 7 = false ∨ (z.catchType ≠ 0 ∧ ∃ nm : String, (Cond.classLink RL z.catchType nm).before (#[.ref (ad 0), .int p0, .int p1, .int p2, .ref ao] : Array Value) s = true ∧ va_Nc (exN 5) nm s) := by
        intro z hz
        simp only [List.mem_cons, List.not_mem_nil, or_false] at hz
        rcases hz with rfl
        · exact Or.inr ⟨by decide, "java/lang/IllegalArgumentException", hts (.classLink RL 15 "java/lang/IllegalArgumentException") (by decide +kernel), hNc 5 2 (by decide) (by decide) (by decide) (by decide) (by decide)⟩
      refine vx_catch (name := "java/lang/UnsupportedOperationException") hown [⟨0, 19, 22, 15⟩] ⟨0, 19, 26, 21⟩ [] (by rw [htb]; rfl) hpass (by decide) (by decide) (hts (.classLink RL 21 "java/lang/UnsupportedOperationException") (by decide +kernel)) (va_Nw.use rfl (hE.2.2.2.1 (exN 5) (by decide +kernel))) hc9 hv9 hf9 ?_
      refine lv_astore (lv' := [(5, .ref q9), (0, .ref (ad 0)), (1, .int p0), (2, .int p1), (3, .int p2), (4, .ref ao)]) hx hb dL_isNested_26 hl (by decide) rfl (fun ls hl => ?_)
      refine lv_iconst (v := 2) hx hb dL_isNested_28 (by decide) ?_
      refine W.widen (k := 6) (n := 36) (Nat.le_of_ble_eq_true rfl) (Nat.le_of_ble_eq_true rfl) ?_
      exact W.iret (v := 2) hx hb hr (fun t ht hW => ⟨⟨2, (S, o), rfl, by rw [hw]; rfl, by show va_P D pCl _ t.heap; rw [ht]; exact hP⟩, hS.F ht⟩) hS.2.2 dL_isNested_29
  · have hP := hP.kept (fun k q hk9 => hk _ (vx_lt hP hk9) (fun h => h))
    obtain ⟨hw, -⟩ := hw
    refine lv_if_eq (tgt := 17) hx hb dL_isNested_10 (by decide) (fun cz => ?_) (fun cz => ?_)
    · refine lv_lconst (v := 0) hx hb dL_isNested_17 rfl ?_
      refine va_last hx hb hK hP hD hS 8 1 rfl rfl in01 dL_isNested_18 (fun H locs hP hD hS => ?_)
      refine lv_goto (tgt := 30) hx hb dL_isNested_19 (by decide) ?_
      refine lv_iconst (v := 0) hx hb dL_isNested_30 (by decide) ?_
      refine W.widen (k := 6) (n := 36) (Nat.le_of_ble_eq_true rfl) (Nat.le_of_ble_eq_true rfl) ?_
      exact W.iret (v := 0) hx hb hr (fun t ht hW => ⟨⟨0, (S, vp_updL o (0 : Int32).toNatClampNeg 0), rfl, by rw [hw]; simp only [wrZ, if_pos cz], by show va_P D pCl _ t.heap; rw [ht]; exact hP⟩, hS.F ht⟩) hS.2.2 dL_isNested_31
    · refine lv_lconst (v := 1) hx hb dL_isNested_13 rfl ?_
      refine lv_goto (tgt := 18) hx hb dL_isNested_14 (by decide) ?_
      refine va_last hx hb hK hP hD hS 8 1 rfl rfl in01 dL_isNested_18 (fun H locs hP hD hS => ?_)
      refine lv_goto (tgt := 30) hx hb dL_isNested_19 (by decide) ?_
      refine lv_iconst (v := 0) hx hb dL_isNested_30 (by decide) ?_
      refine W.widen (k := 6) (n := 36) (Nat.le_of_ble_eq_true rfl) (Nat.le_of_ble_eq_true rfl) ?_
      exact W.iret (v := 0) hx hb hr (fun t ht hW => ⟨⟨0, (S, vp_updL o (0 : Int32).toNatClampNeg 1), rfl, by rw [hw]; simp only [wrZ, if_neg cz], by show va_P D pCl _ t.heap; rw [ht]; exact hP⟩, hS.F ht⟩) hS.2.2 dL_isNested_31

set_option maxHeartbeats 4000000 in
set_option maxRecDepth 100000 in
theorem met_L_rootBits (l : Launch) (hfl : l.stackTraces = false) (D : va_G) (cI cJ : ClassId) (ad : Nat → Nat) (ao : Nat) (A : Nat → Prop) (S : pS) (o : Nat → Int64) (p0 : Int32)  : Met l yL_rootBits wsL_rootBits ({ frames := 8, cells := 1, slots := 6, locals := 127 } : Room) (va_Pc [.ref (ad 0), .int p0, .ref ao] (fun U => va_P D pCl (xW cI cJ ad ao S o) U.heap ∧ va_K D pCl (pTy cI cJ) U ∧ va_D A (xW cI cJ ad ao S o) ∧ xE (fun _ => False) U U.heap ∧ xN U)) (va_Qi (fun (r : Int32) (u : pS × (Nat → Int64)) => wrL [2] S o (f_X0_rootBits S p0) = (r, u)) (fun u t => va_P D pCl (xW cI cJ ad ao u.1 u.2) t.heap) A) 1 6 A := by
  refine Met_ofWH (cc := cL_rootBits) (maxL := 4) (ret := (some .int)) (by decide) rfl ?_
  intro p e s m args below meth c s₁ B hml hv
  obtain ⟨rfl, hP, hK, hD, hE, hNc⟩ := hv
  have hx := B.exec
  have hb := B.bytes
  have hr := B.returns
  have hts := atoms_spec (ws := wsL_rootBits) B.pre
  have hown : s.vm.findClass RL = some m.cls := findClass_of_methodNamed B.named
  have hlocks := B.notSynchronized
  have htb := vx_table (x := yL_rootBits) B (hts _ List.mem_cons_self)
  have hS0 : va_S (fun _ => False) s.heap s.heap [] := va_S.rf
  have hS : va_S A s.heap s.heap [] := va_S.rf
  have hl := lv_entry ([.ref (ad 0), .int p0, .ref ao]) (n := 4) (Nat.le_of_ble_eq_true rfl)
  rw [lg_entry_eq]
  generalize (lg_sl ([.ref (ad 0), .int p0, .ref ao]) ++ List.replicate (4 - (lg_sl ([.ref (ad 0), .int p0, .ref ao])).length) Slot.unset).toArray = ls at hl ⊢
  have hl : lv_has ls 4 [(0, .ref (ad 0)), (1, .int p0), (2, .ref ao)] := hl
  have hPc := hP.sub (ws' := pmW cI cJ ad S) [0, 1, 2, 3, 4, 5, 6, 7] rfl
  refine lv_aload_n hx hb dL_rootBits_0 rfl (lv_at hl 2 rfl) ?_
  refine lv_iconst (v := 0) hx hb dL_rootBits_1 (by decide) ?_
  refine lv_aload_n hx hb dL_rootBits_2 rfl (lv_at hl 0 rfl) ?_
  refine lv_iload_n hx hb dL_rootBits_3 rfl (lv_at hl 1 rfl) ?_
  refine vx_calll (vx_runV (As := [.int p0]) (rest := [.int 0, .ref ao]) ⟨hx, hb, hml, hown, hts⟩ (met_X0_rootBits l hfl D cI cJ ad S p0) (cwV 1 hts gL_rootBits_X0_rootBits rfl rfl rfl (by decide +kernel) ⟨Nat.le_of_ble_eq_true rfl, Nat.le_of_ble_eq_true rfl⟩) ⟨fun a U g mk q => ⟨q.1, b0R_calling q.2.1, xE_calling q.2.2⟩, va_recv hK hPc (ci := 0) (q0 := 0) rfl rfl, fun U hU hW => ⟨rfl, b0R_at hPc hK hU hW, xE_at hE hS0 hU hW⟩⟩ rfl rfl hl.1 rfl (lv_room (Nat.le_of_ble_eq_true rfl)) dL_rootBits_4 ⟨Nat.le_of_ble_eq_true rfl, Nat.le_of_ble_eq_true rfl⟩) hS (fun q _ h => h.elim) (fun q h => h.elim) (fun q _ h => h.elim) (fun E ce q9 k9 t H locs ht hvm hw hB hz hk hS hc9 hv9 hf9 => ?_) (fun r u t H locs ht hvm hw hB hz hk hS => ?_)
  · have hP := hP.kept (fun k q hk9 => hk _ (vx_lt hP hk9) (fun h => h))
    rcases err_rootBits hw with rfl
    · subst hB
      refine vx_catch (name := "java/lang/IllegalArgumentException") hown [] ⟨0, 8, 11, 15⟩ [] (by rw [htb]; rfl) (fun z hz => nomatch hz) (by decide) (by decide) (hts (.classLink RL 15 "java/lang/IllegalArgumentException") (by decide +kernel)) (va_Nw.use rfl (hE.2.2.2.1 (exN 2) (by decide +kernel))) hc9 hv9 hf9 ?_
      refine lv_astore_n (lv' := [(3, .ref q9), (0, .ref (ad 0)), (1, .int p0), (2, .ref ao)]) hx hb dL_rootBits_11 rfl hl (by decide) rfl (fun ls hl => ?_)
      refine lv_iconst (v := 1) hx hb dL_rootBits_12 (by decide) ?_
      refine W.widen (k := 1) (n := 6) (Nat.le_of_ble_eq_true rfl) (Nat.le_of_ble_eq_true rfl) ?_
      exact W.iret (v := 1) hx hb hr (fun t ht hW => ⟨⟨1, (S, o), rfl, by rw [hw]; rfl, by show va_P D pCl _ t.heap; rw [ht]; exact hP⟩, hS.F ht⟩) hS.2.2 dL_rootBits_13
  · have hP := hP.kept (fun k q hk9 => hk _ (vx_lt hP hk9) (fun h => h))
    refine va_last hx hb hK hP hD hS 8 1 rfl rfl in01 dL_rootBits_7 (fun H locs hP hD hS => ?_)
    refine lv_goto (tgt := 14) hx hb dL_rootBits_8 (by decide) ?_
    refine lv_iconst (v := 0) hx hb dL_rootBits_14 (by decide) ?_
    refine W.widen (k := 1) (n := 6) (Nat.le_of_ble_eq_true rfl) (Nat.le_of_ble_eq_true rfl) ?_
    exact W.iret (v := 0) hx hb hr (fun t ht hW => ⟨⟨0, (S, vp_updL o (0 : Int32).toNatClampNeg r), rfl, by rw [hw]; rfl, by show va_P D pCl _ t.heap; rw [ht]; exact hP⟩, hS.F ht⟩) hS.2.2 dL_rootBits_15

set_option maxHeartbeats 4000000 in
set_option maxRecDepth 100000 in
theorem met_L_isRoot (l : Launch) (hfl : l.stackTraces = false) (D : va_G) (cI cJ : ClassId) (ad : Nat → Nat) (ao : Nat) (A : Nat → Prop) (S : pS) (o : Nat → Int64) (p0 : Int32)  : Met l yL_isRoot wsL_isRoot ({ frames := 8, cells := 1, slots := 6, locals := 127 } : Room) (va_Pc [.ref (ad 0), .int p0, .ref ao] (fun U => va_P D pCl (xW cI cJ ad ao S o) U.heap ∧ va_K D pCl (pTy cI cJ) U ∧ va_D A (xW cI cJ ad ao S o) ∧ xE (fun _ => False) U U.heap ∧ xN U)) (va_Qi (fun (r : Int32) (u : pS × (Nat → Int64)) => wrZ [2] S o (f_X0_isRoot S p0) = (r, u)) (fun u t => va_P D pCl (xW cI cJ ad ao u.1 u.2) t.heap) A) 1 6 A := by
  refine Met_ofWH (cc := cL_isRoot) (maxL := 4) (ret := (some .int)) (by decide) rfl ?_
  intro p e s m args below meth c s₁ B hml hv
  obtain ⟨rfl, hP, hK, hD, hE, hNc⟩ := hv
  have hx := B.exec
  have hb := B.bytes
  have hr := B.returns
  have hts := atoms_spec (ws := wsL_isRoot) B.pre
  have hown : s.vm.findClass RL = some m.cls := findClass_of_methodNamed B.named
  have hlocks := B.notSynchronized
  have htb := vx_table (x := yL_isRoot) B (hts _ List.mem_cons_self)
  have hS0 : va_S (fun _ => False) s.heap s.heap [] := va_S.rf
  have hS : va_S A s.heap s.heap [] := va_S.rf
  have hl := lv_entry ([.ref (ad 0), .int p0, .ref ao]) (n := 4) (Nat.le_of_ble_eq_true rfl)
  rw [lg_entry_eq]
  generalize (lg_sl ([.ref (ad 0), .int p0, .ref ao]) ++ List.replicate (4 - (lg_sl ([.ref (ad 0), .int p0, .ref ao])).length) Slot.unset).toArray = ls at hl ⊢
  have hl : lv_has ls 4 [(0, .ref (ad 0)), (1, .int p0), (2, .ref ao)] := hl
  have hPc := hP.sub (ws' := pmW cI cJ ad S) [0, 1, 2, 3, 4, 5, 6, 7] rfl
  refine lv_aload_n hx hb dL_isRoot_0 rfl (lv_at hl 2 rfl) ?_
  refine lv_iconst (v := 0) hx hb dL_isRoot_1 (by decide) ?_
  refine lv_aload_n hx hb dL_isRoot_2 rfl (lv_at hl 0 rfl) ?_
  refine lv_iload_n hx hb dL_isRoot_3 rfl (lv_at hl 1 rfl) ?_
  refine vx_calli (vx_runV (As := [.int p0]) (rest := [.int 0, .ref ao]) ⟨hx, hb, hml, hown, hts⟩ (met_X0_isRoot l hfl D cI cJ ad S p0) (cwV 1 hts gL_isRoot_X0_isRoot rfl rfl rfl (by decide +kernel) ⟨Nat.le_of_ble_eq_true rfl, Nat.le_of_ble_eq_true rfl⟩) ⟨fun a U g mk q => ⟨q.1, b0R_calling q.2.1, xE_calling q.2.2⟩, va_recv hK hPc (ci := 0) (q0 := 0) rfl rfl, fun U hU hW => ⟨rfl, b0R_at hPc hK hU hW, xE_at hE hS0 hU hW⟩⟩ rfl rfl hl.1 rfl (lv_room (Nat.le_of_ble_eq_true rfl)) dL_isRoot_4 ⟨Nat.le_of_ble_eq_true rfl, Nat.le_of_ble_eq_true rfl⟩) hS (fun q _ h => h.elim) (fun q h => h.elim) (fun q _ h => h.elim) (fun E ce q9 k9 t H locs ht hvm hw hB hz hk hS hc9 hv9 hf9 => ?_) (fun r u t H locs ht hvm hw hB hz hk hS => ?_)
  · have hP := hP.kept (fun k q hk9 => hk _ (vx_lt hP hk9) (fun h => h))
    rcases err_isRoot hw with rfl
    · subst hB
      refine vx_catch (name := "java/lang/IllegalArgumentException") hown [] ⟨0, 16, 19, 15⟩ [] (by rw [htb]; rfl) (fun z hz => nomatch hz) (by decide) (by decide) (hts (.classLink RL 15 "java/lang/IllegalArgumentException") (by decide +kernel)) (va_Nw.use rfl (hE.2.2.2.1 (exN 2) (by decide +kernel))) hc9 hv9 hf9 ?_
      refine lv_astore_n (lv' := [(3, .ref q9), (0, .ref (ad 0)), (1, .int p0), (2, .ref ao)]) hx hb dL_isRoot_19 rfl hl (by decide) rfl (fun ls hl => ?_)
      refine lv_iconst (v := 1) hx hb dL_isRoot_20 (by decide) ?_
      refine W.widen (k := 1) (n := 6) (Nat.le_of_ble_eq_true rfl) (Nat.le_of_ble_eq_true rfl) ?_
      exact W.iret (v := 1) hx hb hr (fun t ht hW => ⟨⟨1, (S, o), rfl, by rw [hw]; rfl, by show va_P D pCl _ t.heap; rw [ht]; exact hP⟩, hS.F ht⟩) hS.2.2 dL_isRoot_21
  · have hP := hP.kept (fun k q hk9 => hk _ (vx_lt hP hk9) (fun h => h))
    obtain ⟨hw, -⟩ := hw
    refine lv_if_eq (tgt := 14) hx hb dL_isRoot_7 (by decide) (fun cz => ?_) (fun cz => ?_)
    · refine lv_lconst (v := 0) hx hb dL_isRoot_14 rfl ?_
      refine va_last hx hb hK hP hD hS 8 1 rfl rfl in01 dL_isRoot_15 (fun H locs hP hD hS => ?_)
      refine lv_goto (tgt := 22) hx hb dL_isRoot_16 (by decide) ?_
      refine lv_iconst (v := 0) hx hb dL_isRoot_22 (by decide) ?_
      refine W.widen (k := 1) (n := 6) (Nat.le_of_ble_eq_true rfl) (Nat.le_of_ble_eq_true rfl) ?_
      exact W.iret (v := 0) hx hb hr (fun t ht hW => ⟨⟨0, (S, vp_updL o (0 : Int32).toNatClampNeg 0), rfl, by rw [hw]; simp only [wrZ, if_pos cz], by show va_P D pCl _ t.heap; rw [ht]; exact hP⟩, hS.F ht⟩) hS.2.2 dL_isRoot_23
    · refine lv_lconst (v := 1) hx hb dL_isRoot_10 rfl ?_
      refine lv_goto (tgt := 15) hx hb dL_isRoot_11 (by decide) ?_
      refine va_last hx hb hK hP hD hS 8 1 rfl rfl in01 dL_isRoot_15 (fun H locs hP hD hS => ?_)
      refine lv_goto (tgt := 22) hx hb dL_isRoot_16 (by decide) ?_
      refine lv_iconst (v := 0) hx hb dL_isRoot_22 (by decide) ?_
      refine W.widen (k := 1) (n := 6) (Nat.le_of_ble_eq_true rfl) (Nat.le_of_ble_eq_true rfl) ?_
      exact W.iret (v := 0) hx hb hr (fun t ht hW => ⟨⟨0, (S, vp_updL o (0 : Int32).toNatClampNeg 1), rfl, by rw [hw]; simp only [wrZ, if_neg cz], by show va_P D pCl _ t.heap; rw [ht]; exact hP⟩, hS.F ht⟩) hS.2.2 dL_isRoot_23

set_option maxHeartbeats 4000000 in
set_option maxRecDepth 100000 in
theorem met_L_rootAt (l : Launch) (hfl : l.stackTraces = false) (D : va_G) (cI cJ : ClassId) (ad : Nat → Nat) (ao : Nat) (A : Nat → Prop) (S : pS) (o : Nat → Int64) (p0 : Int32) (p1 : Int32)  : Met l yL_rootAt wsL_rootAt ({ frames := 8, cells := 2, slots := 12, locals := 128 } : Room) (va_Pc [.ref (ad 0), .int p0, .int p1, .ref ao] (fun U => va_P D pCl (xW cI cJ ad ao S o) U.heap ∧ va_K D pCl (pTy cI cJ) U ∧ va_D A (xW cI cJ ad ao S o) ∧ xE (fun _ => False) U U.heap ∧ xN U)) (va_Qi (fun (r : Int32) (u : pS × (Nat → Int64)) => wrL [2] S o (f_X0_rootAt S p0 p1) = (r, u)) (fun u t => va_P D pCl (xW cI cJ ad ao u.1 u.2) t.heap) A) 2 12 A := by
  refine Met_ofWH (cc := cL_rootAt) (maxL := 5) (ret := (some .int)) (by decide) rfl ?_
  intro p e s m args below meth c s₁ B hml hv
  obtain ⟨rfl, hP, hK, hD, hE, hNc⟩ := hv
  have hx := B.exec
  have hb := B.bytes
  have hr := B.returns
  have hts := atoms_spec (ws := wsL_rootAt) B.pre
  have hown : s.vm.findClass RL = some m.cls := findClass_of_methodNamed B.named
  have hlocks := B.notSynchronized
  have htb := vx_table (x := yL_rootAt) B (hts _ List.mem_cons_self)
  have hS0 : va_S (fun _ => False) s.heap s.heap [] := va_S.rf
  have hS : va_S A s.heap s.heap [] := va_S.rf
  have hl := lv_entry ([.ref (ad 0), .int p0, .int p1, .ref ao]) (n := 5) (Nat.le_of_ble_eq_true rfl)
  rw [lg_entry_eq]
  generalize (lg_sl ([.ref (ad 0), .int p0, .int p1, .ref ao]) ++ List.replicate (5 - (lg_sl ([.ref (ad 0), .int p0, .int p1, .ref ao])).length) Slot.unset).toArray = ls at hl ⊢
  have hl : lv_has ls 5 [(0, .ref (ad 0)), (1, .int p0), (2, .int p1), (3, .ref ao)] := hl
  have hPc := hP.sub (ws' := pmW cI cJ ad S) [0, 1, 2, 3, 4, 5, 6, 7] rfl
  refine lv_aload_n hx hb dL_rootAt_0 rfl (lv_at hl 3 rfl) ?_
  refine lv_iconst (v := 0) hx hb dL_rootAt_1 (by decide) ?_
  refine lv_aload_n hx hb dL_rootAt_2 rfl (lv_at hl 0 rfl) ?_
  refine lv_iload_n hx hb dL_rootAt_3 rfl (lv_at hl 1 rfl) ?_
  refine lv_iload_n hx hb dL_rootAt_4 rfl (lv_at hl 2 rfl) ?_
  refine vx_calll (vx_runV (As := [.int p0, .int p1]) (rest := [.int 0, .ref ao]) ⟨hx, hb, hml, hown, hts⟩ (met_X0_rootAt l hfl D cI cJ ad S p0 p1) (cwV 2 hts gL_rootAt_X0_rootAt rfl rfl rfl (by decide +kernel) ⟨Nat.le_of_ble_eq_true rfl, Nat.le_of_ble_eq_true rfl⟩) ⟨fun a U g mk q => ⟨q.1, b0R_calling q.2.1, xE_calling q.2.2⟩, va_recv hK hPc (ci := 0) (q0 := 0) rfl rfl, fun U hU hW => ⟨rfl, b0R_at hPc hK hU hW, xE_at hE hS0 hU hW⟩⟩ rfl rfl hl.1 rfl (lv_room (Nat.le_of_ble_eq_true rfl)) dL_rootAt_5 ⟨Nat.le_of_ble_eq_true rfl, Nat.le_of_ble_eq_true rfl⟩) hS (fun q _ h => h.elim) (fun q h => h.elim) (fun q _ h => h.elim) (fun E ce q9 k9 t H locs ht hvm hw hB hz hk hS hc9 hv9 hf9 => ?_) (fun r u t H locs ht hvm hw hB hz hk hS => ?_)
  · have hP := hP.kept (fun k q hk9 => hk _ (vx_lt hP hk9) (fun h => h))
    rcases err_rootAt hw with rfl
    · subst hB
      refine vx_catch (name := "java/lang/IllegalArgumentException") hown [] ⟨0, 9, 12, 15⟩ [] (by rw [htb]; rfl) (fun z hz => nomatch hz) (by decide) (by decide) (hts (.classLink RL 15 "java/lang/IllegalArgumentException") (by decide +kernel)) (va_Nw.use rfl (hE.2.2.2.1 (exN 2) (by decide +kernel))) hc9 hv9 hf9 ?_
      refine lv_astore (lv' := [(4, .ref q9), (0, .ref (ad 0)), (1, .int p0), (2, .int p1), (3, .ref ao)]) hx hb dL_rootAt_12 hl (by decide) rfl (fun ls hl => ?_)
      refine lv_iconst (v := 1) hx hb dL_rootAt_14 (by decide) ?_
      refine W.widen (k := 2) (n := 12) (Nat.le_of_ble_eq_true rfl) (Nat.le_of_ble_eq_true rfl) ?_
      exact W.iret (v := 1) hx hb hr (fun t ht hW => ⟨⟨1, (S, o), rfl, by rw [hw]; rfl, by show va_P D pCl _ t.heap; rw [ht]; exact hP⟩, hS.F ht⟩) hS.2.2 dL_rootAt_15
  · have hP := hP.kept (fun k q hk9 => hk _ (vx_lt hP hk9) (fun h => h))
    refine va_last hx hb hK hP hD hS 8 1 rfl rfl in01 dL_rootAt_8 (fun H locs hP hD hS => ?_)
    refine lv_goto (tgt := 16) hx hb dL_rootAt_9 (by decide) ?_
    refine lv_iconst (v := 0) hx hb dL_rootAt_16 (by decide) ?_
    refine W.widen (k := 2) (n := 12) (Nat.le_of_ble_eq_true rfl) (Nat.le_of_ble_eq_true rfl) ?_
    exact W.iret (v := 0) hx hb hr (fun t ht hW => ⟨⟨0, (S, vp_updL o (0 : Int32).toNatClampNeg r), rfl, by rw [hw]; rfl, by show va_P D pCl _ t.heap; rw [ht]; exact hP⟩, hS.F ht⟩) hS.2.2 dL_rootAt_17

set_option maxHeartbeats 4000000 in
set_option maxRecDepth 100000 in
theorem met_L_backBits (l : Launch) (hfl : l.stackTraces = false) (D : va_G) (cI cJ : ClassId) (ad : Nat → Nat) (ao : Nat) (A : Nat → Prop) (S : pS) (o : Nat → Int64) (p0 : Int32)  : Met l yL_backBits wsL_backBits ({ frames := 8, cells := 1, slots := 6, locals := 127 } : Room) (va_Pc [.ref (ad 0), .int p0, .ref ao] (fun U => va_P D pCl (xW cI cJ ad ao S o) U.heap ∧ va_K D pCl (pTy cI cJ) U ∧ va_D A (xW cI cJ ad ao S o) ∧ xE (fun _ => False) U U.heap ∧ xN U)) (va_Qi (fun (r : Int32) (u : pS × (Nat → Int64)) => wrL [2] S o (f_X0_backBits S p0) = (r, u)) (fun u t => va_P D pCl (xW cI cJ ad ao u.1 u.2) t.heap) A) 1 6 A := by
  refine Met_ofWH (cc := cL_backBits) (maxL := 4) (ret := (some .int)) (by decide) rfl ?_
  intro p e s m args below meth c s₁ B hml hv
  obtain ⟨rfl, hP, hK, hD, hE, hNc⟩ := hv
  have hx := B.exec
  have hb := B.bytes
  have hr := B.returns
  have hts := atoms_spec (ws := wsL_backBits) B.pre
  have hown : s.vm.findClass RL = some m.cls := findClass_of_methodNamed B.named
  have hlocks := B.notSynchronized
  have htb := vx_table (x := yL_backBits) B (hts _ List.mem_cons_self)
  have hS0 : va_S (fun _ => False) s.heap s.heap [] := va_S.rf
  have hS : va_S A s.heap s.heap [] := va_S.rf
  have hl := lv_entry ([.ref (ad 0), .int p0, .ref ao]) (n := 4) (Nat.le_of_ble_eq_true rfl)
  rw [lg_entry_eq]
  generalize (lg_sl ([.ref (ad 0), .int p0, .ref ao]) ++ List.replicate (4 - (lg_sl ([.ref (ad 0), .int p0, .ref ao])).length) Slot.unset).toArray = ls at hl ⊢
  have hl : lv_has ls 4 [(0, .ref (ad 0)), (1, .int p0), (2, .ref ao)] := hl
  have hPc := hP.sub (ws' := pmW cI cJ ad S) [0, 1, 2, 3, 4, 5, 6, 7] rfl
  refine lv_aload_n hx hb dL_backBits_0 rfl (lv_at hl 2 rfl) ?_
  refine lv_iconst (v := 0) hx hb dL_backBits_1 (by decide) ?_
  refine lv_aload_n hx hb dL_backBits_2 rfl (lv_at hl 0 rfl) ?_
  refine lv_iload_n hx hb dL_backBits_3 rfl (lv_at hl 1 rfl) ?_
  refine vx_calll (vx_runV (As := [.int p0]) (rest := [.int 0, .ref ao]) ⟨hx, hb, hml, hown, hts⟩ (met_X0_backBits l hfl D cI cJ ad S p0) (cwV 1 hts gL_backBits_X0_backBits rfl rfl rfl (by decide +kernel) ⟨Nat.le_of_ble_eq_true rfl, Nat.le_of_ble_eq_true rfl⟩) ⟨fun a U g mk q => ⟨q.1, b0R_calling q.2.1, xE_calling q.2.2⟩, va_recv hK hPc (ci := 0) (q0 := 0) rfl rfl, fun U hU hW => ⟨rfl, b0R_at hPc hK hU hW, xE_at hE hS0 hU hW⟩⟩ rfl rfl hl.1 rfl (lv_room (Nat.le_of_ble_eq_true rfl)) dL_backBits_4 ⟨Nat.le_of_ble_eq_true rfl, Nat.le_of_ble_eq_true rfl⟩) hS (fun q _ h => h.elim) (fun q h => h.elim) (fun q _ h => h.elim) (fun E ce q9 k9 t H locs ht hvm hw hB hz hk hS hc9 hv9 hf9 => ?_) (fun r u t H locs ht hvm hw hB hz hk hS => ?_)
  · have hP := hP.kept (fun k q hk9 => hk _ (vx_lt hP hk9) (fun h => h))
    rcases err_backBits hw with rfl
    · subst hB
      refine vx_catch (name := "java/lang/IllegalArgumentException") hown [] ⟨0, 8, 11, 15⟩ [] (by rw [htb]; rfl) (fun z hz => nomatch hz) (by decide) (by decide) (hts (.classLink RL 15 "java/lang/IllegalArgumentException") (by decide +kernel)) (va_Nw.use rfl (hE.2.2.2.1 (exN 2) (by decide +kernel))) hc9 hv9 hf9 ?_
      refine lv_astore_n (lv' := [(3, .ref q9), (0, .ref (ad 0)), (1, .int p0), (2, .ref ao)]) hx hb dL_backBits_11 rfl hl (by decide) rfl (fun ls hl => ?_)
      refine lv_iconst (v := 1) hx hb dL_backBits_12 (by decide) ?_
      refine W.widen (k := 1) (n := 6) (Nat.le_of_ble_eq_true rfl) (Nat.le_of_ble_eq_true rfl) ?_
      exact W.iret (v := 1) hx hb hr (fun t ht hW => ⟨⟨1, (S, o), rfl, by rw [hw]; rfl, by show va_P D pCl _ t.heap; rw [ht]; exact hP⟩, hS.F ht⟩) hS.2.2 dL_backBits_13
  · have hP := hP.kept (fun k q hk9 => hk _ (vx_lt hP hk9) (fun h => h))
    refine va_last hx hb hK hP hD hS 8 1 rfl rfl in01 dL_backBits_7 (fun H locs hP hD hS => ?_)
    refine lv_goto (tgt := 14) hx hb dL_backBits_8 (by decide) ?_
    refine lv_iconst (v := 0) hx hb dL_backBits_14 (by decide) ?_
    refine W.widen (k := 1) (n := 6) (Nat.le_of_ble_eq_true rfl) (Nat.le_of_ble_eq_true rfl) ?_
    exact W.iret (v := 0) hx hb hr (fun t ht hW => ⟨⟨0, (S, vp_updL o (0 : Int32).toNatClampNeg r), rfl, by rw [hw]; rfl, by show va_P D pCl _ t.heap; rw [ht]; exact hP⟩, hS.F ht⟩) hS.2.2 dL_backBits_15

set_option maxHeartbeats 4000000 in
set_option maxRecDepth 100000 in
theorem met_L_isBack (l : Launch) (hfl : l.stackTraces = false) (D : va_G) (cI cJ : ClassId) (ad : Nat → Nat) (ao : Nat) (A : Nat → Prop) (S : pS) (o : Nat → Int64) (p0 : Int32)  : Met l yL_isBack wsL_isBack ({ frames := 8, cells := 1, slots := 6, locals := 127 } : Room) (va_Pc [.ref (ad 0), .int p0, .ref ao] (fun U => va_P D pCl (xW cI cJ ad ao S o) U.heap ∧ va_K D pCl (pTy cI cJ) U ∧ va_D A (xW cI cJ ad ao S o) ∧ xE (fun _ => False) U U.heap ∧ xN U)) (va_Qi (fun (r : Int32) (u : pS × (Nat → Int64)) => wrZ [2] S o (f_X0_isBack S p0) = (r, u)) (fun u t => va_P D pCl (xW cI cJ ad ao u.1 u.2) t.heap) A) 1 6 A := by
  refine Met_ofWH (cc := cL_isBack) (maxL := 4) (ret := (some .int)) (by decide) rfl ?_
  intro p e s m args below meth c s₁ B hml hv
  obtain ⟨rfl, hP, hK, hD, hE, hNc⟩ := hv
  have hx := B.exec
  have hb := B.bytes
  have hr := B.returns
  have hts := atoms_spec (ws := wsL_isBack) B.pre
  have hown : s.vm.findClass RL = some m.cls := findClass_of_methodNamed B.named
  have hlocks := B.notSynchronized
  have htb := vx_table (x := yL_isBack) B (hts _ List.mem_cons_self)
  have hS0 : va_S (fun _ => False) s.heap s.heap [] := va_S.rf
  have hS : va_S A s.heap s.heap [] := va_S.rf
  have hl := lv_entry ([.ref (ad 0), .int p0, .ref ao]) (n := 4) (Nat.le_of_ble_eq_true rfl)
  rw [lg_entry_eq]
  generalize (lg_sl ([.ref (ad 0), .int p0, .ref ao]) ++ List.replicate (4 - (lg_sl ([.ref (ad 0), .int p0, .ref ao])).length) Slot.unset).toArray = ls at hl ⊢
  have hl : lv_has ls 4 [(0, .ref (ad 0)), (1, .int p0), (2, .ref ao)] := hl
  have hPc := hP.sub (ws' := pmW cI cJ ad S) [0, 1, 2, 3, 4, 5, 6, 7] rfl
  refine lv_aload_n hx hb dL_isBack_0 rfl (lv_at hl 2 rfl) ?_
  refine lv_iconst (v := 0) hx hb dL_isBack_1 (by decide) ?_
  refine lv_aload_n hx hb dL_isBack_2 rfl (lv_at hl 0 rfl) ?_
  refine lv_iload_n hx hb dL_isBack_3 rfl (lv_at hl 1 rfl) ?_
  refine vx_calli (vx_runV (As := [.int p0]) (rest := [.int 0, .ref ao]) ⟨hx, hb, hml, hown, hts⟩ (met_X0_isBack l hfl D cI cJ ad S p0) (cwV 1 hts gL_isBack_X0_isBack rfl rfl rfl (by decide +kernel) ⟨Nat.le_of_ble_eq_true rfl, Nat.le_of_ble_eq_true rfl⟩) ⟨fun a U g mk q => ⟨q.1, b0R_calling q.2.1, xE_calling q.2.2⟩, va_recv hK hPc (ci := 0) (q0 := 0) rfl rfl, fun U hU hW => ⟨rfl, b0R_at hPc hK hU hW, xE_at hE hS0 hU hW⟩⟩ rfl rfl hl.1 rfl (lv_room (Nat.le_of_ble_eq_true rfl)) dL_isBack_4 ⟨Nat.le_of_ble_eq_true rfl, Nat.le_of_ble_eq_true rfl⟩) hS (fun q _ h => h.elim) (fun q h => h.elim) (fun q _ h => h.elim) (fun E ce q9 k9 t H locs ht hvm hw hB hz hk hS hc9 hv9 hf9 => ?_) (fun r u t H locs ht hvm hw hB hz hk hS => ?_)
  · have hP := hP.kept (fun k q hk9 => hk _ (vx_lt hP hk9) (fun h => h))
    rcases err_isBack hw with rfl
    · subst hB
      refine vx_catch (name := "java/lang/IllegalArgumentException") hown [] ⟨0, 16, 19, 15⟩ [] (by rw [htb]; rfl) (fun z hz => nomatch hz) (by decide) (by decide) (hts (.classLink RL 15 "java/lang/IllegalArgumentException") (by decide +kernel)) (va_Nw.use rfl (hE.2.2.2.1 (exN 2) (by decide +kernel))) hc9 hv9 hf9 ?_
      refine lv_astore_n (lv' := [(3, .ref q9), (0, .ref (ad 0)), (1, .int p0), (2, .ref ao)]) hx hb dL_isBack_19 rfl hl (by decide) rfl (fun ls hl => ?_)
      refine lv_iconst (v := 1) hx hb dL_isBack_20 (by decide) ?_
      refine W.widen (k := 1) (n := 6) (Nat.le_of_ble_eq_true rfl) (Nat.le_of_ble_eq_true rfl) ?_
      exact W.iret (v := 1) hx hb hr (fun t ht hW => ⟨⟨1, (S, o), rfl, by rw [hw]; rfl, by show va_P D pCl _ t.heap; rw [ht]; exact hP⟩, hS.F ht⟩) hS.2.2 dL_isBack_21
  · have hP := hP.kept (fun k q hk9 => hk _ (vx_lt hP hk9) (fun h => h))
    obtain ⟨hw, -⟩ := hw
    refine lv_if_eq (tgt := 14) hx hb dL_isBack_7 (by decide) (fun cz => ?_) (fun cz => ?_)
    · refine lv_lconst (v := 0) hx hb dL_isBack_14 rfl ?_
      refine va_last hx hb hK hP hD hS 8 1 rfl rfl in01 dL_isBack_15 (fun H locs hP hD hS => ?_)
      refine lv_goto (tgt := 22) hx hb dL_isBack_16 (by decide) ?_
      refine lv_iconst (v := 0) hx hb dL_isBack_22 (by decide) ?_
      refine W.widen (k := 1) (n := 6) (Nat.le_of_ble_eq_true rfl) (Nat.le_of_ble_eq_true rfl) ?_
      exact W.iret (v := 0) hx hb hr (fun t ht hW => ⟨⟨0, (S, vp_updL o (0 : Int32).toNatClampNeg 0), rfl, by rw [hw]; simp only [wrZ, if_pos cz], by show va_P D pCl _ t.heap; rw [ht]; exact hP⟩, hS.F ht⟩) hS.2.2 dL_isBack_23
    · refine lv_lconst (v := 1) hx hb dL_isBack_10 rfl ?_
      refine lv_goto (tgt := 15) hx hb dL_isBack_11 (by decide) ?_
      refine va_last hx hb hK hP hD hS 8 1 rfl rfl in01 dL_isBack_15 (fun H locs hP hD hS => ?_)
      refine lv_goto (tgt := 22) hx hb dL_isBack_16 (by decide) ?_
      refine lv_iconst (v := 0) hx hb dL_isBack_22 (by decide) ?_
      refine W.widen (k := 1) (n := 6) (Nat.le_of_ble_eq_true rfl) (Nat.le_of_ble_eq_true rfl) ?_
      exact W.iret (v := 0) hx hb hr (fun t ht hW => ⟨⟨0, (S, vp_updL o (0 : Int32).toNatClampNeg 1), rfl, by rw [hw]; simp only [wrZ, if_neg cz], by show va_P D pCl _ t.heap; rw [ht]; exact hP⟩, hS.F ht⟩) hS.2.2 dL_isBack_23

set_option maxHeartbeats 4000000 in
set_option maxRecDepth 100000 in
theorem met_L_squareBits (l : Launch) (hfl : l.stackTraces = false) (D : va_G) (cI cJ : ClassId) (ad : Nat → Nat) (ao : Nat) (A : Nat → Prop) (S : pS) (o : Nat → Int64) (p0 : Int32)  : Met l yL_squareBits wsL_squareBits ({ frames := 8, cells := 2, slots := 12, locals := 127 } : Room) (va_Pc [.ref (ad 0), .int p0, .ref ao] (fun U => va_P D pCl (xW cI cJ ad ao S o) U.heap ∧ va_K D pCl (pTy cI cJ) U ∧ va_D A (xW cI cJ ad ao S o) ∧ xE (fun _ => False) U U.heap ∧ xN U)) (va_Qi (fun (r : Int32) (u : pS × (Nat → Int64)) => wrL [1, 5] S o (f_X0_squareBits S p0) = (r, u)) (fun u t => va_P D pCl (xW cI cJ ad ao u.1 u.2) t.heap) A) 2 12 A := by
  refine Met_ofWH (cc := cL_squareBits) (maxL := 4) (ret := (some .int)) (by decide) rfl ?_
  intro p e s m args below meth c s₁ B hml hv
  obtain ⟨rfl, hP, hK, hD, hE, hNc⟩ := hv
  have hx := B.exec
  have hb := B.bytes
  have hr := B.returns
  have hts := atoms_spec (ws := wsL_squareBits) B.pre
  have hown : s.vm.findClass RL = some m.cls := findClass_of_methodNamed B.named
  have hlocks := B.notSynchronized
  have htb := vx_table (x := yL_squareBits) B (hts _ List.mem_cons_self)
  have hS0 : va_S (fun _ => False) s.heap s.heap [] := va_S.rf
  have hS : va_S A s.heap s.heap [] := va_S.rf
  have hl := lv_entry ([.ref (ad 0), .int p0, .ref ao]) (n := 4) (Nat.le_of_ble_eq_true rfl)
  rw [lg_entry_eq]
  generalize (lg_sl ([.ref (ad 0), .int p0, .ref ao]) ++ List.replicate (4 - (lg_sl ([.ref (ad 0), .int p0, .ref ao])).length) Slot.unset).toArray = ls at hl ⊢
  have hl : lv_has ls 4 [(0, .ref (ad 0)), (1, .int p0), (2, .ref ao)] := hl
  have hPc := hP.sub (ws' := pmW cI cJ ad S) [0, 1, 2, 3, 4, 5, 6, 7] rfl
  refine lv_aload_n hx hb dL_squareBits_0 rfl (lv_at hl 2 rfl) ?_
  refine lv_iconst (v := 0) hx hb dL_squareBits_1 (by decide) ?_
  refine lv_aload_n hx hb dL_squareBits_2 rfl (lv_at hl 0 rfl) ?_
  refine lv_iload_n hx hb dL_squareBits_3 rfl (lv_at hl 1 rfl) ?_
  refine vx_calll (vx_runV (As := [.int p0]) (rest := [.int 0, .ref ao]) ⟨hx, hb, hml, hown, hts⟩ (met_X0_squareBits l hfl D cI cJ ad S p0) (cwV 1 hts gL_squareBits_X0_squareBits rfl rfl rfl (by decide +kernel) ⟨Nat.le_of_ble_eq_true rfl, Nat.le_of_ble_eq_true rfl⟩) ⟨fun a U g mk q => ⟨q.1, b0R_calling q.2.1, xE_calling q.2.2⟩, va_recv hK hPc (ci := 0) (q0 := 0) rfl rfl, fun U hU hW => ⟨rfl, b0R_at hPc hK hU hW, xE_at hE hS0 hU hW⟩⟩ rfl rfl hl.1 rfl (lv_room (Nat.le_of_ble_eq_true rfl)) dL_squareBits_4 ⟨Nat.le_of_ble_eq_true rfl, Nat.le_of_ble_eq_true rfl⟩) hS (fun q _ h => h.elim) (fun q h => h.elim) (fun q _ h => h.elim) (fun E ce q9 k9 t H locs ht hvm hw hB hz hk hS hc9 hv9 hf9 => ?_) (fun r u t H locs ht hvm hw hB hz hk hS => ?_)
  · have hP := hP.kept (fun k q hk9 => hk _ (vx_lt hP hk9) (fun h => h))
    rcases err_squareBits hw with rfl | rfl
    · subst hB
      refine vx_catch (name := "java/lang/IndexOutOfBoundsException") hown [] ⟨0, 8, 11, 13⟩ [⟨0, 8, 14, 21⟩] (by rw [htb]; rfl) (fun z hz => nomatch hz) (by decide) (by decide) (hts (.classLink RL 13 "java/lang/IndexOutOfBoundsException") (by decide +kernel)) (va_Nw.use rfl (hE.2.2.2.1 (exN 1) (by decide +kernel))) hc9 hv9 hf9 ?_
      refine lv_astore_n (lv' := [(3, .ref q9), (0, .ref (ad 0)), (1, .int p0), (2, .ref ao)]) hx hb dL_squareBits_11 rfl hl (by decide) rfl (fun ls hl => ?_)
      refine lv_iconst (v := 1) hx hb dL_squareBits_12 (by decide) ?_
      refine W.widen (k := 2) (n := 12) (Nat.le_of_ble_eq_true rfl) (Nat.le_of_ble_eq_true rfl) ?_
      exact W.iret (v := 1) hx hb hr (fun t ht hW => ⟨⟨1, (S, o), rfl, by rw [hw]; rfl, by show va_P D pCl _ t.heap; rw [ht]; exact hP⟩, hS.F ht⟩) hS.2.2 dL_squareBits_13
    · subst hB
      have hpass : ∀ z ∈ ([⟨0, 8, 11, 13⟩] : List ExceptionTableEntry), covers z 4 = false ∨ (z.catchType ≠ 0 ∧ ∃ nm : String, (Cond.classLink RL z.catchType nm).before (#[.ref (ad 0), .int p0, .ref ao] : Array Value) s = true ∧ va_Nc (exN 5) nm s) := by
        intro z hz
        simp only [List.mem_cons, List.not_mem_nil, or_false] at hz
        rcases hz with rfl
        · exact Or.inr ⟨by decide, "java/lang/IndexOutOfBoundsException", hts (.classLink RL 13 "java/lang/IndexOutOfBoundsException") (by decide +kernel), hNc 5 1 (by decide) (by decide) (by decide) (by decide) (by decide)⟩
      refine vx_catch (name := "java/lang/UnsupportedOperationException") hown [⟨0, 8, 11, 13⟩] ⟨0, 8, 14, 21⟩ [] (by rw [htb]; rfl) hpass (by decide) (by decide) (hts (.classLink RL 21 "java/lang/UnsupportedOperationException") (by decide +kernel)) (va_Nw.use rfl (hE.2.2.2.1 (exN 5) (by decide +kernel))) hc9 hv9 hf9 ?_
      refine lv_astore_n (lv' := [(3, .ref q9), (0, .ref (ad 0)), (1, .int p0), (2, .ref ao)]) hx hb dL_squareBits_14 rfl hl (by decide) rfl (fun ls hl => ?_)
      refine lv_iconst (v := 2) hx hb dL_squareBits_15 (by decide) ?_
      refine W.widen (k := 2) (n := 12) (Nat.le_of_ble_eq_true rfl) (Nat.le_of_ble_eq_true rfl) ?_
      exact W.iret (v := 2) hx hb hr (fun t ht hW => ⟨⟨2, (S, o), rfl, by rw [hw]; rfl, by show va_P D pCl _ t.heap; rw [ht]; exact hP⟩, hS.F ht⟩) hS.2.2 dL_squareBits_16
  · have hP := hP.kept (fun k q hk9 => hk _ (vx_lt hP hk9) (fun h => h))
    refine va_last hx hb hK hP hD hS 8 1 rfl rfl in01 dL_squareBits_7 (fun H locs hP hD hS => ?_)
    refine lv_goto (tgt := 17) hx hb dL_squareBits_8 (by decide) ?_
    refine lv_iconst (v := 0) hx hb dL_squareBits_17 (by decide) ?_
    refine W.widen (k := 2) (n := 12) (Nat.le_of_ble_eq_true rfl) (Nat.le_of_ble_eq_true rfl) ?_
    exact W.iret (v := 0) hx hb hr (fun t ht hW => ⟨⟨0, (S, vp_updL o (0 : Int32).toNatClampNeg r), rfl, by rw [hw]; rfl, by show va_P D pCl _ t.heap; rw [ht]; exact hP⟩, hS.F ht⟩) hS.2.2 dL_squareBits_18

set_option maxHeartbeats 4000000 in
set_option maxRecDepth 100000 in
theorem met_L_isTimes (l : Launch) (hfl : l.stackTraces = false) (D : va_G) (cI cJ : ClassId) (ad : Nat → Nat) (ao : Nat) (A : Nat → Prop) (S : pS) (o : Nat → Int64) (p0 : Int32)  : Met l yL_isTimes wsL_isTimes ({ frames := 8, cells := 2, slots := 12, locals := 129 } : Room) (va_Pc [.ref (ad 0), .int p0, .ref ao] (fun U => va_P D pCl (xW cI cJ ad ao S o) U.heap ∧ va_K D pCl (pTy cI cJ) U ∧ va_D A (xW cI cJ ad ao S o) ∧ xE (fun _ => False) U U.heap ∧ xN U)) (va_Qi (fun (r : Int32) (u : pS × (Nat → Int64)) => wrZ [1, 5] S o (f_X0_isTimes S p0) = (r, u)) (fun u t => va_P D pCl (xW cI cJ ad ao u.1 u.2) t.heap) A) 2 12 A := by
  refine Met_ofWH (cc := cL_isTimes) (maxL := 4) (ret := (some .int)) (by decide) rfl ?_
  intro p e s m args below meth c s₁ B hml hv
  obtain ⟨rfl, hP, hK, hD, hE, hNc⟩ := hv
  have hx := B.exec
  have hb := B.bytes
  have hr := B.returns
  have hts := atoms_spec (ws := wsL_isTimes) B.pre
  have hown : s.vm.findClass RL = some m.cls := findClass_of_methodNamed B.named
  have hlocks := B.notSynchronized
  have htb := vx_table (x := yL_isTimes) B (hts _ List.mem_cons_self)
  have hS0 : va_S (fun _ => False) s.heap s.heap [] := va_S.rf
  have hS : va_S A s.heap s.heap [] := va_S.rf
  have hl := lv_entry ([.ref (ad 0), .int p0, .ref ao]) (n := 4) (Nat.le_of_ble_eq_true rfl)
  rw [lg_entry_eq]
  generalize (lg_sl ([.ref (ad 0), .int p0, .ref ao]) ++ List.replicate (4 - (lg_sl ([.ref (ad 0), .int p0, .ref ao])).length) Slot.unset).toArray = ls at hl ⊢
  have hl : lv_has ls 4 [(0, .ref (ad 0)), (1, .int p0), (2, .ref ao)] := hl
  have hPc := hP.sub (ws' := pmW cI cJ ad S) [0, 1, 2, 3, 4, 5, 6, 7] rfl
  refine lv_aload_n hx hb dL_isTimes_0 rfl (lv_at hl 2 rfl) ?_
  refine lv_iconst (v := 0) hx hb dL_isTimes_1 (by decide) ?_
  refine lv_aload_n hx hb dL_isTimes_2 rfl (lv_at hl 0 rfl) ?_
  refine lv_iload_n hx hb dL_isTimes_3 rfl (lv_at hl 1 rfl) ?_
  refine vx_calli (vx_runV (As := [.int p0]) (rest := [.int 0, .ref ao]) ⟨hx, hb, hml, hown, hts⟩ (met_X0_isTimes l hfl D cI cJ ad S p0) (cwV 1 hts gL_isTimes_X0_isTimes rfl rfl rfl (by decide +kernel) ⟨Nat.le_of_ble_eq_true rfl, Nat.le_of_ble_eq_true rfl⟩) ⟨fun a U g mk q => ⟨q.1, b0R_calling q.2.1, xE_calling q.2.2⟩, va_recv hK hPc (ci := 0) (q0 := 0) rfl rfl, fun U hU hW => ⟨rfl, b0R_at hPc hK hU hW, xE_at hE hS0 hU hW⟩⟩ rfl rfl hl.1 rfl (lv_room (Nat.le_of_ble_eq_true rfl)) dL_isTimes_4 ⟨Nat.le_of_ble_eq_true rfl, Nat.le_of_ble_eq_true rfl⟩) hS (fun q _ h => h.elim) (fun q h => h.elim) (fun q _ h => h.elim) (fun E ce q9 k9 t H locs ht hvm hw hB hz hk hS hc9 hv9 hf9 => ?_) (fun r u t H locs ht hvm hw hB hz hk hS => ?_)
  · have hP := hP.kept (fun k q hk9 => hk _ (vx_lt hP hk9) (fun h => h))
    rcases err_isTimes hw with rfl | rfl
    · subst hB
      refine vx_catch (name := "java/lang/IndexOutOfBoundsException") hown [] ⟨0, 16, 19, 13⟩ [⟨0, 16, 22, 21⟩] (by rw [htb]; rfl) (fun z hz => nomatch hz) (by decide) (by decide) (hts (.classLink RL 13 "java/lang/IndexOutOfBoundsException") (by decide +kernel)) (va_Nw.use rfl (hE.2.2.2.1 (exN 1) (by decide +kernel))) hc9 hv9 hf9 ?_
      refine lv_astore_n (lv' := [(3, .ref q9), (0, .ref (ad 0)), (1, .int p0), (2, .ref ao)]) hx hb dL_isTimes_19 rfl hl (by decide) rfl (fun ls hl => ?_)
      refine lv_iconst (v := 1) hx hb dL_isTimes_20 (by decide) ?_
      refine W.widen (k := 2) (n := 12) (Nat.le_of_ble_eq_true rfl) (Nat.le_of_ble_eq_true rfl) ?_
      exact W.iret (v := 1) hx hb hr (fun t ht hW => ⟨⟨1, (S, o), rfl, by rw [hw]; rfl, by show va_P D pCl _ t.heap; rw [ht]; exact hP⟩, hS.F ht⟩) hS.2.2 dL_isTimes_21
    · subst hB
      have hpass : ∀ z ∈ ([⟨0, 16, 19, 13⟩] : List ExceptionTableEntry), covers z 4 = false ∨ (z.catchType ≠ 0 ∧ ∃ nm : String, (Cond.classLink RL z.catchType nm).before (#[.ref (ad 0), .int p0, .ref ao] : Array Value) s = true ∧ va_Nc (exN 5) nm s) := by
        intro z hz
        simp only [List.mem_cons, List.not_mem_nil, or_false] at hz
        rcases hz with rfl
        · exact Or.inr ⟨by decide, "java/lang/IndexOutOfBoundsException", hts (.classLink RL 13 "java/lang/IndexOutOfBoundsException") (by decide +kernel), hNc 5 1 (by decide) (by decide) (by decide) (by decide) (by decide)⟩
      refine vx_catch (name := "java/lang/UnsupportedOperationException") hown [⟨0, 16, 19, 13⟩] ⟨0, 16, 22, 21⟩ [] (by rw [htb]; rfl) hpass (by decide) (by decide) (hts (.classLink RL 21 "java/lang/UnsupportedOperationException") (by decide +kernel)) (va_Nw.use rfl (hE.2.2.2.1 (exN 5) (by decide +kernel))) hc9 hv9 hf9 ?_
      refine lv_astore_n (lv' := [(3, .ref q9), (0, .ref (ad 0)), (1, .int p0), (2, .ref ao)]) hx hb dL_isTimes_22 rfl hl (by decide) rfl (fun ls hl => ?_)
      refine lv_iconst (v := 2) hx hb dL_isTimes_23 (by decide) ?_
      refine W.widen (k := 2) (n := 12) (Nat.le_of_ble_eq_true rfl) (Nat.le_of_ble_eq_true rfl) ?_
      exact W.iret (v := 2) hx hb hr (fun t ht hW => ⟨⟨2, (S, o), rfl, by rw [hw]; rfl, by show va_P D pCl _ t.heap; rw [ht]; exact hP⟩, hS.F ht⟩) hS.2.2 dL_isTimes_24
  · have hP := hP.kept (fun k q hk9 => hk _ (vx_lt hP hk9) (fun h => h))
    obtain ⟨hw, -⟩ := hw
    refine lv_if_eq (tgt := 14) hx hb dL_isTimes_7 (by decide) (fun cz => ?_) (fun cz => ?_)
    · refine lv_lconst (v := 0) hx hb dL_isTimes_14 rfl ?_
      refine va_last hx hb hK hP hD hS 8 1 rfl rfl in01 dL_isTimes_15 (fun H locs hP hD hS => ?_)
      refine lv_goto (tgt := 25) hx hb dL_isTimes_16 (by decide) ?_
      refine lv_iconst (v := 0) hx hb dL_isTimes_25 (by decide) ?_
      refine W.widen (k := 2) (n := 12) (Nat.le_of_ble_eq_true rfl) (Nat.le_of_ble_eq_true rfl) ?_
      exact W.iret (v := 0) hx hb hr (fun t ht hW => ⟨⟨0, (S, vp_updL o (0 : Int32).toNatClampNeg 0), rfl, by rw [hw]; simp only [wrZ, if_pos cz], by show va_P D pCl _ t.heap; rw [ht]; exact hP⟩, hS.F ht⟩) hS.2.2 dL_isTimes_26
    · refine lv_lconst (v := 1) hx hb dL_isTimes_10 rfl ?_
      refine lv_goto (tgt := 15) hx hb dL_isTimes_11 (by decide) ?_
      refine va_last hx hb hK hP hD hS 8 1 rfl rfl in01 dL_isTimes_15 (fun H locs hP hD hS => ?_)
      refine lv_goto (tgt := 25) hx hb dL_isTimes_16 (by decide) ?_
      refine lv_iconst (v := 0) hx hb dL_isTimes_25 (by decide) ?_
      refine W.widen (k := 2) (n := 12) (Nat.le_of_ble_eq_true rfl) (Nat.le_of_ble_eq_true rfl) ?_
      exact W.iret (v := 0) hx hb hr (fun t ht hW => ⟨⟨0, (S, vp_updL o (0 : Int32).toNatClampNeg 1), rfl, by rw [hw]; simp only [wrZ, if_neg cz], by show va_P D pCl _ t.heap; rw [ht]; exact hP⟩, hS.F ht⟩) hS.2.2 dL_isTimes_26

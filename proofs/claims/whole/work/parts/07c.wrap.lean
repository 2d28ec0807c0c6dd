set_option maxHeartbeats 4000000 in
set_option maxRecDepth 100000 in
theorem met_L_put (l : Launch) (hfl : l.stackTraces = false) (D : va_G) (cI cJ : ClassId) (ad : Nat → Nat) (ao : Nat) (A : Nat → Prop) (S : pS) (o : Nat → Int64) (p0 : Int32) (p1 : Int32) (hn : vp_in (nxS S) 8) : Met l yL_put wsL_put ({ frames := 8, cells := 2, slots := 12, locals := 128 } : Room) (va_Pc [.ref (ad 0), .int p0, .int p1, .ref ao] (fun U => va_P D pCl (xW cI cJ ad ao S o) U.heap ∧ va_K D pCl (pTy cI cJ) U ∧ va_D A (xW cI cJ ad ao S o) ∧ xE (fun _ => False) U U.heap ∧ xN U)) (va_Qi (fun (r : Int32) (u : pS × (Nat → Int64)) => wrM [1, 2] S o (f_X0_put S p0 p1) = (r, u)) (fun u t => va_P D pCl (xW cI cJ ad ao u.1 u.2) t.heap) A) 2 12 A := by
  refine Met_ofWH (cc := cL_put) (maxL := 5) (ret := (some .int)) (by decide) rfl ?_
  intro p e s m args below meth c s₁ B hml hv
  obtain ⟨rfl, hP, hK, hD, hE, hNc⟩ := hv
  have hx := B.exec
  have hb := B.bytes
  have hr := B.returns
  have hts := atoms_spec (ws := wsL_put) B.pre
  have hown : s.vm.findClass RL = some m.cls := findClass_of_methodNamed B.named
  have hlocks := B.notSynchronized
  have htb := vx_table (x := yL_put) B (hts _ List.mem_cons_self)
  have hS0 : va_S (fun _ => False) s.heap s.heap [] := va_S.rf
  have hS : va_S A s.heap s.heap [] := va_S.rf
  have hl := lv_entry ([.ref (ad 0), .int p0, .int p1, .ref ao]) (n := 5) (Nat.le_of_ble_eq_true rfl)
  rw [lg_entry_eq]
  generalize (lg_sl ([.ref (ad 0), .int p0, .int p1, .ref ao]) ++ List.replicate (5 - (lg_sl ([.ref (ad 0), .int p0, .int p1, .ref ao])).length) Slot.unset).toArray = ls at hl ⊢
  have hl : lv_has ls 5 [(0, .ref (ad 0)), (1, .int p0), (2, .int p1), (3, .ref ao)] := hl
  have hPc := hP.sub (ws' := pmW cI cJ ad S) [0, 1, 2, 3, 4, 5, 6, 7] rfl
  refine lv_aload_n hx hb dL_put_0 rfl (lv_at hl 3 rfl) ?_
  refine lv_iconst (v := 0) hx hb dL_put_1 (by decide) ?_
  refine lv_aload_n hx hb dL_put_2 rfl (lv_at hl 0 rfl) ?_
  refine lv_iload_n hx hb dL_put_3 rfl (lv_at hl 1 rfl) ?_
  refine lv_iload_n hx hb dL_put_4 rfl (lv_at hl 2 rfl) ?_
  refine vx_calli (vx_runV (As := [.int p0, .int p1]) (rest := [.int 0, .ref ao]) ⟨hx, hb, hml, hown, hts⟩ (met_X0_put l hfl D cI cJ ad (fun q => A q ∧ q ≠ ao) S p0 p1 hn) (cwV 2 hts gL_put_X0_put rfl rfl rfl (by decide +kernel) ⟨Nat.le_of_ble_eq_true rfl, Nat.le_of_ble_eq_true rfl⟩) ⟨fun a U g mk q => ⟨q.1, b0R_calling q.2.1, q.2.2.1, xE_calling q.2.2.2⟩, va_recv hK hPc (ci := 0) (q0 := 0) rfl rfl, fun U hU hW => ⟨rfl, b0R_at hPc hK hU hW, xD_pm hD, xE_at hE hS0 hU hW⟩⟩ rfl rfl hl.1 rfl (lv_room (Nat.le_of_ble_eq_true rfl)) dL_put_5 ⟨Nat.le_of_ble_eq_true rfl, Nat.le_of_ble_eq_true rfl⟩) hS (fun q _ h => h.1) (fun q h => h.1) (fun q _ h => h.elim) (fun E ce q9 k9 t H locs ht hvm hw hB hz hk hS hc9 hv9 hf9 => ?_) (fun r u t H locs ht hvm hw hB hz hk hS => ?_)
  · have hP := hP.kept (fun k q hk9 => hk _ (vx_lt hP hk9) (fun h => h))
    rcases err_put hw with rfl | rfl
    · subst hB
      refine vx_catch (name := "java/lang/IndexOutOfBoundsException") hown [] ⟨0, 10, 13, 13⟩ [⟨0, 10, 17, 15⟩] (by rw [htb]; rfl) (fun z hz => nomatch hz) (by decide) (by decide) (hts (.classLink RL 13 "java/lang/IndexOutOfBoundsException") (by decide +kernel)) (va_Nw.use rfl (hE.2.2.2.1 (exN 1) (by decide +kernel))) hc9 hv9 hf9 ?_
      refine lv_astore (lv' := [(4, .ref q9), (0, .ref (ad 0)), (1, .int p0), (2, .int p1), (3, .ref ao)]) hx hb dL_put_13 hl (by decide) rfl (fun ls hl => ?_)
      refine lv_iconst (v := 1) hx hb dL_put_15 (by decide) ?_
      refine W.widen (k := 2) (n := 12) (Nat.le_of_ble_eq_true rfl) (Nat.le_of_ble_eq_true rfl) ?_
      exact W.iret (v := 1) hx hb hr (fun t ht hW => ⟨⟨1, (S, o), rfl, by rw [hw]; rfl, by show va_P D pCl _ t.heap; rw [ht]; exact hP⟩, hS.F ht⟩) hS.2.2 dL_put_16
    · subst hB
      have hpass : ∀ z ∈ ([⟨0, 10, 13, 13⟩] : List ExceptionTableEntry), covers z 5 = false ∨ (z.catchType ≠ 0 ∧ ∃ nm : String, (Cond.classLink RL z.catchType nm).before (#[.ref (ad 0), .int p0, .int p1, .ref ao] : Array Value) s = true ∧ va_Nc (exN 2) nm s) := by
        intro z hz
        simp only [List.mem_cons, List.not_mem_nil, or_false] at hz
        rcases hz with rfl
        · exact Or.inr ⟨by decide, "java/lang/IndexOutOfBoundsException", hts (.classLink RL 13 "java/lang/IndexOutOfBoundsException") (by decide +kernel), hNc 2 1 (by decide) (by decide) (by decide) (by decide) (by decide)⟩
      refine vx_catch (name := "java/lang/IllegalArgumentException") hown [⟨0, 10, 13, 13⟩] ⟨0, 10, 17, 15⟩ [] (by rw [htb]; rfl) hpass (by decide) (by decide) (hts (.classLink RL 15 "java/lang/IllegalArgumentException") (by decide +kernel)) (va_Nw.use rfl (hE.2.2.2.1 (exN 2) (by decide +kernel))) hc9 hv9 hf9 ?_
      refine lv_astore (lv' := [(4, .ref q9), (0, .ref (ad 0)), (1, .int p0), (2, .int p1), (3, .ref ao)]) hx hb dL_put_17 hl (by decide) rfl (fun ls hl => ?_)
      refine lv_iconst (v := 2) hx hb dL_put_19 (by decide) ?_
      refine W.widen (k := 2) (n := 12) (Nat.le_of_ble_eq_true rfl) (Nat.le_of_ble_eq_true rfl) ?_
      exact W.iret (v := 2) hx hb hr (fun t ht hW => ⟨⟨2, (S, o), rfl, by rw [hw]; rfl, by show va_P D pCl _ t.heap; rw [ht]; exact hP⟩, hS.F ht⟩) hS.2.2 dL_put_20
  · obtain ⟨hP1, hD1⟩ := hB
    rw [ht] at hP1
    have hP := xP_join hP hP1 hk
    have hD : va_D A (xW cI cJ ad ao u o) := xD_any hD
    refine lv_i2l hx hb dL_put_8 rfl ?_
    refine va_last hx hb hK hP hD hS 8 1 rfl rfl in01 dL_put_9 (fun H locs hP hD hS => ?_)
    refine lv_goto (tgt := 21) hx hb dL_put_10 (by decide) ?_
    refine lv_iconst (v := 0) hx hb dL_put_21 (by decide) ?_
    refine W.widen (k := 2) (n := 12) (Nat.le_of_ble_eq_true rfl) (Nat.le_of_ble_eq_true rfl) ?_
    exact W.iret (v := 0) hx hb hr (fun t ht hW => ⟨⟨0, (u, vp_updL o (0 : Int32).toNatClampNeg ((r : Int32).toInt64)), rfl, by rw [hw]; rfl, by show va_P D pCl _ t.heap; rw [ht]; exact hP⟩, hS.F ht⟩) hS.2.2 dL_put_22

set_option maxHeartbeats 4000000 in
set_option maxRecDepth 100000 in
theorem met_L_power (l : Launch) (hfl : l.stackTraces = false) (D : va_G) (cI cJ : ClassId) (ad : Nat → Nat) (ao : Nat) (A : Nat → Prop) (S : pS) (o : Nat → Int64) (p0 : Int32) (p1 : Int32) (p2 : Int32) (hn : vp_in (nxS S) 8) : Met l yL_power wsL_power ({ frames := 9, cells := 4, slots := 24, locals := 150 } : Room) (va_Pc [.ref (ad 0), .int p0, .int p1, .int p2, .ref ao] (fun U => va_P D pCl (xW cI cJ ad ao S o) U.heap ∧ va_K D pCl (pTy cI cJ) U ∧ va_D A (xW cI cJ ad ao S o) ∧ xE (fun _ => False) U U.heap ∧ xN U)) (va_Qi (fun (r : Int32) (u : pS × (Nat → Int64)) => wrM [1, 2, 5] S o (f_X0_power S p0 p1 p2) = (r, u)) (fun u t => va_P D pCl (xW cI cJ ad ao u.1 u.2) t.heap) A) 4 24 A := by
  refine Met_ofWH (cc := cL_power) (maxL := 6) (ret := (some .int)) (by decide) rfl ?_
  intro p e s m args below meth c s₁ B hml hv
  obtain ⟨rfl, hP, hK, hD, hE, hNc⟩ := hv
  have hx := B.exec
  have hb := B.bytes
  have hr := B.returns
  have hts := atoms_spec (ws := wsL_power) B.pre
  have hown : s.vm.findClass RL = some m.cls := findClass_of_methodNamed B.named
  have hlocks := B.notSynchronized
  have htb := vx_table (x := yL_power) B (hts _ List.mem_cons_self)
  have hS0 : va_S (fun _ => False) s.heap s.heap [] := va_S.rf
  have hS : va_S A s.heap s.heap [] := va_S.rf
  have hl := lv_entry ([.ref (ad 0), .int p0, .int p1, .int p2, .ref ao]) (n := 6) (Nat.le_of_ble_eq_true rfl)
  rw [lg_entry_eq]
  generalize (lg_sl ([.ref (ad 0), .int p0, .int p1, .int p2, .ref ao]) ++ List.replicate (6 - (lg_sl ([.ref (ad 0), .int p0, .int p1, .int p2, .ref ao])).length) Slot.unset).toArray = ls at hl ⊢
  have hl : lv_has ls 6 [(0, .ref (ad 0)), (1, .int p0), (2, .int p1), (3, .int p2), (4, .ref ao)] := hl
  have hPc := hP.sub (ws' := pmW cI cJ ad S) [0, 1, 2, 3, 4, 5, 6, 7] rfl
  refine lv_aload hx hb dL_power_0 (lv_at hl 4 rfl) ?_
  refine lv_iconst (v := 0) hx hb dL_power_2 (by decide) ?_
  refine lv_aload_n hx hb dL_power_3 rfl (lv_at hl 0 rfl) ?_
  refine lv_iload_n hx hb dL_power_4 rfl (lv_at hl 1 rfl) ?_
  refine lv_iload_n hx hb dL_power_5 rfl (lv_at hl 2 rfl) ?_
  refine lv_iload_n hx hb dL_power_6 rfl (lv_at hl 3 rfl) ?_
  refine vx_calli (vx_runV (As := [.int p0, .int p1, .int p2]) (rest := [.int 0, .ref ao]) ⟨hx, hb, hml, hown, hts⟩ (met_X0_power l hfl D cI cJ ad (fun q => A q ∧ q ≠ ao) S p0 p1 p2 hn) (cwV 3 hts gL_power_X0_power rfl rfl rfl (by decide +kernel) ⟨Nat.le_of_ble_eq_true rfl, Nat.le_of_ble_eq_true rfl⟩) ⟨fun a U g mk q => ⟨q.1, b0R_calling q.2.1, q.2.2.1, xE_calling q.2.2.2⟩, va_recv hK hPc (ci := 0) (q0 := 0) rfl rfl, fun U hU hW => ⟨rfl, b0R_at hPc hK hU hW, xD_pm hD, xE_at hE hS0 hU hW⟩⟩ rfl rfl hl.1 rfl (lv_room (Nat.le_of_ble_eq_true rfl)) dL_power_7 ⟨Nat.le_of_ble_eq_true rfl, Nat.le_of_ble_eq_true rfl⟩) hS (fun q _ h => h.1) (fun q h => h.1) (fun q _ h => h.elim) (fun E ce q9 k9 t H locs ht hvm hw hB hz hk hS hc9 hv9 hf9 => ?_) (fun r u t H locs ht hvm hw hB hz hk hS => ?_)
  · have hP := hP.kept (fun k q hk9 => hk _ (vx_lt hP hk9) (fun h => h))
    rcases err_power hw with rfl | rfl | rfl
    · subst hB
      refine vx_catch (name := "java/lang/IndexOutOfBoundsException") hown [] ⟨0, 12, 15, 13⟩ [⟨0, 12, 19, 15⟩, ⟨0, 12, 23, 21⟩] (by rw [htb]; rfl) (fun z hz => nomatch hz) (by decide) (by decide) (hts (.classLink RL 13 "java/lang/IndexOutOfBoundsException") (by decide +kernel)) (va_Nw.use rfl (hE.2.2.2.1 (exN 1) (by decide +kernel))) hc9 hv9 hf9 ?_
      refine lv_astore (lv' := [(5, .ref q9), (0, .ref (ad 0)), (1, .int p0), (2, .int p1), (3, .int p2), (4, .ref ao)]) hx hb dL_power_15 hl (by decide) rfl (fun ls hl => ?_)
      refine lv_iconst (v := 1) hx hb dL_power_17 (by decide) ?_
      refine W.widen (k := 4) (n := 24) (Nat.le_of_ble_eq_true rfl) (Nat.le_of_ble_eq_true rfl) ?_
      exact W.iret (v := 1) hx hb hr (fun t ht hW => ⟨⟨1, (S, o), rfl, by rw [hw]; rfl, by show va_P D pCl _ t.heap; rw [ht]; exact hP⟩, hS.F ht⟩) hS.2.2 dL_power_18
    · subst hB
      have hpass : ∀ z ∈ ([⟨0, 12, 15, 13⟩] : List ExceptionTableEntry), covers z 7 = false ∨ (z.catchType ≠ 0 ∧ ∃ nm : String, (Cond.classLink RL z.catchType nm).before (#[.ref (ad 0), .int p0, .int p1, .int p2, .ref ao] : Array Value) s = true ∧ va_Nc (exN 2) nm s) := by
        intro z hz
        simp only [List.mem_cons, List.not_mem_nil, or_false] at hz
        rcases hz with rfl
        · exact Or.inr ⟨by decide, "java/lang/IndexOutOfBoundsException", hts (.classLink RL 13 "java/lang/IndexOutOfBoundsException") (by decide +kernel), hNc 2 1 (by decide) (by decide) (by decide) (by decide) (by decide)⟩
      refine vx_catch (name := "java/lang/IllegalArgumentException") hown [⟨0, 12, 15, 13⟩] ⟨0, 12, 19, 15⟩ [⟨0, 12, 23, 21⟩] (by rw [htb]; rfl) hpass (by decide) (by decide) (hts (.classLink RL 15 "java/lang/IllegalArgumentException") (by decide +kernel)) (va_Nw.use rfl (hE.2.2.2.1 (exN 2) (by decide +kernel))) hc9 hv9 hf9 ?_
      refine lv_astore (lv' := [(5, .ref q9), (0, .ref (ad 0)), (1, .int p0), (2, .int p1), (3, .int p2), (4, .ref ao)]) hx hb dL_power_19 hl (by decide) rfl (fun ls hl => ?_)
      refine lv_iconst (v := 2) hx hb dL_power_21 (by decide) ?_
      refine W.widen (k := 4) (n := 24) (Nat.le_of_ble_eq_true rfl) (Nat.le_of_ble_eq_true rfl) ?_
      exact W.iret (v := 2) hx hb hr (fun t ht hW => ⟨⟨2, (S, o), rfl, by rw [hw]; rfl, by show va_P D pCl _ t.heap; rw [ht]; exact hP⟩, hS.F ht⟩) hS.2.2 dL_power_22
    · subst hB
      have hpass : ∀ z ∈ ([⟨0, 12, 15, 13⟩, ⟨0, 12, 19, 15⟩] : List ExceptionTableEntry), covers z 7 = false ∨ (z.catchType ≠ 0 ∧ ∃ nm : String, (Cond.classLink RL z.catchType nm).before (#[.ref (ad 0), .int p0, .int p1, .int p2, .ref ao] : Array Value) s = true ∧ va_Nc (exN 5) nm s) := by
        intro z hz
        simp only [List.mem_cons, List.not_mem_nil, or_false] at hz
        rcases hz with rfl | rfl
        · exact Or.inr ⟨by decide, "java/lang/IndexOutOfBoundsException", hts (.classLink RL 13 "java/lang/IndexOutOfBoundsException") (by decide +kernel), hNc 5 1 (by decide) (by decide) (by decide) (by decide) (by decide)⟩
        · exact Or.inr ⟨by decide, "java/lang/IllegalArgumentException", hts (.classLink RL 15 "java/lang/IllegalArgumentException") (by decide +kernel), hNc 5 2 (by decide) (by decide) (by decide) (by decide) (by decide)⟩
      refine vx_catch (name := "java/lang/UnsupportedOperationException") hown [⟨0, 12, 15, 13⟩, ⟨0, 12, 19, 15⟩] ⟨0, 12, 23, 21⟩ [] (by rw [htb]; rfl) hpass (by decide) (by decide) (hts (.classLink RL 21 "java/lang/UnsupportedOperationException") (by decide +kernel)) (va_Nw.use rfl (hE.2.2.2.1 (exN 5) (by decide +kernel))) hc9 hv9 hf9 ?_
      refine lv_astore (lv' := [(5, .ref q9), (0, .ref (ad 0)), (1, .int p0), (2, .int p1), (3, .int p2), (4, .ref ao)]) hx hb dL_power_23 hl (by decide) rfl (fun ls hl => ?_)
      refine lv_iconst (v := 3) hx hb dL_power_25 (by decide) ?_
      refine W.widen (k := 4) (n := 24) (Nat.le_of_ble_eq_true rfl) (Nat.le_of_ble_eq_true rfl) ?_
      exact W.iret (v := 3) hx hb hr (fun t ht hW => ⟨⟨3, (S, o), rfl, by rw [hw]; rfl, by show va_P D pCl _ t.heap; rw [ht]; exact hP⟩, hS.F ht⟩) hS.2.2 dL_power_26
  · obtain ⟨hP1, hD1⟩ := hB
    rw [ht] at hP1
    have hP := xP_join hP hP1 hk
    have hD : va_D A (xW cI cJ ad ao u o) := xD_any hD
    refine lv_i2l hx hb dL_power_10 rfl ?_
    refine va_last hx hb hK hP hD hS 8 1 rfl rfl in01 dL_power_11 (fun H locs hP hD hS => ?_)
    refine lv_goto (tgt := 27) hx hb dL_power_12 (by decide) ?_
    refine lv_iconst (v := 0) hx hb dL_power_27 (by decide) ?_
    refine W.widen (k := 4) (n := 24) (Nat.le_of_ble_eq_true rfl) (Nat.le_of_ble_eq_true rfl) ?_
    exact W.iret (v := 0) hx hb hr (fun t ht hW => ⟨⟨0, (u, vp_updL o (0 : Int32).toNatClampNeg ((r : Int32).toInt64)), rfl, by rw [hw]; rfl, by show va_P D pCl _ t.heap; rw [ht]; exact hP⟩, hS.F ht⟩) hS.2.2 dL_power_28

set_option maxHeartbeats 4000000 in
set_option maxRecDepth 100000 in
theorem met_L_twoTo (l : Launch) (hfl : l.stackTraces = false) (D : va_G) (cI cJ : ClassId) (ad : Nat → Nat) (ao : Nat) (A : Nat → Prop) (S : pS) (o : Nat → Int64) (p0 : Int32) (p1 : Int32) (hn : vp_in (nxS S) 8) : Met l yL_twoTo wsL_twoTo ({ frames := 8, cells := 2, slots := 12, locals := 128 } : Room) (va_Pc [.ref (ad 0), .int p0, .int p1, .ref ao] (fun U => va_P D pCl (xW cI cJ ad ao S o) U.heap ∧ va_K D pCl (pTy cI cJ) U ∧ va_D A (xW cI cJ ad ao S o) ∧ xE (fun _ => False) U U.heap ∧ xN U)) (va_Qi (fun (r : Int32) (u : pS × (Nat → Int64)) => wrM [1, 2] S o (f_X0_twoTo S p0 p1) = (r, u)) (fun u t => va_P D pCl (xW cI cJ ad ao u.1 u.2) t.heap) A) 2 12 A := by
  refine Met_ofWH (cc := cL_twoTo) (maxL := 5) (ret := (some .int)) (by decide) rfl ?_
  intro p e s m args below meth c s₁ B hml hv
  obtain ⟨rfl, hP, hK, hD, hE, hNc⟩ := hv
  have hx := B.exec
  have hb := B.bytes
  have hr := B.returns
  have hts := atoms_spec (ws := wsL_twoTo) B.pre
  have hown : s.vm.findClass RL = some m.cls := findClass_of_methodNamed B.named
  have hlocks := B.notSynchronized
  have htb := vx_table (x := yL_twoTo) B (hts _ List.mem_cons_self)
  have hS0 : va_S (fun _ => False) s.heap s.heap [] := va_S.rf
  have hS : va_S A s.heap s.heap [] := va_S.rf
  have hl := lv_entry ([.ref (ad 0), .int p0, .int p1, .ref ao]) (n := 5) (Nat.le_of_ble_eq_true rfl)
  rw [lg_entry_eq]
  generalize (lg_sl ([.ref (ad 0), .int p0, .int p1, .ref ao]) ++ List.replicate (5 - (lg_sl ([.ref (ad 0), .int p0, .int p1, .ref ao])).length) Slot.unset).toArray = ls at hl ⊢
  have hl : lv_has ls 5 [(0, .ref (ad 0)), (1, .int p0), (2, .int p1), (3, .ref ao)] := hl
  have hPc := hP.sub (ws' := pmW cI cJ ad S) [0, 1, 2, 3, 4, 5, 6, 7] rfl
  refine lv_aload_n hx hb dL_twoTo_0 rfl (lv_at hl 3 rfl) ?_
  refine lv_iconst (v := 0) hx hb dL_twoTo_1 (by decide) ?_
  refine lv_aload_n hx hb dL_twoTo_2 rfl (lv_at hl 0 rfl) ?_
  refine lv_iload_n hx hb dL_twoTo_3 rfl (lv_at hl 1 rfl) ?_
  refine lv_iload_n hx hb dL_twoTo_4 rfl (lv_at hl 2 rfl) ?_
  refine vx_calli (vx_runV (As := [.int p0, .int p1]) (rest := [.int 0, .ref ao]) ⟨hx, hb, hml, hown, hts⟩ (met_X0_twoTo l hfl D cI cJ ad (fun q => A q ∧ q ≠ ao) S p0 p1 hn) (cwV 2 hts gL_twoTo_X0_twoTo rfl rfl rfl (by decide +kernel) ⟨Nat.le_of_ble_eq_true rfl, Nat.le_of_ble_eq_true rfl⟩) ⟨fun a U g mk q => ⟨q.1, b0R_calling q.2.1, q.2.2.1, xE_calling q.2.2.2⟩, va_recv hK hPc (ci := 0) (q0 := 0) rfl rfl, fun U hU hW => ⟨rfl, b0R_at hPc hK hU hW, xD_pm hD, xE_at hE hS0 hU hW⟩⟩ rfl rfl hl.1 rfl (lv_room (Nat.le_of_ble_eq_true rfl)) dL_twoTo_5 ⟨Nat.le_of_ble_eq_true rfl, Nat.le_of_ble_eq_true rfl⟩) hS (fun q _ h => h.1) (fun q h => h.1) (fun q _ h => h.elim) (fun E ce q9 k9 t H locs ht hvm hw hB hz hk hS hc9 hv9 hf9 => ?_) (fun r u t H locs ht hvm hw hB hz hk hS => ?_)
  · have hP := hP.kept (fun k q hk9 => hk _ (vx_lt hP hk9) (fun h => h))
    rcases err_twoTo hw with rfl | rfl
    · subst hB
      refine vx_catch (name := "java/lang/IndexOutOfBoundsException") hown [] ⟨0, 10, 13, 13⟩ [⟨0, 10, 17, 15⟩] (by rw [htb]; rfl) (fun z hz => nomatch hz) (by decide) (by decide) (hts (.classLink RL 13 "java/lang/IndexOutOfBoundsException") (by decide +kernel)) (va_Nw.use rfl (hE.2.2.2.1 (exN 1) (by decide +kernel))) hc9 hv9 hf9 ?_
      refine lv_astore (lv' := [(4, .ref q9), (0, .ref (ad 0)), (1, .int p0), (2, .int p1), (3, .ref ao)]) hx hb dL_twoTo_13 hl (by decide) rfl (fun ls hl => ?_)
      refine lv_iconst (v := 1) hx hb dL_twoTo_15 (by decide) ?_
      refine W.widen (k := 2) (n := 12) (Nat.le_of_ble_eq_true rfl) (Nat.le_of_ble_eq_true rfl) ?_
      exact W.iret (v := 1) hx hb hr (fun t ht hW => ⟨⟨1, (S, o), rfl, by rw [hw]; rfl, by show va_P D pCl _ t.heap; rw [ht]; exact hP⟩, hS.F ht⟩) hS.2.2 dL_twoTo_16
    · subst hB
      have hpass : ∀ z ∈ ([⟨0, 10, 13, 13⟩] : List ExceptionTableEntry), covers z 5 = false ∨ (z.catchType ≠ 0 ∧ ∃ nm : String, (Cond.classLink RL z.catchType nm).before (#[.ref (ad 0), .int p0, .int p1, .ref ao] : Array Value) s = true ∧ va_Nc (exN 2) nm s) := by
        intro z hz
        simp only [List.mem_cons, List.not_mem_nil, or_false] at hz
        rcases hz with rfl
        · exact Or.inr ⟨by decide, "java/lang/IndexOutOfBoundsException", hts (.classLink RL 13 "java/lang/IndexOutOfBoundsException") (by decide +kernel), hNc 2 1 (by decide) (by decide) (by decide) (by decide) (by decide)⟩
      refine vx_catch (name := "java/lang/IllegalArgumentException") hown [⟨0, 10, 13, 13⟩] ⟨0, 10, 17, 15⟩ [] (by rw [htb]; rfl) hpass (by decide) (by decide) (hts (.classLink RL 15 "java/lang/IllegalArgumentException") (by decide +kernel)) (va_Nw.use rfl (hE.2.2.2.1 (exN 2) (by decide +kernel))) hc9 hv9 hf9 ?_
      refine lv_astore (lv' := [(4, .ref q9), (0, .ref (ad 0)), (1, .int p0), (2, .int p1), (3, .ref ao)]) hx hb dL_twoTo_17 hl (by decide) rfl (fun ls hl => ?_)
      refine lv_iconst (v := 2) hx hb dL_twoTo_19 (by decide) ?_
      refine W.widen (k := 2) (n := 12) (Nat.le_of_ble_eq_true rfl) (Nat.le_of_ble_eq_true rfl) ?_
      exact W.iret (v := 2) hx hb hr (fun t ht hW => ⟨⟨2, (S, o), rfl, by rw [hw]; rfl, by show va_P D pCl _ t.heap; rw [ht]; exact hP⟩, hS.F ht⟩) hS.2.2 dL_twoTo_20
  · obtain ⟨hP1, hD1⟩ := hB
    rw [ht] at hP1
    have hP := xP_join hP hP1 hk
    have hD : va_D A (xW cI cJ ad ao u o) := xD_any hD
    refine lv_i2l hx hb dL_twoTo_8 rfl ?_
    refine va_last hx hb hK hP hD hS 8 1 rfl rfl in01 dL_twoTo_9 (fun H locs hP hD hS => ?_)
    refine lv_goto (tgt := 21) hx hb dL_twoTo_10 (by decide) ?_
    refine lv_iconst (v := 0) hx hb dL_twoTo_21 (by decide) ?_
    refine W.widen (k := 2) (n := 12) (Nat.le_of_ble_eq_true rfl) (Nat.le_of_ble_eq_true rfl) ?_
    exact W.iret (v := 0) hx hb hr (fun t ht hW => ⟨⟨0, (u, vp_updL o (0 : Int32).toNatClampNeg ((r : Int32).toInt64)), rfl, by rw [hw]; rfl, by show va_P D pCl _ t.heap; rw [ht]; exact hP⟩, hS.F ht⟩) hS.2.2 dL_twoTo_22

set_option maxHeartbeats 4000000 in
set_option maxRecDepth 100000 in
theorem met_L_raise (l : Launch) (hfl : l.stackTraces = false) (D : va_G) (cI cJ : ClassId) (ad : Nat → Nat) (ao : Nat) (A : Nat → Prop) (S : pS) (o : Nat → Int64) (p0 : Int32) (p1 : Int32) (p2 : Int32) (hn : vp_in (nxS S) 8) : Met l yL_raise wsL_raise ({ frames := 8, cells := 4, slots := 24, locals := 129 } : Room) (va_Pc [.ref (ad 0), .int p0, .int p1, .int p2, .ref ao] (fun U => va_P D pCl (xW cI cJ ad ao S o) U.heap ∧ va_K D pCl (pTy cI cJ) U ∧ va_D A (xW cI cJ ad ao S o) ∧ xE (fun _ => False) U U.heap ∧ xN U)) (va_Qi (fun (r : Int32) (u : pS × (Nat → Int64)) => wrM [1, 2, 3, 4, 5] S o (f_X0_raise S p0 p1 p2) = (r, u)) (fun u t => va_P D pCl (xW cI cJ ad ao u.1 u.2) t.heap) A) 4 24 A := by
  refine Met_ofWH (cc := cL_raise) (maxL := 6) (ret := (some .int)) (by decide) rfl ?_
  intro p e s m args below meth c s₁ B hml hv
  obtain ⟨rfl, hP, hK, hD, hE, hNc⟩ := hv
  have hx := B.exec
  have hb := B.bytes
  have hr := B.returns
  have hts := atoms_spec (ws := wsL_raise) B.pre
  have hown : s.vm.findClass RL = some m.cls := findClass_of_methodNamed B.named
  have hlocks := B.notSynchronized
  have htb := vx_table (x := yL_raise) B (hts _ List.mem_cons_self)
  have hS0 : va_S (fun _ => False) s.heap s.heap [] := va_S.rf
  have hS : va_S A s.heap s.heap [] := va_S.rf
  have hl := lv_entry ([.ref (ad 0), .int p0, .int p1, .int p2, .ref ao]) (n := 6) (Nat.le_of_ble_eq_true rfl)
  rw [lg_entry_eq]
  generalize (lg_sl ([.ref (ad 0), .int p0, .int p1, .int p2, .ref ao]) ++ List.replicate (6 - (lg_sl ([.ref (ad 0), .int p0, .int p1, .int p2, .ref ao])).length) Slot.unset).toArray = ls at hl ⊢
  have hl : lv_has ls 6 [(0, .ref (ad 0)), (1, .int p0), (2, .int p1), (3, .int p2), (4, .ref ao)] := hl
  have hPc := hP.sub (ws' := pmW cI cJ ad S) [0, 1, 2, 3, 4, 5, 6, 7] rfl
  refine lv_aload hx hb dL_raise_0 (lv_at hl 4 rfl) ?_
  refine lv_iconst (v := 0) hx hb dL_raise_2 (by decide) ?_
  refine lv_aload_n hx hb dL_raise_3 rfl (lv_at hl 0 rfl) ?_
  refine lv_iload_n hx hb dL_raise_4 rfl (lv_at hl 1 rfl) ?_
  refine lv_iload_n hx hb dL_raise_5 rfl (lv_at hl 2 rfl) ?_
  refine lv_iload_n hx hb dL_raise_6 rfl (lv_at hl 3 rfl) ?_
  refine vx_calli (vx_runV (As := [.int p0, .int p1, .int p2]) (rest := [.int 0, .ref ao]) ⟨hx, hb, hml, hown, hts⟩ (met_X0_raise l hfl D cI cJ ad (fun q => A q ∧ q ≠ ao) S p0 p1 p2 hn) (cwV 3 hts gL_raise_X0_raise rfl rfl rfl (by decide +kernel) ⟨Nat.le_of_ble_eq_true rfl, Nat.le_of_ble_eq_true rfl⟩) ⟨fun a U g mk q => ⟨q.1, b0R_calling q.2.1, q.2.2.1, xE_calling q.2.2.2⟩, va_recv hK hPc (ci := 0) (q0 := 0) rfl rfl, fun U hU hW => ⟨rfl, b0R_at hPc hK hU hW, xD_pm hD, xE_at hE hS0 hU hW⟩⟩ rfl rfl hl.1 rfl (lv_room (Nat.le_of_ble_eq_true rfl)) dL_raise_7 ⟨Nat.le_of_ble_eq_true rfl, Nat.le_of_ble_eq_true rfl⟩) hS (fun q _ h => h.1) (fun q h => h.1) (fun q _ h => h.elim) (fun E ce q9 k9 t H locs ht hvm hw hB hz hk hS hc9 hv9 hf9 => ?_) (fun r u t H locs ht hvm hw hB hz hk hS => ?_)
  · have hP := hP.kept (fun k q hk9 => hk _ (vx_lt hP hk9) (fun h => h))
    rcases err_raise hw with rfl | rfl | rfl | rfl | rfl
    · subst hB
      refine vx_catch (name := "java/lang/IndexOutOfBoundsException") hown [] ⟨0, 12, 15, 13⟩ [⟨0, 12, 19, 15⟩, ⟨0, 12, 23, 29⟩, ⟨0, 12, 27, 31⟩, ⟨0, 12, 31, 21⟩] (by rw [htb]; rfl) (fun z hz => nomatch hz) (by decide) (by decide) (hts (.classLink RL 13 "java/lang/IndexOutOfBoundsException") (by decide +kernel)) (va_Nw.use rfl (hE.2.2.2.1 (exN 1) (by decide +kernel))) hc9 hv9 hf9 ?_
      refine lv_astore (lv' := [(5, .ref q9), (0, .ref (ad 0)), (1, .int p0), (2, .int p1), (3, .int p2), (4, .ref ao)]) hx hb dL_raise_15 hl (by decide) rfl (fun ls hl => ?_)
      refine lv_iconst (v := 1) hx hb dL_raise_17 (by decide) ?_
      refine W.widen (k := 4) (n := 24) (Nat.le_of_ble_eq_true rfl) (Nat.le_of_ble_eq_true rfl) ?_
      exact W.iret (v := 1) hx hb hr (fun t ht hW => ⟨⟨1, (S, o), rfl, by rw [hw]; rfl, by show va_P D pCl _ t.heap; rw [ht]; exact hP⟩, hS.F ht⟩) hS.2.2 dL_raise_18
    · subst hB
      have hpass : ∀ z ∈ ([⟨0, 12, 15, 13⟩] : List ExceptionTableEntry), covers z 7 = false ∨ (z.catchType ≠ 0 ∧ ∃ nm : String, (Cond.classLink RL z.catchType nm).before (#[.ref (ad 0), .int p0, .int p1, .int p2, .ref ao] : Array Value) s = true ∧ va_Nc (exN 2) nm s) := by
        intro z hz
        simp only [List.mem_cons, List.not_mem_nil, or_false] at hz
        rcases hz with rfl
        · exact Or.inr ⟨by decide, "java/lang/IndexOutOfBoundsException", hts (.classLink RL 13 "java/lang/IndexOutOfBoundsException") (by decide +kernel), hNc 2 1 (by decide) (by decide) (by decide) (by decide) (by decide)⟩
      refine vx_catch (name := "java/lang/IllegalArgumentException") hown [⟨0, 12, 15, 13⟩] ⟨0, 12, 19, 15⟩ [⟨0, 12, 23, 29⟩, ⟨0, 12, 27, 31⟩, ⟨0, 12, 31, 21⟩] (by rw [htb]; rfl) hpass (by decide) (by decide) (hts (.classLink RL 15 "java/lang/IllegalArgumentException") (by decide +kernel)) (va_Nw.use rfl (hE.2.2.2.1 (exN 2) (by decide +kernel))) hc9 hv9 hf9 ?_
      refine lv_astore (lv' := [(5, .ref q9), (0, .ref (ad 0)), (1, .int p0), (2, .int p1), (3, .int p2), (4, .ref ao)]) hx hb dL_raise_19 hl (by decide) rfl (fun ls hl => ?_)
      refine lv_iconst (v := 2) hx hb dL_raise_21 (by decide) ?_
      refine W.widen (k := 4) (n := 24) (Nat.le_of_ble_eq_true rfl) (Nat.le_of_ble_eq_true rfl) ?_
      exact W.iret (v := 2) hx hb hr (fun t ht hW => ⟨⟨2, (S, o), rfl, by rw [hw]; rfl, by show va_P D pCl _ t.heap; rw [ht]; exact hP⟩, hS.F ht⟩) hS.2.2 dL_raise_22
    · subst hB
      have hpass : ∀ z ∈ ([⟨0, 12, 15, 13⟩, ⟨0, 12, 19, 15⟩] : List ExceptionTableEntry), covers z 7 = false ∨ (z.catchType ≠ 0 ∧ ∃ nm : String, (Cond.classLink RL z.catchType nm).before (#[.ref (ad 0), .int p0, .int p1, .int p2, .ref ao] : Array Value) s = true ∧ va_Nc (exN 3) nm s) := by
        intro z hz
        simp only [List.mem_cons, List.not_mem_nil, or_false] at hz
        rcases hz with rfl | rfl
        · exact Or.inr ⟨by decide, "java/lang/IndexOutOfBoundsException", hts (.classLink RL 13 "java/lang/IndexOutOfBoundsException") (by decide +kernel), hNc 3 1 (by decide) (by decide) (by decide) (by decide) (by decide)⟩
        · exact Or.inr ⟨by decide, "java/lang/IllegalArgumentException", hts (.classLink RL 15 "java/lang/IllegalArgumentException") (by decide +kernel), hNc 3 2 (by decide) (by decide) (by decide) (by decide) (by decide)⟩
      refine vx_catch (name := "java/lang/IllegalStateException") hown [⟨0, 12, 15, 13⟩, ⟨0, 12, 19, 15⟩] ⟨0, 12, 23, 29⟩ [⟨0, 12, 27, 31⟩, ⟨0, 12, 31, 21⟩] (by rw [htb]; rfl) hpass (by decide) (by decide) (hts (.classLink RL 29 "java/lang/IllegalStateException") (by decide +kernel)) (va_Nw.use rfl (hE.2.2.2.1 (exN 3) (by decide +kernel))) hc9 hv9 hf9 ?_
      refine lv_astore (lv' := [(5, .ref q9), (0, .ref (ad 0)), (1, .int p0), (2, .int p1), (3, .int p2), (4, .ref ao)]) hx hb dL_raise_23 hl (by decide) rfl (fun ls hl => ?_)
      refine lv_iconst (v := 3) hx hb dL_raise_25 (by decide) ?_
      refine W.widen (k := 4) (n := 24) (Nat.le_of_ble_eq_true rfl) (Nat.le_of_ble_eq_true rfl) ?_
      exact W.iret (v := 3) hx hb hr (fun t ht hW => ⟨⟨3, (S, o), rfl, by rw [hw]; rfl, by show va_P D pCl _ t.heap; rw [ht]; exact hP⟩, hS.F ht⟩) hS.2.2 dL_raise_26
    · subst hB
      have hpass : ∀ z ∈ ([⟨0, 12, 15, 13⟩, ⟨0, 12, 19, 15⟩, ⟨0, 12, 23, 29⟩] : List ExceptionTableEntry), covers z 7 = false ∨ (z.catchType ≠ 0 ∧ ∃ nm : String, (Cond.classLink RL z.catchType nm).before (#[.ref (ad 0), .int p0, .int p1, .int p2, .ref ao] : Array Value) s = true ∧ va_Nc (exN 4) nm s) := by
        intro z hz
        simp only [List.mem_cons, List.not_mem_nil, or_false] at hz
        rcases hz with rfl | rfl | rfl
        · exact Or.inr ⟨by decide, "java/lang/IndexOutOfBoundsException", hts (.classLink RL 13 "java/lang/IndexOutOfBoundsException") (by decide +kernel), hNc 4 1 (by decide) (by decide) (by decide) (by decide) (by decide)⟩
        · exact Or.inr ⟨by decide, "java/lang/IllegalArgumentException", hts (.classLink RL 15 "java/lang/IllegalArgumentException") (by decide +kernel), hNc 4 2 (by decide) (by decide) (by decide) (by decide) (by decide)⟩
        · exact Or.inr ⟨by decide, "java/lang/IllegalStateException", hts (.classLink RL 29 "java/lang/IllegalStateException") (by decide +kernel), hNc 4 3 (by decide) (by decide) (by decide) (by decide) (by decide)⟩
      refine vx_catch (name := "java/lang/ArithmeticException") hown [⟨0, 12, 15, 13⟩, ⟨0, 12, 19, 15⟩, ⟨0, 12, 23, 29⟩] ⟨0, 12, 27, 31⟩ [⟨0, 12, 31, 21⟩] (by rw [htb]; rfl) hpass (by decide) (by decide) (hts (.classLink RL 31 "java/lang/ArithmeticException") (by decide +kernel)) (va_Nw.use rfl (hE.2.2.2.1 (exN 4) (by decide +kernel))) hc9 hv9 hf9 ?_
      refine lv_astore (lv' := [(5, .ref q9), (0, .ref (ad 0)), (1, .int p0), (2, .int p1), (3, .int p2), (4, .ref ao)]) hx hb dL_raise_27 hl (by decide) rfl (fun ls hl => ?_)
      refine lv_iconst (v := 4) hx hb dL_raise_29 (by decide) ?_
      refine W.widen (k := 4) (n := 24) (Nat.le_of_ble_eq_true rfl) (Nat.le_of_ble_eq_true rfl) ?_
      exact W.iret (v := 4) hx hb hr (fun t ht hW => ⟨⟨4, (S, o), rfl, by rw [hw]; rfl, by show va_P D pCl _ t.heap; rw [ht]; exact hP⟩, hS.F ht⟩) hS.2.2 dL_raise_30
    · subst hB
      have hpass : ∀ z ∈ ([⟨0, 12, 15, 13⟩, ⟨0, 12, 19, 15⟩, ⟨0, 12, 23, 29⟩, ⟨0, 12, 27, 31⟩] : List ExceptionTableEntry), covers z 7 = false ∨ (z.catchType ≠ 0 ∧ ∃ nm : String, (Cond.classLink RL z.catchType nm).before (#[.ref (ad 0), .int p0, .int p1, .int p2, .ref ao] : Array Value) s = true ∧ va_Nc (exN 5) nm s) := by
        intro z hz
        simp only [List.mem_cons, List.not_mem_nil, or_false] at hz
        rcases hz with rfl | rfl | rfl | rfl
        · exact Or.inr ⟨by decide, "java/lang/IndexOutOfBoundsException", hts (.classLink RL 13 "java/lang/IndexOutOfBoundsException") (by decide +kernel), hNc 5 1 (by decide) (by decide) (by decide) (by decide) (by decide)⟩
        · exact Or.inr ⟨by decide, "java/lang/IllegalArgumentException", hts (.classLink RL 15 "java/lang/IllegalArgumentException") (by decide +kernel), hNc 5 2 (by decide) (by decide) (by decide) (by decide) (by decide)⟩
        · exact Or.inr ⟨by decide, "java/lang/IllegalStateException", hts (.classLink RL 29 "java/lang/IllegalStateException") (by decide +kernel), hNc 5 3 (by decide) (by decide) (by decide) (by decide) (by decide)⟩
        · exact Or.inr ⟨by decide, "java/lang/ArithmeticException", hts (.classLink RL 31 "java/lang/ArithmeticException") (by decide +kernel), hNc 5 4 (by decide) (by decide) (by decide) (by decide) (by decide)⟩
      refine vx_catch (name := "java/lang/UnsupportedOperationException") hown [⟨0, 12, 15, 13⟩, ⟨0, 12, 19, 15⟩, ⟨0, 12, 23, 29⟩, ⟨0, 12, 27, 31⟩] ⟨0, 12, 31, 21⟩ [] (by rw [htb]; rfl) hpass (by decide) (by decide) (hts (.classLink RL 21 "java/lang/UnsupportedOperationException") (by decide +kernel)) (va_Nw.use rfl (hE.2.2.2.1 (exN 5) (by decide +kernel))) hc9 hv9 hf9 ?_
      refine lv_astore (lv' := [(5, .ref q9), (0, .ref (ad 0)), (1, .int p0), (2, .int p1), (3, .int p2), (4, .ref ao)]) hx hb dL_raise_31 hl (by decide) rfl (fun ls hl => ?_)
      refine lv_iconst (v := 5) hx hb dL_raise_33 (by decide) ?_
      refine W.widen (k := 4) (n := 24) (Nat.le_of_ble_eq_true rfl) (Nat.le_of_ble_eq_true rfl) ?_
      exact W.iret (v := 5) hx hb hr (fun t ht hW => ⟨⟨5, (S, o), rfl, by rw [hw]; rfl, by show va_P D pCl _ t.heap; rw [ht]; exact hP⟩, hS.F ht⟩) hS.2.2 dL_raise_34
  · obtain ⟨hP1, hD1⟩ := hB
    rw [ht] at hP1
    have hP := xP_join hP hP1 hk
    have hD : va_D A (xW cI cJ ad ao u o) := xD_any hD
    refine lv_i2l hx hb dL_raise_10 rfl ?_
    refine va_last hx hb hK hP hD hS 8 1 rfl rfl in01 dL_raise_11 (fun H locs hP hD hS => ?_)
    refine lv_goto (tgt := 35) hx hb dL_raise_12 (by decide) ?_
    refine lv_iconst (v := 0) hx hb dL_raise_35 (by decide) ?_
    refine W.widen (k := 4) (n := 24) (Nat.le_of_ble_eq_true rfl) (Nat.le_of_ble_eq_true rfl) ?_
    exact W.iret (v := 0) hx hb hr (fun t ht hW => ⟨⟨0, (u, vp_updL o (0 : Int32).toNatClampNeg ((r : Int32).toInt64)), rfl, by rw [hw]; rfl, by show va_P D pCl _ t.heap; rw [ht]; exact hP⟩, hS.F ht⟩) hS.2.2 dL_raise_36

set_option maxHeartbeats 4000000 in
set_option maxRecDepth 100000 in
theorem met_L_copy (l : Launch) (hfl : l.stackTraces = false) (D : va_G) (cI cJ : ClassId) (ad : Nat → Nat) (ao : Nat) (A : Nat → Prop) (S : pS) (o : Nat → Int64) (p0 : Int32) (p1 : Int32) (hn : vp_in (nxS S) 8) : Met l yL_copy wsL_copy ({ frames := 8, cells := 2, slots := 12, locals := 126 } : Room) (va_Pc [.ref (ad 0), .int p0, .int p1, .ref ao] (fun U => va_P D pCl (xW cI cJ ad ao S o) U.heap ∧ va_K D pCl (pTy cI cJ) U ∧ va_D A (xW cI cJ ad ao S o) ∧ xE (fun _ => False) U U.heap ∧ xN U)) (va_Qi (fun (r : Int32) (u : pS × (Nat → Int64)) => wrM [1] S o (f_X0_copy S p0 p1) = (r, u)) (fun u t => va_P D pCl (xW cI cJ ad ao u.1 u.2) t.heap) A) 2 12 A := by
  refine Met_ofWH (cc := cL_copy) (maxL := 5) (ret := (some .int)) (by decide) rfl ?_
  intro p e s m args below meth c s₁ B hml hv
  obtain ⟨rfl, hP, hK, hD, hE, hNc⟩ := hv
  have hx := B.exec
  have hb := B.bytes
  have hr := B.returns
  have hts := atoms_spec (ws := wsL_copy) B.pre
  have hown : s.vm.findClass RL = some m.cls := findClass_of_methodNamed B.named
  have hlocks := B.notSynchronized
  have htb := vx_table (x := yL_copy) B (hts _ List.mem_cons_self)
  have hS0 : va_S (fun _ => False) s.heap s.heap [] := va_S.rf
  have hS : va_S A s.heap s.heap [] := va_S.rf
  have hl := lv_entry ([.ref (ad 0), .int p0, .int p1, .ref ao]) (n := 5) (Nat.le_of_ble_eq_true rfl)
  rw [lg_entry_eq]
  generalize (lg_sl ([.ref (ad 0), .int p0, .int p1, .ref ao]) ++ List.replicate (5 - (lg_sl ([.ref (ad 0), .int p0, .int p1, .ref ao])).length) Slot.unset).toArray = ls at hl ⊢
  have hl : lv_has ls 5 [(0, .ref (ad 0)), (1, .int p0), (2, .int p1), (3, .ref ao)] := hl
  have hPc := hP.sub (ws' := pmW cI cJ ad S) [0, 1, 2, 3, 4, 5, 6, 7] rfl
  refine lv_aload_n hx hb dL_copy_0 rfl (lv_at hl 3 rfl) ?_
  refine lv_iconst (v := 0) hx hb dL_copy_1 (by decide) ?_
  refine lv_aload_n hx hb dL_copy_2 rfl (lv_at hl 0 rfl) ?_
  refine lv_iload_n hx hb dL_copy_3 rfl (lv_at hl 1 rfl) ?_
  refine lv_iload_n hx hb dL_copy_4 rfl (lv_at hl 2 rfl) ?_
  refine vx_calli (vx_runV (As := [.int p0, .int p1]) (rest := [.int 0, .ref ao]) ⟨hx, hb, hml, hown, hts⟩ (met_X0_copy l hfl D cI cJ ad (fun q => A q ∧ q ≠ ao) S p0 p1 hn) (cwV 2 hts gL_copy_X0_copy rfl rfl rfl (by decide +kernel) ⟨Nat.le_of_ble_eq_true rfl, Nat.le_of_ble_eq_true rfl⟩) ⟨fun a U g mk q => ⟨q.1, b0R_calling q.2.1, q.2.2.1, xE_calling q.2.2.2⟩, va_recv hK hPc (ci := 0) (q0 := 0) rfl rfl, fun U hU hW => ⟨rfl, b0R_at hPc hK hU hW, xD_pm hD, xE_at hE hS0 hU hW⟩⟩ rfl rfl hl.1 rfl (lv_room (Nat.le_of_ble_eq_true rfl)) dL_copy_5 ⟨Nat.le_of_ble_eq_true rfl, Nat.le_of_ble_eq_true rfl⟩) hS (fun q _ h => h.1) (fun q h => h.1) (fun q _ h => h.elim) (fun E ce q9 k9 t H locs ht hvm hw hB hz hk hS hc9 hv9 hf9 => ?_) (fun r u t H locs ht hvm hw hB hz hk hS => ?_)
  · have hP := hP.kept (fun k q hk9 => hk _ (vx_lt hP hk9) (fun h => h))
    rcases err_copy hw with rfl
    · subst hB
      refine vx_catch (name := "java/lang/IndexOutOfBoundsException") hown [] ⟨0, 10, 13, 13⟩ [] (by rw [htb]; rfl) (fun z hz => nomatch hz) (by decide) (by decide) (hts (.classLink RL 13 "java/lang/IndexOutOfBoundsException") (by decide +kernel)) (va_Nw.use rfl (hE.2.2.2.1 (exN 1) (by decide +kernel))) hc9 hv9 hf9 ?_
      refine lv_astore (lv' := [(4, .ref q9), (0, .ref (ad 0)), (1, .int p0), (2, .int p1), (3, .ref ao)]) hx hb dL_copy_13 hl (by decide) rfl (fun ls hl => ?_)
      refine lv_iconst (v := 1) hx hb dL_copy_15 (by decide) ?_
      refine W.widen (k := 2) (n := 12) (Nat.le_of_ble_eq_true rfl) (Nat.le_of_ble_eq_true rfl) ?_
      exact W.iret (v := 1) hx hb hr (fun t ht hW => ⟨⟨1, (S, o), rfl, by rw [hw]; rfl, by show va_P D pCl _ t.heap; rw [ht]; exact hP⟩, hS.F ht⟩) hS.2.2 dL_copy_16
  · obtain ⟨hP1, hD1⟩ := hB
    rw [ht] at hP1
    have hP := xP_join hP hP1 hk
    have hD : va_D A (xW cI cJ ad ao u o) := xD_any hD
    refine lv_i2l hx hb dL_copy_8 rfl ?_
    refine va_last hx hb hK hP hD hS 8 1 rfl rfl in01 dL_copy_9 (fun H locs hP hD hS => ?_)
    refine lv_goto (tgt := 17) hx hb dL_copy_10 (by decide) ?_
    refine lv_iconst (v := 0) hx hb dL_copy_17 (by decide) ?_
    refine W.widen (k := 2) (n := 12) (Nat.le_of_ble_eq_true rfl) (Nat.le_of_ble_eq_true rfl) ?_
    exact W.iret (v := 0) hx hb hr (fun t ht hW => ⟨⟨0, (u, vp_updL o (0 : Int32).toNatClampNeg ((r : Int32).toInt64)), rfl, by rw [hw]; rfl, by show va_P D pCl _ t.heap; rw [ht]; exact hP⟩, hS.F ht⟩) hS.2.2 dL_copy_18

set_option maxHeartbeats 4000000 in
set_option maxRecDepth 100000 in
theorem met_L_undo (l : Launch) (hfl : l.stackTraces = false) (D : va_G) (cI cJ : ClassId) (ad : Nat → Nat) (ao : Nat) (A : Nat → Prop) (S : pS) (o : Nat → Int64) (hn : vp_in (nxS S) 8) (hks : ∀ j : Nat, vp_in ((ksS S) j) 8) : Met l yL_undo wsL_undo ({ frames := 7, cells := 1, slots := 6, locals := 105 } : Room) (va_Pc [.ref (ad 0), .ref ao] (fun U => va_P D pCl (xW cI cJ ad ao S o) U.heap ∧ va_K D pCl (pTy cI cJ) U ∧ va_D A (xW cI cJ ad ao S o) ∧ xE (fun _ => False) U U.heap ∧ xN U)) (va_Qi (fun (r : Int32) (u : pS × (Nat → Int64)) => wrM [6] S o (f_X0_undo S) = (r, u)) (fun u t => va_P D pCl (xW cI cJ ad ao u.1 u.2) t.heap) A) 1 6 A := by
  refine Met_ofWH (cc := cL_undo) (maxL := 3) (ret := (some .int)) (by decide) rfl ?_
  intro p e s m args below meth c s₁ B hml hv
  obtain ⟨rfl, hP, hK, hD, hE, hNc⟩ := hv
  have hx := B.exec
  have hb := B.bytes
  have hr := B.returns
  have hts := atoms_spec (ws := wsL_undo) B.pre
  have hown : s.vm.findClass RL = some m.cls := findClass_of_methodNamed B.named
  have hlocks := B.notSynchronized
  have htb := vx_table (x := yL_undo) B (hts _ List.mem_cons_self)
  have hS0 : va_S (fun _ => False) s.heap s.heap [] := va_S.rf
  have hS : va_S A s.heap s.heap [] := va_S.rf
  have hl := lv_entry ([.ref (ad 0), .ref ao]) (n := 3) (Nat.le_of_ble_eq_true rfl)
  rw [lg_entry_eq]
  generalize (lg_sl ([.ref (ad 0), .ref ao]) ++ List.replicate (3 - (lg_sl ([.ref (ad 0), .ref ao])).length) Slot.unset).toArray = ls at hl ⊢
  have hl : lv_has ls 3 [(0, .ref (ad 0)), (1, .ref ao)] := hl
  have hPc := hP.sub (ws' := pmW cI cJ ad S) [0, 1, 2, 3, 4, 5, 6, 7] rfl
  refine lv_aload_n hx hb dL_undo_0 rfl (lv_at hl 1 rfl) ?_
  refine lv_iconst (v := 0) hx hb dL_undo_1 (by decide) ?_
  refine lv_aload_n hx hb dL_undo_2 rfl (lv_at hl 0 rfl) ?_
  refine vx_calli (vx_runV (As := []) (rest := [.int 0, .ref ao]) ⟨hx, hb, hml, hown, hts⟩ (met_X0_undo l hfl D cI cJ ad (fun q => A q ∧ q ≠ ao) S hn hks) (cwV 0 hts gL_undo_X0_undo rfl rfl rfl (by decide +kernel) ⟨Nat.le_of_ble_eq_true rfl, Nat.le_of_ble_eq_true rfl⟩) ⟨fun a U g mk q => ⟨q.1, b0R_calling q.2.1, q.2.2.1, xE_calling q.2.2.2⟩, va_recv hK hPc (ci := 0) (q0 := 0) rfl rfl, fun U hU hW => ⟨rfl, b0R_at hPc hK hU hW, xD_pm hD, xE_at hE hS0 hU hW⟩⟩ rfl rfl hl.1 rfl (lv_room (Nat.le_of_ble_eq_true rfl)) dL_undo_3 ⟨Nat.le_of_ble_eq_true rfl, Nat.le_of_ble_eq_true rfl⟩) hS (fun q _ h => h.1) (fun q h => h.1) (fun q _ h => h.elim) (fun E ce q9 k9 t H locs ht hvm hw hB hz hk hS hc9 hv9 hf9 => ?_) (fun r u t H locs ht hvm hw hB hz hk hS => ?_)
  · have hP := hP.kept (fun k q hk9 => hk _ (vx_lt hP hk9) (fun h => h))
    rcases err_undo hw with rfl
    · subst hB
      refine vx_catch (name := "java/util/NoSuchElementException") hown [] ⟨0, 8, 11, 40⟩ [] (by rw [htb]; rfl) (fun z hz => nomatch hz) (by decide) (by decide) (hts (.classLink RL 40 "java/util/NoSuchElementException") (by decide +kernel)) (va_Nw.use rfl (hE.2.2.2.1 (exN 6) (by decide +kernel))) hc9 hv9 hf9 ?_
      refine lv_astore_n (lv' := [(2, .ref q9), (0, .ref (ad 0)), (1, .ref ao)]) hx hb dL_undo_11 rfl hl (by decide) rfl (fun ls hl => ?_)
      refine lv_iconst (v := 1) hx hb dL_undo_12 (by decide) ?_
      refine W.widen (k := 1) (n := 6) (Nat.le_of_ble_eq_true rfl) (Nat.le_of_ble_eq_true rfl) ?_
      exact W.iret (v := 1) hx hb hr (fun t ht hW => ⟨⟨1, (S, o), rfl, by rw [hw]; rfl, by show va_P D pCl _ t.heap; rw [ht]; exact hP⟩, hS.F ht⟩) hS.2.2 dL_undo_13
  · obtain ⟨hP1, hD1⟩ := hB
    rw [ht] at hP1
    have hP := xP_join hP hP1 hk
    have hD : va_D A (xW cI cJ ad ao u o) := xD_any hD
    refine lv_i2l hx hb dL_undo_6 rfl ?_
    refine va_last hx hb hK hP hD hS 8 1 rfl rfl in01 dL_undo_7 (fun H locs hP hD hS => ?_)
    refine lv_goto (tgt := 14) hx hb dL_undo_8 (by decide) ?_
    refine lv_iconst (v := 0) hx hb dL_undo_14 (by decide) ?_
    refine W.widen (k := 1) (n := 6) (Nat.le_of_ble_eq_true rfl) (Nat.le_of_ble_eq_true rfl) ?_
    exact W.iret (v := 0) hx hb hr (fun t ht hW => ⟨⟨0, (u, vp_updL o (0 : Int32).toNatClampNeg ((r : Int32).toInt64)), rfl, by rw [hw]; rfl, by show va_P D pCl _ t.heap; rw [ht]; exact hP⟩, hS.F ht⟩) hS.2.2 dL_undo_15

set_option maxHeartbeats 4000000 in
set_option maxRecDepth 100000 in
theorem met_L_sign (l : Launch) (hfl : l.stackTraces = false) (D : va_G) (cI cJ : ClassId) (ad : Nat → Nat) (ao : Nat) (A : Nat → Prop) (S : pS) (o : Nat → Int64) (p0 : Int32)  : Met l yL_sign wsL_sign ({ frames := 8, cells := 1, slots := 6, locals := 125 } : Room) (va_Pc [.ref (ad 0), .int p0, .ref ao] (fun U => va_P D pCl (xW cI cJ ad ao S o) U.heap ∧ va_K D pCl (pTy cI cJ) U ∧ va_D A (xW cI cJ ad ao S o) ∧ xE (fun _ => False) U U.heap ∧ xN U)) (va_Qi (fun (r : Int32) (u : pS × (Nat → Int64)) => wrI [1] S o (f_X0_sign S p0) = (r, u)) (fun u t => va_P D pCl (xW cI cJ ad ao u.1 u.2) t.heap) A) 1 6 A := by
  refine Met_ofWH (cc := cL_sign) (maxL := 4) (ret := (some .int)) (by decide) rfl ?_
  intro p e s m args below meth c s₁ B hml hv
  obtain ⟨rfl, hP, hK, hD, hE, hNc⟩ := hv
  have hx := B.exec
  have hb := B.bytes
  have hr := B.returns
  have hts := atoms_spec (ws := wsL_sign) B.pre
  have hown : s.vm.findClass RL = some m.cls := findClass_of_methodNamed B.named
  have hlocks := B.notSynchronized
  have htb := vx_table (x := yL_sign) B (hts _ List.mem_cons_self)
  have hS0 : va_S (fun _ => False) s.heap s.heap [] := va_S.rf
  have hS : va_S A s.heap s.heap [] := va_S.rf
  have hl := lv_entry ([.ref (ad 0), .int p0, .ref ao]) (n := 4) (Nat.le_of_ble_eq_true rfl)
  rw [lg_entry_eq]
  generalize (lg_sl ([.ref (ad 0), .int p0, .ref ao]) ++ List.replicate (4 - (lg_sl ([.ref (ad 0), .int p0, .ref ao])).length) Slot.unset).toArray = ls at hl ⊢
  have hl : lv_has ls 4 [(0, .ref (ad 0)), (1, .int p0), (2, .ref ao)] := hl
  have hPc := hP.sub (ws' := pmW cI cJ ad S) [0, 1, 2, 3, 4, 5, 6, 7] rfl
  refine lv_aload_n hx hb dL_sign_0 rfl (lv_at hl 2 rfl) ?_
  refine lv_iconst (v := 0) hx hb dL_sign_1 (by decide) ?_
  refine lv_aload_n hx hb dL_sign_2 rfl (lv_at hl 0 rfl) ?_
  refine lv_iload_n hx hb dL_sign_3 rfl (lv_at hl 1 rfl) ?_
  refine vx_calli (vx_runV (As := [.int p0]) (rest := [.int 0, .ref ao]) ⟨hx, hb, hml, hown, hts⟩ (met_X0_sign l hfl D cI cJ ad S p0) (cwV 1 hts gL_sign_X0_sign rfl rfl rfl (by decide +kernel) ⟨Nat.le_of_ble_eq_true rfl, Nat.le_of_ble_eq_true rfl⟩) ⟨fun a U g mk q => ⟨q.1, b0R_calling q.2.1, xE_calling q.2.2⟩, va_recv hK hPc (ci := 0) (q0 := 0) rfl rfl, fun U hU hW => ⟨rfl, b0R_at hPc hK hU hW, xE_at hE hS0 hU hW⟩⟩ rfl rfl hl.1 rfl (lv_room (Nat.le_of_ble_eq_true rfl)) dL_sign_4 ⟨Nat.le_of_ble_eq_true rfl, Nat.le_of_ble_eq_true rfl⟩) hS (fun q _ h => h.elim) (fun q h => h.elim) (fun q _ h => h.elim) (fun E ce q9 k9 t H locs ht hvm hw hB hz hk hS hc9 hv9 hf9 => ?_) (fun r u t H locs ht hvm hw hB hz hk hS => ?_)
  · have hP := hP.kept (fun k q hk9 => hk _ (vx_lt hP hk9) (fun h => h))
    rcases err_sign hw with rfl
    · subst hB
      refine vx_catch (name := "java/lang/IndexOutOfBoundsException") hown [] ⟨0, 9, 12, 13⟩ [] (by rw [htb]; rfl) (fun z hz => nomatch hz) (by decide) (by decide) (hts (.classLink RL 13 "java/lang/IndexOutOfBoundsException") (by decide +kernel)) (va_Nw.use rfl (hE.2.2.2.1 (exN 1) (by decide +kernel))) hc9 hv9 hf9 ?_
      refine lv_astore_n (lv' := [(3, .ref q9), (0, .ref (ad 0)), (1, .int p0), (2, .ref ao)]) hx hb dL_sign_12 rfl hl (by decide) rfl (fun ls hl => ?_)
      refine lv_iconst (v := 1) hx hb dL_sign_13 (by decide) ?_
      refine W.widen (k := 1) (n := 6) (Nat.le_of_ble_eq_true rfl) (Nat.le_of_ble_eq_true rfl) ?_
      exact W.iret (v := 1) hx hb hr (fun t ht hW => ⟨⟨1, (S, o), rfl, by rw [hw]; rfl, by show va_P D pCl _ t.heap; rw [ht]; exact hP⟩, hS.F ht⟩) hS.2.2 dL_sign_14
  · have hP := hP.kept (fun k q hk9 => hk _ (vx_lt hP hk9) (fun h => h))
    refine lv_i2l hx hb dL_sign_7 rfl ?_
    refine va_last hx hb hK hP hD hS 8 1 rfl rfl in01 dL_sign_8 (fun H locs hP hD hS => ?_)
    refine lv_goto (tgt := 15) hx hb dL_sign_9 (by decide) ?_
    refine lv_iconst (v := 0) hx hb dL_sign_15 (by decide) ?_
    refine W.widen (k := 1) (n := 6) (Nat.le_of_ble_eq_true rfl) (Nat.le_of_ble_eq_true rfl) ?_
    exact W.iret (v := 0) hx hb hr (fun t ht hW => ⟨⟨0, (S, vp_updL o (0 : Int32).toNatClampNeg ((r : Int32).toInt64)), rfl, by rw [hw]; rfl, by show va_P D pCl _ t.heap; rw [ht]; exact hP⟩, hS.F ht⟩) hS.2.2 dL_sign_16

set_option maxHeartbeats 4000000 in
set_option maxRecDepth 100000 in
theorem met_L_odd (l : Launch) (hfl : l.stackTraces = false) (D : va_G) (cI cJ : ClassId) (ad : Nat → Nat) (ao : Nat) (A : Nat → Prop) (S : pS) (o : Nat → Int64) (p0 : Int32)  : Met l yL_odd wsL_odd ({ frames := 8, cells := 1, slots := 6, locals := 125 } : Room) (va_Pc [.ref (ad 0), .int p0, .ref ao] (fun U => va_P D pCl (xW cI cJ ad ao S o) U.heap ∧ va_K D pCl (pTy cI cJ) U ∧ va_D A (xW cI cJ ad ao S o) ∧ xE (fun _ => False) U U.heap ∧ xN U)) (va_Qi (fun (r : Int32) (u : pS × (Nat → Int64)) => wrL [1] S o (f_X0_odd S p0) = (r, u)) (fun u t => va_P D pCl (xW cI cJ ad ao u.1 u.2) t.heap) A) 1 6 A := by
  refine Met_ofWH (cc := cL_odd) (maxL := 4) (ret := (some .int)) (by decide) rfl ?_
  intro p e s m args below meth c s₁ B hml hv
  obtain ⟨rfl, hP, hK, hD, hE, hNc⟩ := hv
  have hx := B.exec
  have hb := B.bytes
  have hr := B.returns
  have hts := atoms_spec (ws := wsL_odd) B.pre
  have hown : s.vm.findClass RL = some m.cls := findClass_of_methodNamed B.named
  have hlocks := B.notSynchronized
  have htb := vx_table (x := yL_odd) B (hts _ List.mem_cons_self)
  have hS0 : va_S (fun _ => False) s.heap s.heap [] := va_S.rf
  have hS : va_S A s.heap s.heap [] := va_S.rf
  have hl := lv_entry ([.ref (ad 0), .int p0, .ref ao]) (n := 4) (Nat.le_of_ble_eq_true rfl)
  rw [lg_entry_eq]
  generalize (lg_sl ([.ref (ad 0), .int p0, .ref ao]) ++ List.replicate (4 - (lg_sl ([.ref (ad 0), .int p0, .ref ao])).length) Slot.unset).toArray = ls at hl ⊢
  have hl : lv_has ls 4 [(0, .ref (ad 0)), (1, .int p0), (2, .ref ao)] := hl
  have hPc := hP.sub (ws' := pmW cI cJ ad S) [0, 1, 2, 3, 4, 5, 6, 7] rfl
  refine lv_aload_n hx hb dL_odd_0 rfl (lv_at hl 2 rfl) ?_
  refine lv_iconst (v := 0) hx hb dL_odd_1 (by decide) ?_
  refine lv_aload_n hx hb dL_odd_2 rfl (lv_at hl 0 rfl) ?_
  refine lv_iload_n hx hb dL_odd_3 rfl (lv_at hl 1 rfl) ?_
  refine vx_calll (vx_runV (As := [.int p0]) (rest := [.int 0, .ref ao]) ⟨hx, hb, hml, hown, hts⟩ (met_X0_odd l hfl D cI cJ ad S p0) (cwV 1 hts gL_odd_X0_odd rfl rfl rfl (by decide +kernel) ⟨Nat.le_of_ble_eq_true rfl, Nat.le_of_ble_eq_true rfl⟩) ⟨fun a U g mk q => ⟨q.1, b0R_calling q.2.1, xE_calling q.2.2⟩, va_recv hK hPc (ci := 0) (q0 := 0) rfl rfl, fun U hU hW => ⟨rfl, b0R_at hPc hK hU hW, xE_at hE hS0 hU hW⟩⟩ rfl rfl hl.1 rfl (lv_room (Nat.le_of_ble_eq_true rfl)) dL_odd_4 ⟨Nat.le_of_ble_eq_true rfl, Nat.le_of_ble_eq_true rfl⟩) hS (fun q _ h => h.elim) (fun q h => h.elim) (fun q _ h => h.elim) (fun E ce q9 k9 t H locs ht hvm hw hB hz hk hS hc9 hv9 hf9 => ?_) (fun r u t H locs ht hvm hw hB hz hk hS => ?_)
  · have hP := hP.kept (fun k q hk9 => hk _ (vx_lt hP hk9) (fun h => h))
    rcases err_odd hw with rfl
    · subst hB
      refine vx_catch (name := "java/lang/IndexOutOfBoundsException") hown [] ⟨0, 8, 11, 13⟩ [] (by rw [htb]; rfl) (fun z hz => nomatch hz) (by decide) (by decide) (hts (.classLink RL 13 "java/lang/IndexOutOfBoundsException") (by decide +kernel)) (va_Nw.use rfl (hE.2.2.2.1 (exN 1) (by decide +kernel))) hc9 hv9 hf9 ?_
      refine lv_astore_n (lv' := [(3, .ref q9), (0, .ref (ad 0)), (1, .int p0), (2, .ref ao)]) hx hb dL_odd_11 rfl hl (by decide) rfl (fun ls hl => ?_)
      refine lv_iconst (v := 1) hx hb dL_odd_12 (by decide) ?_
      refine W.widen (k := 1) (n := 6) (Nat.le_of_ble_eq_true rfl) (Nat.le_of_ble_eq_true rfl) ?_
      exact W.iret (v := 1) hx hb hr (fun t ht hW => ⟨⟨1, (S, o), rfl, by rw [hw]; rfl, by show va_P D pCl _ t.heap; rw [ht]; exact hP⟩, hS.F ht⟩) hS.2.2 dL_odd_13
  · have hP := hP.kept (fun k q hk9 => hk _ (vx_lt hP hk9) (fun h => h))
    refine va_last hx hb hK hP hD hS 8 1 rfl rfl in01 dL_odd_7 (fun H locs hP hD hS => ?_)
    refine lv_goto (tgt := 14) hx hb dL_odd_8 (by decide) ?_
    refine lv_iconst (v := 0) hx hb dL_odd_14 (by decide) ?_
    refine W.widen (k := 1) (n := 6) (Nat.le_of_ble_eq_true rfl) (Nat.le_of_ble_eq_true rfl) ?_
    exact W.iret (v := 0) hx hb hr (fun t ht hW => ⟨⟨0, (S, vp_updL o (0 : Int32).toNatClampNeg r), rfl, by rw [hw]; rfl, by show va_P D pCl _ t.heap; rw [ht]; exact hP⟩, hS.F ht⟩) hS.2.2 dL_odd_15

set_option maxHeartbeats 4000000 in
set_option maxRecDepth 100000 in
theorem met_L_shift (l : Launch) (hfl : l.stackTraces = false) (D : va_G) (cI cJ : ClassId) (ad : Nat → Nat) (ao : Nat) (A : Nat → Prop) (S : pS) (o : Nat → Int64) (p0 : Int32)  : Met l yL_shift wsL_shift ({ frames := 8, cells := 1, slots := 6, locals := 125 } : Room) (va_Pc [.ref (ad 0), .int p0, .ref ao] (fun U => va_P D pCl (xW cI cJ ad ao S o) U.heap ∧ va_K D pCl (pTy cI cJ) U ∧ va_D A (xW cI cJ ad ao S o) ∧ xE (fun _ => False) U U.heap ∧ xN U)) (va_Qi (fun (r : Int32) (u : pS × (Nat → Int64)) => wrI [1] S o (f_X0_shift S p0) = (r, u)) (fun u t => va_P D pCl (xW cI cJ ad ao u.1 u.2) t.heap) A) 1 6 A := by
  refine Met_ofWH (cc := cL_shift) (maxL := 4) (ret := (some .int)) (by decide) rfl ?_
  intro p e s m args below meth c s₁ B hml hv
  obtain ⟨rfl, hP, hK, hD, hE, hNc⟩ := hv
  have hx := B.exec
  have hb := B.bytes
  have hr := B.returns
  have hts := atoms_spec (ws := wsL_shift) B.pre
  have hown : s.vm.findClass RL = some m.cls := findClass_of_methodNamed B.named
  have hlocks := B.notSynchronized
  have htb := vx_table (x := yL_shift) B (hts _ List.mem_cons_self)
  have hS0 : va_S (fun _ => False) s.heap s.heap [] := va_S.rf
  have hS : va_S A s.heap s.heap [] := va_S.rf
  have hl := lv_entry ([.ref (ad 0), .int p0, .ref ao]) (n := 4) (Nat.le_of_ble_eq_true rfl)
  rw [lg_entry_eq]
  generalize (lg_sl ([.ref (ad 0), .int p0, .ref ao]) ++ List.replicate (4 - (lg_sl ([.ref (ad 0), .int p0, .ref ao])).length) Slot.unset).toArray = ls at hl ⊢
  have hl : lv_has ls 4 [(0, .ref (ad 0)), (1, .int p0), (2, .ref ao)] := hl
  have hPc := hP.sub (ws' := pmW cI cJ ad S) [0, 1, 2, 3, 4, 5, 6, 7] rfl
  refine lv_aload_n hx hb dL_shift_0 rfl (lv_at hl 2 rfl) ?_
  refine lv_iconst (v := 0) hx hb dL_shift_1 (by decide) ?_
  refine lv_aload_n hx hb dL_shift_2 rfl (lv_at hl 0 rfl) ?_
  refine lv_iload_n hx hb dL_shift_3 rfl (lv_at hl 1 rfl) ?_
  refine vx_calli (vx_runV (As := [.int p0]) (rest := [.int 0, .ref ao]) ⟨hx, hb, hml, hown, hts⟩ (met_X0_shift l hfl D cI cJ ad S p0) (cwV 1 hts gL_shift_X0_shift rfl rfl rfl (by decide +kernel) ⟨Nat.le_of_ble_eq_true rfl, Nat.le_of_ble_eq_true rfl⟩) ⟨fun a U g mk q => ⟨q.1, b0R_calling q.2.1, xE_calling q.2.2⟩, va_recv hK hPc (ci := 0) (q0 := 0) rfl rfl, fun U hU hW => ⟨rfl, b0R_at hPc hK hU hW, xE_at hE hS0 hU hW⟩⟩ rfl rfl hl.1 rfl (lv_room (Nat.le_of_ble_eq_true rfl)) dL_shift_4 ⟨Nat.le_of_ble_eq_true rfl, Nat.le_of_ble_eq_true rfl⟩) hS (fun q _ h => h.elim) (fun q h => h.elim) (fun q _ h => h.elim) (fun E ce q9 k9 t H locs ht hvm hw hB hz hk hS hc9 hv9 hf9 => ?_) (fun r u t H locs ht hvm hw hB hz hk hS => ?_)
  · have hP := hP.kept (fun k q hk9 => hk _ (vx_lt hP hk9) (fun h => h))
    rcases err_shift hw with rfl
    · subst hB
      refine vx_catch (name := "java/lang/IndexOutOfBoundsException") hown [] ⟨0, 9, 12, 13⟩ [] (by rw [htb]; rfl) (fun z hz => nomatch hz) (by decide) (by decide) (hts (.classLink RL 13 "java/lang/IndexOutOfBoundsException") (by decide +kernel)) (va_Nw.use rfl (hE.2.2.2.1 (exN 1) (by decide +kernel))) hc9 hv9 hf9 ?_
      refine lv_astore_n (lv' := [(3, .ref q9), (0, .ref (ad 0)), (1, .int p0), (2, .ref ao)]) hx hb dL_shift_12 rfl hl (by decide) rfl (fun ls hl => ?_)
      refine lv_iconst (v := 1) hx hb dL_shift_13 (by decide) ?_
      refine W.widen (k := 1) (n := 6) (Nat.le_of_ble_eq_true rfl) (Nat.le_of_ble_eq_true rfl) ?_
      exact W.iret (v := 1) hx hb hr (fun t ht hW => ⟨⟨1, (S, o), rfl, by rw [hw]; rfl, by show va_P D pCl _ t.heap; rw [ht]; exact hP⟩, hS.F ht⟩) hS.2.2 dL_shift_14
  · have hP := hP.kept (fun k q hk9 => hk _ (vx_lt hP hk9) (fun h => h))
    refine lv_i2l hx hb dL_shift_7 rfl ?_
    refine va_last hx hb hK hP hD hS 8 1 rfl rfl in01 dL_shift_8 (fun H locs hP hD hS => ?_)
    refine lv_goto (tgt := 15) hx hb dL_shift_9 (by decide) ?_
    refine lv_iconst (v := 0) hx hb dL_shift_15 (by decide) ?_
    refine W.widen (k := 1) (n := 6) (Nat.le_of_ble_eq_true rfl) (Nat.le_of_ble_eq_true rfl) ?_
    exact W.iret (v := 0) hx hb hr (fun t ht hW => ⟨⟨0, (S, vp_updL o (0 : Int32).toNatClampNeg ((r : Int32).toInt64)), rfl, by rw [hw]; rfl, by show va_P D pCl _ t.heap; rw [ht]; exact hP⟩, hS.F ht⟩) hS.2.2 dL_shift_16

set_option maxHeartbeats 4000000 in
set_option maxRecDepth 100000 in
theorem met_L_bits (l : Launch) (hfl : l.stackTraces = false) (D : va_G) (cI cJ : ClassId) (ad : Nat → Nat) (ao : Nat) (A : Nat → Prop) (S : pS) (o : Nat → Int64) (p0 : Int32)  : Met l yL_bits wsL_bits ({ frames := 8, cells := 1, slots := 6, locals := 125 } : Room) (va_Pc [.ref (ad 0), .int p0, .ref ao] (fun U => va_P D pCl (xW cI cJ ad ao S o) U.heap ∧ va_K D pCl (pTy cI cJ) U ∧ va_D A (xW cI cJ ad ao S o) ∧ xE (fun _ => False) U U.heap ∧ xN U)) (va_Qi (fun (r : Int32) (u : pS × (Nat → Int64)) => wrL [1] S o (f_X0_bits S p0) = (r, u)) (fun u t => va_P D pCl (xW cI cJ ad ao u.1 u.2) t.heap) A) 1 6 A := by
  refine Met_ofWH (cc := cL_bits) (maxL := 4) (ret := (some .int)) (by decide) rfl ?_
  intro p e s m args below meth c s₁ B hml hv
  obtain ⟨rfl, hP, hK, hD, hE, hNc⟩ := hv
  have hx := B.exec
  have hb := B.bytes
  have hr := B.returns
  have hts := atoms_spec (ws := wsL_bits) B.pre
  have hown : s.vm.findClass RL = some m.cls := findClass_of_methodNamed B.named
  have hlocks := B.notSynchronized
  have htb := vx_table (x := yL_bits) B (hts _ List.mem_cons_self)
  have hS0 : va_S (fun _ => False) s.heap s.heap [] := va_S.rf
  have hS : va_S A s.heap s.heap [] := va_S.rf
  have hl := lv_entry ([.ref (ad 0), .int p0, .ref ao]) (n := 4) (Nat.le_of_ble_eq_true rfl)
  rw [lg_entry_eq]
  generalize (lg_sl ([.ref (ad 0), .int p0, .ref ao]) ++ List.replicate (4 - (lg_sl ([.ref (ad 0), .int p0, .ref ao])).length) Slot.unset).toArray = ls at hl ⊢
  have hl : lv_has ls 4 [(0, .ref (ad 0)), (1, .int p0), (2, .ref ao)] := hl
  have hPc := hP.sub (ws' := pmW cI cJ ad S) [0, 1, 2, 3, 4, 5, 6, 7] rfl
  refine lv_aload_n hx hb dL_bits_0 rfl (lv_at hl 2 rfl) ?_
  refine lv_iconst (v := 0) hx hb dL_bits_1 (by decide) ?_
  refine lv_aload_n hx hb dL_bits_2 rfl (lv_at hl 0 rfl) ?_
  refine lv_iload_n hx hb dL_bits_3 rfl (lv_at hl 1 rfl) ?_
  refine vx_calll (vx_runV (As := [.int p0]) (rest := [.int 0, .ref ao]) ⟨hx, hb, hml, hown, hts⟩ (met_X0_bits l hfl D cI cJ ad S p0) (cwV 1 hts gL_bits_X0_bits rfl rfl rfl (by decide +kernel) ⟨Nat.le_of_ble_eq_true rfl, Nat.le_of_ble_eq_true rfl⟩) ⟨fun a U g mk q => ⟨q.1, b0R_calling q.2.1, xE_calling q.2.2⟩, va_recv hK hPc (ci := 0) (q0 := 0) rfl rfl, fun U hU hW => ⟨rfl, b0R_at hPc hK hU hW, xE_at hE hS0 hU hW⟩⟩ rfl rfl hl.1 rfl (lv_room (Nat.le_of_ble_eq_true rfl)) dL_bits_4 ⟨Nat.le_of_ble_eq_true rfl, Nat.le_of_ble_eq_true rfl⟩) hS (fun q _ h => h.elim) (fun q h => h.elim) (fun q _ h => h.elim) (fun E ce q9 k9 t H locs ht hvm hw hB hz hk hS hc9 hv9 hf9 => ?_) (fun r u t H locs ht hvm hw hB hz hk hS => ?_)
  · have hP := hP.kept (fun k q hk9 => hk _ (vx_lt hP hk9) (fun h => h))
    rcases err_bits hw with rfl
    · subst hB
      refine vx_catch (name := "java/lang/IndexOutOfBoundsException") hown [] ⟨0, 8, 11, 13⟩ [] (by rw [htb]; rfl) (fun z hz => nomatch hz) (by decide) (by decide) (hts (.classLink RL 13 "java/lang/IndexOutOfBoundsException") (by decide +kernel)) (va_Nw.use rfl (hE.2.2.2.1 (exN 1) (by decide +kernel))) hc9 hv9 hf9 ?_
      refine lv_astore_n (lv' := [(3, .ref q9), (0, .ref (ad 0)), (1, .int p0), (2, .ref ao)]) hx hb dL_bits_11 rfl hl (by decide) rfl (fun ls hl => ?_)
      refine lv_iconst (v := 1) hx hb dL_bits_12 (by decide) ?_
      refine W.widen (k := 1) (n := 6) (Nat.le_of_ble_eq_true rfl) (Nat.le_of_ble_eq_true rfl) ?_
      exact W.iret (v := 1) hx hb hr (fun t ht hW => ⟨⟨1, (S, o), rfl, by rw [hw]; rfl, by show va_P D pCl _ t.heap; rw [ht]; exact hP⟩, hS.F ht⟩) hS.2.2 dL_bits_13
  · have hP := hP.kept (fun k q hk9 => hk _ (vx_lt hP hk9) (fun h => h))
    refine va_last hx hb hK hP hD hS 8 1 rfl rfl in01 dL_bits_7 (fun H locs hP hD hS => ?_)
    refine lv_goto (tgt := 14) hx hb dL_bits_8 (by decide) ?_
    refine lv_iconst (v := 0) hx hb dL_bits_14 (by decide) ?_
    refine W.widen (k := 1) (n := 6) (Nat.le_of_ble_eq_true rfl) (Nat.le_of_ble_eq_true rfl) ?_
    exact W.iret (v := 0) hx hb hr (fun t ht hW => ⟨⟨0, (S, vp_updL o (0 : Int32).toNatClampNeg r), rfl, by rw [hw]; rfl, by show va_P D pCl _ t.heap; rw [ht]; exact hP⟩, hS.F ht⟩) hS.2.2 dL_bits_15

set_option maxHeartbeats 4000000 in
set_option maxRecDepth 100000 in
theorem met_L_isWhole (l : Launch) (hfl : l.stackTraces = false) (D : va_G) (cI cJ : ClassId) (ad : Nat → Nat) (ao : Nat) (A : Nat → Prop) (S : pS) (o : Nat → Int64) (p0 : Int32)  : Met l yL_isWhole wsL_isWhole ({ frames := 8, cells := 1, slots := 6, locals := 125 } : Room) (va_Pc [.ref (ad 0), .int p0, .ref ao] (fun U => va_P D pCl (xW cI cJ ad ao S o) U.heap ∧ va_K D pCl (pTy cI cJ) U ∧ va_D A (xW cI cJ ad ao S o) ∧ xE (fun _ => False) U U.heap ∧ xN U)) (va_Qi (fun (r : Int32) (u : pS × (Nat → Int64)) => wrZ [1] S o (f_X0_isWhole S p0) = (r, u)) (fun u t => va_P D pCl (xW cI cJ ad ao u.1 u.2) t.heap) A) 1 6 A := by
  refine Met_ofWH (cc := cL_isWhole) (maxL := 4) (ret := (some .int)) (by decide) rfl ?_
  intro p e s m args below meth c s₁ B hml hv
  obtain ⟨rfl, hP, hK, hD, hE, hNc⟩ := hv
  have hx := B.exec
  have hb := B.bytes
  have hr := B.returns
  have hts := atoms_spec (ws := wsL_isWhole) B.pre
  have hown : s.vm.findClass RL = some m.cls := findClass_of_methodNamed B.named
  have hlocks := B.notSynchronized
  have htb := vx_table (x := yL_isWhole) B (hts _ List.mem_cons_self)
  have hS0 : va_S (fun _ => False) s.heap s.heap [] := va_S.rf
  have hS : va_S A s.heap s.heap [] := va_S.rf
  have hl := lv_entry ([.ref (ad 0), .int p0, .ref ao]) (n := 4) (Nat.le_of_ble_eq_true rfl)
  rw [lg_entry_eq]
  generalize (lg_sl ([.ref (ad 0), .int p0, .ref ao]) ++ List.replicate (4 - (lg_sl ([.ref (ad 0), .int p0, .ref ao])).length) Slot.unset).toArray = ls at hl ⊢
  have hl : lv_has ls 4 [(0, .ref (ad 0)), (1, .int p0), (2, .ref ao)] := hl
  have hPc := hP.sub (ws' := pmW cI cJ ad S) [0, 1, 2, 3, 4, 5, 6, 7] rfl
  refine lv_aload_n hx hb dL_isWhole_0 rfl (lv_at hl 2 rfl) ?_
  refine lv_iconst (v := 0) hx hb dL_isWhole_1 (by decide) ?_
  refine lv_aload_n hx hb dL_isWhole_2 rfl (lv_at hl 0 rfl) ?_
  refine lv_iload_n hx hb dL_isWhole_3 rfl (lv_at hl 1 rfl) ?_
  refine vx_calli (vx_runV (As := [.int p0]) (rest := [.int 0, .ref ao]) ⟨hx, hb, hml, hown, hts⟩ (met_X0_isWhole l hfl D cI cJ ad S p0) (cwV 1 hts gL_isWhole_X0_isWhole rfl rfl rfl (by decide +kernel) ⟨Nat.le_of_ble_eq_true rfl, Nat.le_of_ble_eq_true rfl⟩) ⟨fun a U g mk q => ⟨q.1, b0R_calling q.2.1, xE_calling q.2.2⟩, va_recv hK hPc (ci := 0) (q0 := 0) rfl rfl, fun U hU hW => ⟨rfl, b0R_at hPc hK hU hW, xE_at hE hS0 hU hW⟩⟩ rfl rfl hl.1 rfl (lv_room (Nat.le_of_ble_eq_true rfl)) dL_isWhole_4 ⟨Nat.le_of_ble_eq_true rfl, Nat.le_of_ble_eq_true rfl⟩) hS (fun q _ h => h.elim) (fun q h => h.elim) (fun q _ h => h.elim) (fun E ce q9 k9 t H locs ht hvm hw hB hz hk hS hc9 hv9 hf9 => ?_) (fun r u t H locs ht hvm hw hB hz hk hS => ?_)
  · have hP := hP.kept (fun k q hk9 => hk _ (vx_lt hP hk9) (fun h => h))
    rcases err_isWhole hw with rfl
    · subst hB
      refine vx_catch (name := "java/lang/IndexOutOfBoundsException") hown [] ⟨0, 16, 19, 13⟩ [] (by rw [htb]; rfl) (fun z hz => nomatch hz) (by decide) (by decide) (hts (.classLink RL 13 "java/lang/IndexOutOfBoundsException") (by decide +kernel)) (va_Nw.use rfl (hE.2.2.2.1 (exN 1) (by decide +kernel))) hc9 hv9 hf9 ?_
      refine lv_astore_n (lv' := [(3, .ref q9), (0, .ref (ad 0)), (1, .int p0), (2, .ref ao)]) hx hb dL_isWhole_19 rfl hl (by decide) rfl (fun ls hl => ?_)
      refine lv_iconst (v := 1) hx hb dL_isWhole_20 (by decide) ?_
      refine W.widen (k := 1) (n := 6) (Nat.le_of_ble_eq_true rfl) (Nat.le_of_ble_eq_true rfl) ?_
      exact W.iret (v := 1) hx hb hr (fun t ht hW => ⟨⟨1, (S, o), rfl, by rw [hw]; rfl, by show va_P D pCl _ t.heap; rw [ht]; exact hP⟩, hS.F ht⟩) hS.2.2 dL_isWhole_21
  · have hP := hP.kept (fun k q hk9 => hk _ (vx_lt hP hk9) (fun h => h))
    obtain ⟨hw, -⟩ := hw
    refine lv_if_eq (tgt := 14) hx hb dL_isWhole_7 (by decide) (fun cz => ?_) (fun cz => ?_)
    · refine lv_lconst (v := 0) hx hb dL_isWhole_14 rfl ?_
      refine va_last hx hb hK hP hD hS 8 1 rfl rfl in01 dL_isWhole_15 (fun H locs hP hD hS => ?_)
      refine lv_goto (tgt := 22) hx hb dL_isWhole_16 (by decide) ?_
      refine lv_iconst (v := 0) hx hb dL_isWhole_22 (by decide) ?_
      refine W.widen (k := 1) (n := 6) (Nat.le_of_ble_eq_true rfl) (Nat.le_of_ble_eq_true rfl) ?_
      exact W.iret (v := 0) hx hb hr (fun t ht hW => ⟨⟨0, (S, vp_updL o (0 : Int32).toNatClampNeg 0), rfl, by rw [hw]; simp only [wrZ, if_pos cz], by show va_P D pCl _ t.heap; rw [ht]; exact hP⟩, hS.F ht⟩) hS.2.2 dL_isWhole_23
    · refine lv_lconst (v := 1) hx hb dL_isWhole_10 rfl ?_
      refine lv_goto (tgt := 15) hx hb dL_isWhole_11 (by decide) ?_
      refine va_last hx hb hK hP hD hS 8 1 rfl rfl in01 dL_isWhole_15 (fun H locs hP hD hS => ?_)
      refine lv_goto (tgt := 22) hx hb dL_isWhole_16 (by decide) ?_
      refine lv_iconst (v := 0) hx hb dL_isWhole_22 (by decide) ?_
      refine W.widen (k := 1) (n := 6) (Nat.le_of_ble_eq_true rfl) (Nat.le_of_ble_eq_true rfl) ?_
      exact W.iret (v := 0) hx hb hr (fun t ht hW => ⟨⟨0, (S, vp_updL o (0 : Int32).toNatClampNeg 1), rfl, by rw [hw]; simp only [wrZ, if_neg cz], by show va_P D pCl _ t.heap; rw [ht]; exact hP⟩, hS.F ht⟩) hS.2.2 dL_isWhole_23

set_option maxHeartbeats 4000000 in
set_option maxRecDepth 100000 in
theorem met_L_whole (l : Launch) (hfl : l.stackTraces = false) (D : va_G) (cI cJ : ClassId) (ad : Nat → Nat) (ao : Nat) (A : Nat → Prop) (S : pS) (o : Nat → Int64) (p0 : Int32)  : Met l yL_whole wsL_whole ({ frames := 8, cells := 2, slots := 12, locals := 126 } : Room) (va_Pc [.ref (ad 0), .int p0, .ref ao] (fun U => va_P D pCl (xW cI cJ ad ao S o) U.heap ∧ va_K D pCl (pTy cI cJ) U ∧ va_D A (xW cI cJ ad ao S o) ∧ xE (fun _ => False) U U.heap ∧ xN U)) (va_Qi (fun (r : Int32) (u : pS × (Nat → Int64)) => wrL [1, 3] S o (f_X0_whole S p0) = (r, u)) (fun u t => va_P D pCl (xW cI cJ ad ao u.1 u.2) t.heap) A) 2 12 A := by
  refine Met_ofWH (cc := cL_whole) (maxL := 4) (ret := (some .int)) (by decide) rfl ?_
  intro p e s m args below meth c s₁ B hml hv
  obtain ⟨rfl, hP, hK, hD, hE, hNc⟩ := hv
  have hx := B.exec
  have hb := B.bytes
  have hr := B.returns
  have hts := atoms_spec (ws := wsL_whole) B.pre
  have hown : s.vm.findClass RL = some m.cls := findClass_of_methodNamed B.named
  have hlocks := B.notSynchronized
  have htb := vx_table (x := yL_whole) B (hts _ List.mem_cons_self)
  have hS0 : va_S (fun _ => False) s.heap s.heap [] := va_S.rf
  have hS : va_S A s.heap s.heap [] := va_S.rf
  have hl := lv_entry ([.ref (ad 0), .int p0, .ref ao]) (n := 4) (Nat.le_of_ble_eq_true rfl)
  rw [lg_entry_eq]
  generalize (lg_sl ([.ref (ad 0), .int p0, .ref ao]) ++ List.replicate (4 - (lg_sl ([.ref (ad 0), .int p0, .ref ao])).length) Slot.unset).toArray = ls at hl ⊢
  have hl : lv_has ls 4 [(0, .ref (ad 0)), (1, .int p0), (2, .ref ao)] := hl
  have hPc := hP.sub (ws' := pmW cI cJ ad S) [0, 1, 2, 3, 4, 5, 6, 7] rfl
  refine lv_aload_n hx hb dL_whole_0 rfl (lv_at hl 2 rfl) ?_
  refine lv_iconst (v := 0) hx hb dL_whole_1 (by decide) ?_
  refine lv_aload_n hx hb dL_whole_2 rfl (lv_at hl 0 rfl) ?_
  refine lv_iload_n hx hb dL_whole_3 rfl (lv_at hl 1 rfl) ?_
  refine vx_calll (vx_runV (As := [.int p0]) (rest := [.int 0, .ref ao]) ⟨hx, hb, hml, hown, hts⟩ (met_X0_whole l hfl D cI cJ ad S p0) (cwV 1 hts gL_whole_X0_whole rfl rfl rfl (by decide +kernel) ⟨Nat.le_of_ble_eq_true rfl, Nat.le_of_ble_eq_true rfl⟩) ⟨fun a U g mk q => ⟨q.1, b0R_calling q.2.1, xE_calling q.2.2⟩, va_recv hK hPc (ci := 0) (q0 := 0) rfl rfl, fun U hU hW => ⟨rfl, b0R_at hPc hK hU hW, xE_at hE hS0 hU hW⟩⟩ rfl rfl hl.1 rfl (lv_room (Nat.le_of_ble_eq_true rfl)) dL_whole_4 ⟨Nat.le_of_ble_eq_true rfl, Nat.le_of_ble_eq_true rfl⟩) hS (fun q _ h => h.elim) (fun q h => h.elim) (fun q _ h => h.elim) (fun E ce q9 k9 t H locs ht hvm hw hB hz hk hS hc9 hv9 hf9 => ?_) (fun r u t H locs ht hvm hw hB hz hk hS => ?_)
  · have hP := hP.kept (fun k q hk9 => hk _ (vx_lt hP hk9) (fun h => h))
    rcases err_whole hw with rfl | rfl
    · subst hB
      refine vx_catch (name := "java/lang/IndexOutOfBoundsException") hown [] ⟨0, 8, 11, 13⟩ [⟨0, 8, 14, 29⟩] (by rw [htb]; rfl) (fun z hz => nomatch hz) (by decide) (by decide) (hts (.classLink RL 13 "java/lang/IndexOutOfBoundsException") (by decide +kernel)) (va_Nw.use rfl (hE.2.2.2.1 (exN 1) (by decide +kernel))) hc9 hv9 hf9 ?_
      refine lv_astore_n (lv' := [(3, .ref q9), (0, .ref (ad 0)), (1, .int p0), (2, .ref ao)]) hx hb dL_whole_11 rfl hl (by decide) rfl (fun ls hl => ?_)
      refine lv_iconst (v := 1) hx hb dL_whole_12 (by decide) ?_
      refine W.widen (k := 2) (n := 12) (Nat.le_of_ble_eq_true rfl) (Nat.le_of_ble_eq_true rfl) ?_
      exact W.iret (v := 1) hx hb hr (fun t ht hW => ⟨⟨1, (S, o), rfl, by rw [hw]; rfl, by show va_P D pCl _ t.heap; rw [ht]; exact hP⟩, hS.F ht⟩) hS.2.2 dL_whole_13
    · subst hB
      have hpass : ∀ z ∈ ([⟨0, 8, 11, 13⟩] : List ExceptionTableEntry), covers z 4 = false ∨ (z.catchType ≠ 0 ∧ ∃ nm : String, (Cond.classLink RL z.catchType nm).before (#[.ref (ad 0), .int p0, .ref ao] : Array Value) s = true ∧ va_Nc (exN 3) nm s) := by
        intro z hz
        simp only [List.mem_cons, List.not_mem_nil, or_false] at hz
        rcases hz with rfl
        · exact Or.inr ⟨by decide, "java/lang/IndexOutOfBoundsException", hts (.classLink RL 13 "java/lang/IndexOutOfBoundsException") (by decide +kernel), hNc 3 1 (by decide) (by decide) (by decide) (by decide) (by decide)⟩
      refine vx_catch (name := "java/lang/IllegalStateException") hown [⟨0, 8, 11, 13⟩] ⟨0, 8, 14, 29⟩ [] (by rw [htb]; rfl) hpass (by decide) (by decide) (hts (.classLink RL 29 "java/lang/IllegalStateException") (by decide +kernel)) (va_Nw.use rfl (hE.2.2.2.1 (exN 3) (by decide +kernel))) hc9 hv9 hf9 ?_
      refine lv_astore_n (lv' := [(3, .ref q9), (0, .ref (ad 0)), (1, .int p0), (2, .ref ao)]) hx hb dL_whole_14 rfl hl (by decide) rfl (fun ls hl => ?_)
      refine lv_iconst (v := 2) hx hb dL_whole_15 (by decide) ?_
      refine W.widen (k := 2) (n := 12) (Nat.le_of_ble_eq_true rfl) (Nat.le_of_ble_eq_true rfl) ?_
      exact W.iret (v := 2) hx hb hr (fun t ht hW => ⟨⟨2, (S, o), rfl, by rw [hw]; rfl, by show va_P D pCl _ t.heap; rw [ht]; exact hP⟩, hS.F ht⟩) hS.2.2 dL_whole_16
  · have hP := hP.kept (fun k q hk9 => hk _ (vx_lt hP hk9) (fun h => h))
    refine va_last hx hb hK hP hD hS 8 1 rfl rfl in01 dL_whole_7 (fun H locs hP hD hS => ?_)
    refine lv_goto (tgt := 17) hx hb dL_whole_8 (by decide) ?_
    refine lv_iconst (v := 0) hx hb dL_whole_17 (by decide) ?_
    refine W.widen (k := 2) (n := 12) (Nat.le_of_ble_eq_true rfl) (Nat.le_of_ble_eq_true rfl) ?_
    exact W.iret (v := 0) hx hb hr (fun t ht hW => ⟨⟨0, (S, vp_updL o (0 : Int32).toNatClampNeg r), rfl, by rw [hw]; rfl, by show va_P D pCl _ t.heap; rw [ht]; exact hP⟩, hS.F ht⟩) hS.2.2 dL_whole_18

set_option maxHeartbeats 4000000 in
set_option maxRecDepth 100000 in
theorem met_L_compare (l : Launch) (hfl : l.stackTraces = false) (D : va_G) (cI cJ : ClassId) (ad : Nat → Nat) (ao : Nat) (A : Nat → Prop) (S : pS) (o : Nat → Int64) (p0 : Int32) (p1 : Int32)  : Met l yL_compare wsL_compare ({ frames := 8, cells := 2, slots := 12, locals := 130 } : Room) (va_Pc [.ref (ad 0), .int p0, .int p1, .ref ao] (fun U => va_P D pCl (xW cI cJ ad ao S o) U.heap ∧ va_K D pCl (pTy cI cJ) U ∧ va_D A (xW cI cJ ad ao S o) ∧ xE (fun _ => False) U U.heap ∧ xN U)) (va_Qi (fun (r : Int32) (u : pS × (Nat → Int64)) => wrI [1] S o (f_X0_compare S p0 p1) = (r, u)) (fun u t => va_P D pCl (xW cI cJ ad ao u.1 u.2) t.heap) A) 2 12 A := by
  refine Met_ofWH (cc := cL_compare) (maxL := 5) (ret := (some .int)) (by decide) rfl ?_
  intro p e s m args below meth c s₁ B hml hv
  obtain ⟨rfl, hP, hK, hD, hE, hNc⟩ := hv
  have hx := B.exec
  have hb := B.bytes
  have hr := B.returns
  have hts := atoms_spec (ws := wsL_compare) B.pre
  have hown : s.vm.findClass RL = some m.cls := findClass_of_methodNamed B.named
  have hlocks := B.notSynchronized
  have htb := vx_table (x := yL_compare) B (hts _ List.mem_cons_self)
  have hS0 : va_S (fun _ => False) s.heap s.heap [] := va_S.rf
  have hS : va_S A s.heap s.heap [] := va_S.rf
  have hl := lv_entry ([.ref (ad 0), .int p0, .int p1, .ref ao]) (n := 5) (Nat.le_of_ble_eq_true rfl)
  rw [lg_entry_eq]
  generalize (lg_sl ([.ref (ad 0), .int p0, .int p1, .ref ao]) ++ List.replicate (5 - (lg_sl ([.ref (ad 0), .int p0, .int p1, .ref ao])).length) Slot.unset).toArray = ls at hl ⊢
  have hl : lv_has ls 5 [(0, .ref (ad 0)), (1, .int p0), (2, .int p1), (3, .ref ao)] := hl
  have hPc := hP.sub (ws' := pmW cI cJ ad S) [0, 1, 2, 3, 4, 5, 6, 7] rfl
  refine lv_aload_n hx hb dL_compare_0 rfl (lv_at hl 3 rfl) ?_
  refine lv_iconst (v := 0) hx hb dL_compare_1 (by decide) ?_
  refine lv_aload_n hx hb dL_compare_2 rfl (lv_at hl 0 rfl) ?_
  refine lv_iload_n hx hb dL_compare_3 rfl (lv_at hl 1 rfl) ?_
  refine lv_iload_n hx hb dL_compare_4 rfl (lv_at hl 2 rfl) ?_
  refine vx_calli (vx_runV (As := [.int p0, .int p1]) (rest := [.int 0, .ref ao]) ⟨hx, hb, hml, hown, hts⟩ (met_X0_compare l hfl D cI cJ ad S p0 p1) (cwV 2 hts gL_compare_X0_compare rfl rfl rfl (by decide +kernel) ⟨Nat.le_of_ble_eq_true rfl, Nat.le_of_ble_eq_true rfl⟩) ⟨fun a U g mk q => ⟨q.1, b0R_calling q.2.1, xE_calling q.2.2⟩, va_recv hK hPc (ci := 0) (q0 := 0) rfl rfl, fun U hU hW => ⟨rfl, b0R_at hPc hK hU hW, xE_at hE hS0 hU hW⟩⟩ rfl rfl hl.1 rfl (lv_room (Nat.le_of_ble_eq_true rfl)) dL_compare_5 ⟨Nat.le_of_ble_eq_true rfl, Nat.le_of_ble_eq_true rfl⟩) hS (fun q _ h => h.elim) (fun q h => h.elim) (fun q _ h => h.elim) (fun E ce q9 k9 t H locs ht hvm hw hB hz hk hS hc9 hv9 hf9 => ?_) (fun r u t H locs ht hvm hw hB hz hk hS => ?_)
  · have hP := hP.kept (fun k q hk9 => hk _ (vx_lt hP hk9) (fun h => h))
    rcases err_compare hw with rfl
    · subst hB
      refine vx_catch (name := "java/lang/IndexOutOfBoundsException") hown [] ⟨0, 10, 13, 13⟩ [] (by rw [htb]; rfl) (fun z hz => nomatch hz) (by decide) (by decide) (hts (.classLink RL 13 "java/lang/IndexOutOfBoundsException") (by decide +kernel)) (va_Nw.use rfl (hE.2.2.2.1 (exN 1) (by decide +kernel))) hc9 hv9 hf9 ?_
      refine lv_astore (lv' := [(4, .ref q9), (0, .ref (ad 0)), (1, .int p0), (2, .int p1), (3, .ref ao)]) hx hb dL_compare_13 hl (by decide) rfl (fun ls hl => ?_)
      refine lv_iconst (v := 1) hx hb dL_compare_15 (by decide) ?_
      refine W.widen (k := 2) (n := 12) (Nat.le_of_ble_eq_true rfl) (Nat.le_of_ble_eq_true rfl) ?_
      exact W.iret (v := 1) hx hb hr (fun t ht hW => ⟨⟨1, (S, o), rfl, by rw [hw]; rfl, by show va_P D pCl _ t.heap; rw [ht]; exact hP⟩, hS.F ht⟩) hS.2.2 dL_compare_16
  · have hP := hP.kept (fun k q hk9 => hk _ (vx_lt hP hk9) (fun h => h))
    refine lv_i2l hx hb dL_compare_8 rfl ?_
    refine va_last hx hb hK hP hD hS 8 1 rfl rfl in01 dL_compare_9 (fun H locs hP hD hS => ?_)
    refine lv_goto (tgt := 17) hx hb dL_compare_10 (by decide) ?_
    refine lv_iconst (v := 0) hx hb dL_compare_17 (by decide) ?_
    refine W.widen (k := 2) (n := 12) (Nat.le_of_ble_eq_true rfl) (Nat.le_of_ble_eq_true rfl) ?_
    exact W.iret (v := 0) hx hb hr (fun t ht hW => ⟨⟨0, (S, vp_updL o (0 : Int32).toNatClampNeg ((r : Int32).toInt64)), rfl, by rw [hw]; rfl, by show va_P D pCl _ t.heap; rw [ht]; exact hP⟩, hS.F ht⟩) hS.2.2 dL_compare_18

set_option maxHeartbeats 4000000 in
set_option maxRecDepth 100000 in
theorem met_L_rank (l : Launch) (hfl : l.stackTraces = false) (D : va_G) (cI cJ : ClassId) (ad : Nat → Nat) (ao : Nat) (A : Nat → Prop) (S : pS) (o : Nat → Int64) (p0 : Int32)  : Met l yL_rank wsL_rank ({ frames := 8, cells := 1, slots := 6, locals := 129 } : Room) (va_Pc [.ref (ad 0), .int p0, .ref ao] (fun U => va_P D pCl (xW cI cJ ad ao S o) U.heap ∧ va_K D pCl (pTy cI cJ) U ∧ va_D A (xW cI cJ ad ao S o) ∧ xE (fun _ => False) U U.heap ∧ xN U)) (va_Qi (fun (r : Int32) (u : pS × (Nat → Int64)) => wrI [1] S o (f_X0_rank S p0) = (r, u)) (fun u t => va_P D pCl (xW cI cJ ad ao u.1 u.2) t.heap) A) 1 6 A := by
  refine Met_ofWH (cc := cL_rank) (maxL := 4) (ret := (some .int)) (by decide) rfl ?_
  intro p e s m args below meth c s₁ B hml hv
  obtain ⟨rfl, hP, hK, hD, hE, hNc⟩ := hv
  have hx := B.exec
  have hb := B.bytes
  have hr := B.returns
  have hts := atoms_spec (ws := wsL_rank) B.pre
  have hown : s.vm.findClass RL = some m.cls := findClass_of_methodNamed B.named
  have hlocks := B.notSynchronized
  have htb := vx_table (x := yL_rank) B (hts _ List.mem_cons_self)
  have hS0 : va_S (fun _ => False) s.heap s.heap [] := va_S.rf
  have hS : va_S A s.heap s.heap [] := va_S.rf
  have hl := lv_entry ([.ref (ad 0), .int p0, .ref ao]) (n := 4) (Nat.le_of_ble_eq_true rfl)
  rw [lg_entry_eq]
  generalize (lg_sl ([.ref (ad 0), .int p0, .ref ao]) ++ List.replicate (4 - (lg_sl ([.ref (ad 0), .int p0, .ref ao])).length) Slot.unset).toArray = ls at hl ⊢
  have hl : lv_has ls 4 [(0, .ref (ad 0)), (1, .int p0), (2, .ref ao)] := hl
  have hPc := hP.sub (ws' := pmW cI cJ ad S) [0, 1, 2, 3, 4, 5, 6, 7] rfl
  refine lv_aload_n hx hb dL_rank_0 rfl (lv_at hl 2 rfl) ?_
  refine lv_iconst (v := 0) hx hb dL_rank_1 (by decide) ?_
  refine lv_aload_n hx hb dL_rank_2 rfl (lv_at hl 0 rfl) ?_
  refine lv_iload_n hx hb dL_rank_3 rfl (lv_at hl 1 rfl) ?_
  refine vx_calli (vx_runV (As := [.int p0]) (rest := [.int 0, .ref ao]) ⟨hx, hb, hml, hown, hts⟩ (met_X0_rank l hfl D cI cJ ad S p0) (cwV 1 hts gL_rank_X0_rank rfl rfl rfl (by decide +kernel) ⟨Nat.le_of_ble_eq_true rfl, Nat.le_of_ble_eq_true rfl⟩) ⟨fun a U g mk q => ⟨q.1, b0R_calling q.2.1, xE_calling q.2.2⟩, va_recv hK hPc (ci := 0) (q0 := 0) rfl rfl, fun U hU hW => ⟨rfl, b0R_at hPc hK hU hW, xE_at hE hS0 hU hW⟩⟩ rfl rfl hl.1 rfl (lv_room (Nat.le_of_ble_eq_true rfl)) dL_rank_4 ⟨Nat.le_of_ble_eq_true rfl, Nat.le_of_ble_eq_true rfl⟩) hS (fun q _ h => h.elim) (fun q h => h.elim) (fun q _ h => h.elim) (fun E ce q9 k9 t H locs ht hvm hw hB hz hk hS hc9 hv9 hf9 => ?_) (fun r u t H locs ht hvm hw hB hz hk hS => ?_)
  · have hP := hP.kept (fun k q hk9 => hk _ (vx_lt hP hk9) (fun h => h))
    rcases err_rank hw with rfl
    · subst hB
      refine vx_catch (name := "java/lang/IndexOutOfBoundsException") hown [] ⟨0, 9, 12, 13⟩ [] (by rw [htb]; rfl) (fun z hz => nomatch hz) (by decide) (by decide) (hts (.classLink RL 13 "java/lang/IndexOutOfBoundsException") (by decide +kernel)) (va_Nw.use rfl (hE.2.2.2.1 (exN 1) (by decide +kernel))) hc9 hv9 hf9 ?_
      refine lv_astore_n (lv' := [(3, .ref q9), (0, .ref (ad 0)), (1, .int p0), (2, .ref ao)]) hx hb dL_rank_12 rfl hl (by decide) rfl (fun ls hl => ?_)
      refine lv_iconst (v := 1) hx hb dL_rank_13 (by decide) ?_
      refine W.widen (k := 1) (n := 6) (Nat.le_of_ble_eq_true rfl) (Nat.le_of_ble_eq_true rfl) ?_
      exact W.iret (v := 1) hx hb hr (fun t ht hW => ⟨⟨1, (S, o), rfl, by rw [hw]; rfl, by show va_P D pCl _ t.heap; rw [ht]; exact hP⟩, hS.F ht⟩) hS.2.2 dL_rank_14
  · have hP := hP.kept (fun k q hk9 => hk _ (vx_lt hP hk9) (fun h => h))
    refine lv_i2l hx hb dL_rank_7 rfl ?_
    refine va_last hx hb hK hP hD hS 8 1 rfl rfl in01 dL_rank_8 (fun H locs hP hD hS => ?_)
    refine lv_goto (tgt := 15) hx hb dL_rank_9 (by decide) ?_
    refine lv_iconst (v := 0) hx hb dL_rank_15 (by decide) ?_
    refine W.widen (k := 1) (n := 6) (Nat.le_of_ble_eq_true rfl) (Nat.le_of_ble_eq_true rfl) ?_
    exact W.iret (v := 0) hx hb hr (fun t ht hW => ⟨⟨0, (S, vp_updL o (0 : Int32).toNatClampNeg ((r : Int32).toInt64)), rfl, by rw [hw]; rfl, by show va_P D pCl _ t.heap; rw [ht]; exact hP⟩, hS.F ht⟩) hS.2.2 dL_rank_16

set_option maxHeartbeats 4000000 in
set_option maxRecDepth 100000 in
theorem met_L_at (l : Launch) (hfl : l.stackTraces = false) (D : va_G) (cI cJ : ClassId) (ad : Nat → Nat) (ao : Nat) (A : Nat → Prop) (S : pS) (o : Nat → Int64) (p0 : Int32)  : Met l yL_at wsL_at ({ frames := 8, cells := 1, slots := 6, locals := 143 } : Room) (va_Pc [.ref (ad 0), .int p0, .ref ao] (fun U => va_P D pCl (xW cI cJ ad ao S o) U.heap ∧ va_K D pCl (pTy cI cJ) U ∧ va_D A (xW cI cJ ad ao S o) ∧ xE (fun _ => False) U U.heap ∧ xN U)) (va_Qi (fun (r : Int32) (u : pS × (Nat → Int64)) => wrI [1] S o (f_X0_at S p0) = (r, u)) (fun u t => va_P D pCl (xW cI cJ ad ao u.1 u.2) t.heap) A) 1 6 A := by
  refine Met_ofWH (cc := cL_at) (maxL := 4) (ret := (some .int)) (by decide) rfl ?_
  intro p e s m args below meth c s₁ B hml hv
  obtain ⟨rfl, hP, hK, hD, hE, hNc⟩ := hv
  have hx := B.exec
  have hb := B.bytes
  have hr := B.returns
  have hts := atoms_spec (ws := wsL_at) B.pre
  have hown : s.vm.findClass RL = some m.cls := findClass_of_methodNamed B.named
  have hlocks := B.notSynchronized
  have htb := vx_table (x := yL_at) B (hts _ List.mem_cons_self)
  have hS0 : va_S (fun _ => False) s.heap s.heap [] := va_S.rf
  have hS : va_S A s.heap s.heap [] := va_S.rf
  have hl := lv_entry ([.ref (ad 0), .int p0, .ref ao]) (n := 4) (Nat.le_of_ble_eq_true rfl)
  rw [lg_entry_eq]
  generalize (lg_sl ([.ref (ad 0), .int p0, .ref ao]) ++ List.replicate (4 - (lg_sl ([.ref (ad 0), .int p0, .ref ao])).length) Slot.unset).toArray = ls at hl ⊢
  have hl : lv_has ls 4 [(0, .ref (ad 0)), (1, .int p0), (2, .ref ao)] := hl
  have hPc := hP.sub (ws' := pmW cI cJ ad S) [0, 1, 2, 3, 4, 5, 6, 7] rfl
  refine lv_aload_n hx hb dL_at_0 rfl (lv_at hl 2 rfl) ?_
  refine lv_iconst (v := 0) hx hb dL_at_1 (by decide) ?_
  refine lv_aload_n hx hb dL_at_2 rfl (lv_at hl 0 rfl) ?_
  refine lv_iload_n hx hb dL_at_3 rfl (lv_at hl 1 rfl) ?_
  refine vx_calli (vx_runV (As := [.int p0]) (rest := [.int 0, .ref ao]) ⟨hx, hb, hml, hown, hts⟩ (met_X0_at l hfl D cI cJ ad S p0) (cwV 1 hts gL_at_X0_at rfl rfl rfl (by decide +kernel) ⟨Nat.le_of_ble_eq_true rfl, Nat.le_of_ble_eq_true rfl⟩) ⟨fun a U g mk q => ⟨q.1, b0R_calling q.2.1, xE_calling q.2.2⟩, va_recv hK hPc (ci := 0) (q0 := 0) rfl rfl, fun U hU hW => ⟨rfl, b0R_at hPc hK hU hW, xE_at hE hS0 hU hW⟩⟩ rfl rfl hl.1 rfl (lv_room (Nat.le_of_ble_eq_true rfl)) dL_at_4 ⟨Nat.le_of_ble_eq_true rfl, Nat.le_of_ble_eq_true rfl⟩) hS (fun q _ h => h.elim) (fun q h => h.elim) (fun q _ h => h.elim) (fun E ce q9 k9 t H locs ht hvm hw hB hz hk hS hc9 hv9 hf9 => ?_) (fun r u t H locs ht hvm hw hB hz hk hS => ?_)
  · have hP := hP.kept (fun k q hk9 => hk _ (vx_lt hP hk9) (fun h => h))
    rcases err_at hw with rfl
    · subst hB
      refine vx_catch (name := "java/lang/IndexOutOfBoundsException") hown [] ⟨0, 9, 12, 13⟩ [] (by rw [htb]; rfl) (fun z hz => nomatch hz) (by decide) (by decide) (hts (.classLink RL 13 "java/lang/IndexOutOfBoundsException") (by decide +kernel)) (va_Nw.use rfl (hE.2.2.2.1 (exN 1) (by decide +kernel))) hc9 hv9 hf9 ?_
      refine lv_astore_n (lv' := [(3, .ref q9), (0, .ref (ad 0)), (1, .int p0), (2, .ref ao)]) hx hb dL_at_12 rfl hl (by decide) rfl (fun ls hl => ?_)
      refine lv_iconst (v := 1) hx hb dL_at_13 (by decide) ?_
      refine W.widen (k := 1) (n := 6) (Nat.le_of_ble_eq_true rfl) (Nat.le_of_ble_eq_true rfl) ?_
      exact W.iret (v := 1) hx hb hr (fun t ht hW => ⟨⟨1, (S, o), rfl, by rw [hw]; rfl, by show va_P D pCl _ t.heap; rw [ht]; exact hP⟩, hS.F ht⟩) hS.2.2 dL_at_14
  · have hP := hP.kept (fun k q hk9 => hk _ (vx_lt hP hk9) (fun h => h))
    refine lv_i2l hx hb dL_at_7 rfl ?_
    refine va_last hx hb hK hP hD hS 8 1 rfl rfl in01 dL_at_8 (fun H locs hP hD hS => ?_)
    refine lv_goto (tgt := 15) hx hb dL_at_9 (by decide) ?_
    refine lv_iconst (v := 0) hx hb dL_at_15 (by decide) ?_
    refine W.widen (k := 1) (n := 6) (Nat.le_of_ble_eq_true rfl) (Nat.le_of_ble_eq_true rfl) ?_
    exact W.iret (v := 0) hx hb hr (fun t ht hW => ⟨⟨0, (S, vp_updL o (0 : Int32).toNatClampNeg ((r : Int32).toInt64)), rfl, by rw [hw]; rfl, by show va_P D pCl _ t.heap; rw [ht]; exact hP⟩, hS.F ht⟩) hS.2.2 dL_at_16

set_option maxHeartbeats 4000000 in
set_option maxRecDepth 100000 in
theorem met_L_log (l : Launch) (hfl : l.stackTraces = false) (D : va_G) (cI cJ : ClassId) (ad : Nat → Nat) (ao : Nat) (A : Nat → Prop) (S : pS) (o : Nat → Int64) (p0 : Int32) (p1 : Int32)  : Met l yL_log wsL_log ({ frames := 9, cells := 4, slots := 24, locals := 148 } : Room) (va_Pc [.ref (ad 0), .int p0, .int p1, .ref ao] (fun U => va_P D pCl (xW cI cJ ad ao S o) U.heap ∧ va_K D pCl (pTy cI cJ) U ∧ va_D A (xW cI cJ ad ao S o) ∧ xE (fun _ => False) U U.heap ∧ xN U)) (va_Qi (fun (r : Int32) (u : pS × (Nat → Int64)) => wrI [1, 2, 3, 4] S o (f_X0_log S p0 p1) = (r, u)) (fun u t => va_P D pCl (xW cI cJ ad ao u.1 u.2) t.heap) A) 4 24 A := by
  refine Met_ofWH (cc := cL_log) (maxL := 5) (ret := (some .int)) (by decide) rfl ?_
  intro p e s m args below meth c s₁ B hml hv
  obtain ⟨rfl, hP, hK, hD, hE, hNc⟩ := hv
  have hx := B.exec
  have hb := B.bytes
  have hr := B.returns
  have hts := atoms_spec (ws := wsL_log) B.pre
  have hown : s.vm.findClass RL = some m.cls := findClass_of_methodNamed B.named
  have hlocks := B.notSynchronized
  have htb := vx_table (x := yL_log) B (hts _ List.mem_cons_self)
  have hS0 : va_S (fun _ => False) s.heap s.heap [] := va_S.rf
  have hS : va_S A s.heap s.heap [] := va_S.rf
  have hl := lv_entry ([.ref (ad 0), .int p0, .int p1, .ref ao]) (n := 5) (Nat.le_of_ble_eq_true rfl)
  rw [lg_entry_eq]
  generalize (lg_sl ([.ref (ad 0), .int p0, .int p1, .ref ao]) ++ List.replicate (5 - (lg_sl ([.ref (ad 0), .int p0, .int p1, .ref ao])).length) Slot.unset).toArray = ls at hl ⊢
  have hl : lv_has ls 5 [(0, .ref (ad 0)), (1, .int p0), (2, .int p1), (3, .ref ao)] := hl
  have hPc := hP.sub (ws' := pmW cI cJ ad S) [0, 1, 2, 3, 4, 5, 6, 7] rfl
  refine lv_aload_n hx hb dL_log_0 rfl (lv_at hl 3 rfl) ?_
  refine lv_iconst (v := 0) hx hb dL_log_1 (by decide) ?_
  refine lv_aload_n hx hb dL_log_2 rfl (lv_at hl 0 rfl) ?_
  refine lv_iload_n hx hb dL_log_3 rfl (lv_at hl 1 rfl) ?_
  refine lv_iload_n hx hb dL_log_4 rfl (lv_at hl 2 rfl) ?_
  refine vx_calli (vx_runV (As := [.int p0, .int p1]) (rest := [.int 0, .ref ao]) ⟨hx, hb, hml, hown, hts⟩ (met_X0_log l hfl D cI cJ ad S p0 p1) (cwV 2 hts gL_log_X0_log rfl rfl rfl (by decide +kernel) ⟨Nat.le_of_ble_eq_true rfl, Nat.le_of_ble_eq_true rfl⟩) ⟨fun a U g mk q => ⟨q.1, b0R_calling q.2.1, xE_calling q.2.2⟩, va_recv hK hPc (ci := 0) (q0 := 0) rfl rfl, fun U hU hW => ⟨rfl, b0R_at hPc hK hU hW, xE_at hE hS0 hU hW⟩⟩ rfl rfl hl.1 rfl (lv_room (Nat.le_of_ble_eq_true rfl)) dL_log_5 ⟨Nat.le_of_ble_eq_true rfl, Nat.le_of_ble_eq_true rfl⟩) hS (fun q _ h => h.elim) (fun q h => h.elim) (fun q _ h => h.elim) (fun E ce q9 k9 t H locs ht hvm hw hB hz hk hS hc9 hv9 hf9 => ?_) (fun r u t H locs ht hvm hw hB hz hk hS => ?_)
  · have hP := hP.kept (fun k q hk9 => hk _ (vx_lt hP hk9) (fun h => h))
    rcases err_log hw with rfl | rfl | rfl | rfl
    · subst hB
      refine vx_catch (name := "java/lang/IndexOutOfBoundsException") hown [] ⟨0, 10, 13, 13⟩ [⟨0, 10, 17, 15⟩, ⟨0, 10, 21, 29⟩, ⟨0, 10, 25, 31⟩] (by rw [htb]; rfl) (fun z hz => nomatch hz) (by decide) (by decide) (hts (.classLink RL 13 "java/lang/IndexOutOfBoundsException") (by decide +kernel)) (va_Nw.use rfl (hE.2.2.2.1 (exN 1) (by decide +kernel))) hc9 hv9 hf9 ?_
      refine lv_astore (lv' := [(4, .ref q9), (0, .ref (ad 0)), (1, .int p0), (2, .int p1), (3, .ref ao)]) hx hb dL_log_13 hl (by decide) rfl (fun ls hl => ?_)
      refine lv_iconst (v := 1) hx hb dL_log_15 (by decide) ?_
      refine W.widen (k := 4) (n := 24) (Nat.le_of_ble_eq_true rfl) (Nat.le_of_ble_eq_true rfl) ?_
      exact W.iret (v := 1) hx hb hr (fun t ht hW => ⟨⟨1, (S, o), rfl, by rw [hw]; rfl, by show va_P D pCl _ t.heap; rw [ht]; exact hP⟩, hS.F ht⟩) hS.2.2 dL_log_16
    · subst hB
      have hpass : ∀ z ∈ ([⟨0, 10, 13, 13⟩] : List ExceptionTableEntry), covers z 5 = false ∨ (z.catchType ≠ 0 ∧ ∃ nm : String, (Cond.classLink RL z.catchType nm).before (#[.ref (ad 0), .int p0, .int p1, .ref ao] : Array Value) s = true ∧ va_Nc (exN 2) nm s) := by
        intro z hz
        simp only [List.mem_cons, List.not_mem_nil, or_false] at hz
        rcases hz with rfl
        · exact Or.inr ⟨by decide, "java/lang/IndexOutOfBoundsException", hts (.classLink RL 13 "java/lang/IndexOutOfBoundsException") (by decide +kernel), hNc 2 1 (by decide) (by decide) (by decide) (by decide) (by decide)⟩
      refine vx_catch (name := "java/lang/IllegalArgumentException") hown [⟨0, 10, 13, 13⟩] ⟨0, 10, 17, 15⟩ [⟨0, 10, 21, 29⟩, ⟨0, 10, 25, 31⟩] (by rw [htb]; rfl) hpass (by decide) (by decide) (hts (.classLink RL 15 "java/lang/IllegalArgumentException") (by decide +kernel)) (va_Nw.use rfl (hE.2.2.2.1 (exN 2) (by decide +kernel))) hc9 hv9 hf9 ?_
      refine lv_astore (lv' := [(4, .ref q9), (0, .ref (ad 0)), (1, .int p0), (2, .int p1), (3, .ref ao)]) hx hb dL_log_17 hl (by decide) rfl (fun ls hl => ?_)
      refine lv_iconst (v := 2) hx hb dL_log_19 (by decide) ?_
      refine W.widen (k := 4) (n := 24) (Nat.le_of_ble_eq_true rfl) (Nat.le_of_ble_eq_true rfl) ?_
      exact W.iret (v := 2) hx hb hr (fun t ht hW => ⟨⟨2, (S, o), rfl, by rw [hw]; rfl, by show va_P D pCl _ t.heap; rw [ht]; exact hP⟩, hS.F ht⟩) hS.2.2 dL_log_20
    · subst hB
      have hpass : ∀ z ∈ ([⟨0, 10, 13, 13⟩, ⟨0, 10, 17, 15⟩] : List ExceptionTableEntry), covers z 5 = false ∨ (z.catchType ≠ 0 ∧ ∃ nm : String, (Cond.classLink RL z.catchType nm).before (#[.ref (ad 0), .int p0, .int p1, .ref ao] : Array Value) s = true ∧ va_Nc (exN 3) nm s) := by
        intro z hz
        simp only [List.mem_cons, List.not_mem_nil, or_false] at hz
        rcases hz with rfl | rfl
        · exact Or.inr ⟨by decide, "java/lang/IndexOutOfBoundsException", hts (.classLink RL 13 "java/lang/IndexOutOfBoundsException") (by decide +kernel), hNc 3 1 (by decide) (by decide) (by decide) (by decide) (by decide)⟩
        · exact Or.inr ⟨by decide, "java/lang/IllegalArgumentException", hts (.classLink RL 15 "java/lang/IllegalArgumentException") (by decide +kernel), hNc 3 2 (by decide) (by decide) (by decide) (by decide) (by decide)⟩
      refine vx_catch (name := "java/lang/IllegalStateException") hown [⟨0, 10, 13, 13⟩, ⟨0, 10, 17, 15⟩] ⟨0, 10, 21, 29⟩ [⟨0, 10, 25, 31⟩] (by rw [htb]; rfl) hpass (by decide) (by decide) (hts (.classLink RL 29 "java/lang/IllegalStateException") (by decide +kernel)) (va_Nw.use rfl (hE.2.2.2.1 (exN 3) (by decide +kernel))) hc9 hv9 hf9 ?_
      refine lv_astore (lv' := [(4, .ref q9), (0, .ref (ad 0)), (1, .int p0), (2, .int p1), (3, .ref ao)]) hx hb dL_log_21 hl (by decide) rfl (fun ls hl => ?_)
      refine lv_iconst (v := 3) hx hb dL_log_23 (by decide) ?_
      refine W.widen (k := 4) (n := 24) (Nat.le_of_ble_eq_true rfl) (Nat.le_of_ble_eq_true rfl) ?_
      exact W.iret (v := 3) hx hb hr (fun t ht hW => ⟨⟨3, (S, o), rfl, by rw [hw]; rfl, by show va_P D pCl _ t.heap; rw [ht]; exact hP⟩, hS.F ht⟩) hS.2.2 dL_log_24
    · subst hB
      have hpass : ∀ z ∈ ([⟨0, 10, 13, 13⟩, ⟨0, 10, 17, 15⟩, ⟨0, 10, 21, 29⟩] : List ExceptionTableEntry), covers z 5 = false ∨ (z.catchType ≠ 0 ∧ ∃ nm : String, (Cond.classLink RL z.catchType nm).before (#[.ref (ad 0), .int p0, .int p1, .ref ao] : Array Value) s = true ∧ va_Nc (exN 4) nm s) := by
        intro z hz
        simp only [List.mem_cons, List.not_mem_nil, or_false] at hz
        rcases hz with rfl | rfl | rfl
        · exact Or.inr ⟨by decide, "java/lang/IndexOutOfBoundsException", hts (.classLink RL 13 "java/lang/IndexOutOfBoundsException") (by decide +kernel), hNc 4 1 (by decide) (by decide) (by decide) (by decide) (by decide)⟩
        · exact Or.inr ⟨by decide, "java/lang/IllegalArgumentException", hts (.classLink RL 15 "java/lang/IllegalArgumentException") (by decide +kernel), hNc 4 2 (by decide) (by decide) (by decide) (by decide) (by decide)⟩
        · exact Or.inr ⟨by decide, "java/lang/IllegalStateException", hts (.classLink RL 29 "java/lang/IllegalStateException") (by decide +kernel), hNc 4 3 (by decide) (by decide) (by decide) (by decide) (by decide)⟩
      refine vx_catch (name := "java/lang/ArithmeticException") hown [⟨0, 10, 13, 13⟩, ⟨0, 10, 17, 15⟩, ⟨0, 10, 21, 29⟩] ⟨0, 10, 25, 31⟩ [] (by rw [htb]; rfl) hpass (by decide) (by decide) (hts (.classLink RL 31 "java/lang/ArithmeticException") (by decide +kernel)) (va_Nw.use rfl (hE.2.2.2.1 (exN 4) (by decide +kernel))) hc9 hv9 hf9 ?_
      refine lv_astore (lv' := [(4, .ref q9), (0, .ref (ad 0)), (1, .int p0), (2, .int p1), (3, .ref ao)]) hx hb dL_log_25 hl (by decide) rfl (fun ls hl => ?_)
      refine lv_iconst (v := 4) hx hb dL_log_27 (by decide) ?_
      refine W.widen (k := 4) (n := 24) (Nat.le_of_ble_eq_true rfl) (Nat.le_of_ble_eq_true rfl) ?_
      exact W.iret (v := 4) hx hb hr (fun t ht hW => ⟨⟨4, (S, o), rfl, by rw [hw]; rfl, by show va_P D pCl _ t.heap; rw [ht]; exact hP⟩, hS.F ht⟩) hS.2.2 dL_log_28
  · have hP := hP.kept (fun k q hk9 => hk _ (vx_lt hP hk9) (fun h => h))
    refine lv_i2l hx hb dL_log_8 rfl ?_
    refine va_last hx hb hK hP hD hS 8 1 rfl rfl in01 dL_log_9 (fun H locs hP hD hS => ?_)
    refine lv_goto (tgt := 29) hx hb dL_log_10 (by decide) ?_
    refine lv_iconst (v := 0) hx hb dL_log_29 (by decide) ?_
    refine W.widen (k := 4) (n := 24) (Nat.le_of_ble_eq_true rfl) (Nat.le_of_ble_eq_true rfl) ?_
    exact W.iret (v := 0) hx hb hr (fun t ht hW => ⟨⟨0, (S, vp_updL o (0 : Int32).toNatClampNeg ((r : Int32).toInt64)), rfl, by rw [hw]; rfl, by show va_P D pCl _ t.heap; rw [ht]; exact hP⟩, hS.F ht⟩) hS.2.2 dL_log_30

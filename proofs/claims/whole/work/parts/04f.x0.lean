def g_X0_become_87 (S : pS) (p0 : Int32) (p1 : Int32) (p2 : Int64) (p3 : Int32) (q87_8 : Int32) : Int32 × pS := (p3, ((upd (sgS S) p0.toNatClampNeg p1), (vp_updL (odS S) p0.toNatClampNeg p2), (upd (shS S) p0.toNatClampNeg p3), (upd (ksS S) (nxS S).toNatClampNeg p0), (upd (kgS S) (nxS S).toNatClampNeg ((sgS S) p0.toNatClampNeg)), (vp_updL (koS S) (nxS S).toNatClampNeg ((odS S) p0.toNatClampNeg)), (upd (khS S) (nxS S).toNatClampNeg ((shS S) p0.toNatClampNeg)), (((nxS S) + 1) - ((nxS S) + 1) / 8 * 8), q87_8))
def f_X0_become (S : pS) (p0 : Int32) (p1 : Int32) (p2 : Int64) (p3 : Int32) : Int32 × pS := (if (8 : Int32) ≤ (cnS S) then (g_X0_become_87 S p0 p1 p2 p3 (cnS S)) else (g_X0_become_87 S p0 p1 p2 p3 ((cnS S) + 1)))
set_option maxHeartbeats 4000000 in
set_option maxRecDepth 100000 in
theorem met_X0_become (l : Launch) (D : va_G) (cI cJ : ClassId) (ad : Nat → Nat) (A : Nat → Prop) (S : pS) (p0 : Int32) (p1 : Int32) (p2 : Int64) (p3 : Int32) (h0 : vp_in p0 8) (hn : vp_in (nxS S) 8) : Met l yX0_become wsX0_become ({ frames := 0, cells := 0, slots := 0, locals := 0 } : Room) (va_Pc [.ref (ad 0), .int p0, .int p1, .long p2, .int p3] (fun U => b0R D cI cJ ad S U ∧ va_D A (pmW cI cJ ad S))) (va_Qi (fun (r : Int32) (u : pS) => f_X0_become S p0 p1 p2 p3 = (r, u)) (fun (u : pS) t => va_P D pCl (pmW cI cJ ad u) t.heap ∧ va_D A (pmW cI cJ ad u)) A) 0 0 A := by
  refine Met.ofW (cc := cX0_become) (maxL := 6) (ret := (some .int)) (by decide) rfl ?_
  intro p e s m args below meth c s₁ B hml hv
  obtain ⟨rfl, ⟨hP, hK⟩, hD⟩ := hv
  have hx := B.exec
  have hb := B.bytes
  have hr := B.returns
  have hts := atoms_spec (ws := wsX0_become) B.pre
  have hown : s.vm.findClass RX0 = some m.cls := findClass_of_methodNamed B.named
  have hlocks := B.notSynchronized
  have hS : va_S A s.heap s.heap [] := va_S.rf
  have hin : ∀ w ∈ wsX00, w ∈ wsX0_become := by decide +kernel
  have hf9 := hts (.fieldLink RX0 9 "Powermill" "signs" "[I") (by decide +kernel)
  have hf13 := hts (.fieldLink RX0 13 "Powermill" "odds" "[J") (by decide +kernel)
  have hf17 := hts (.fieldLink RX0 17 "Powermill" "shifts" "[I") (by decide +kernel)
  have hf20 := hts (.fieldLink RX0 20 "Powermill" "keptSlots" "[I") (by decide +kernel)
  have hf23 := hts (.fieldLink RX0 23 "Powermill" "keptSigns" "[I") (by decide +kernel)
  have hf26 := hts (.fieldLink RX0 26 "Powermill" "keptOdds" "[J") (by decide +kernel)
  have hf29 := hts (.fieldLink RX0 29 "Powermill" "keptShifts" "[I") (by decide +kernel)
  have hf32 := hts (.fieldLink RX0 32 "Powermill" "keptNext" "I") (by decide +kernel)
  have hf36 := hts (.fieldLink RX0 36 "Powermill" "keptCount" "I") (by decide +kernel)
  have hl := lv_entry ([.ref (ad 0), .int p0, .int p1, .long p2, .int p3]) (n := 6) (Nat.le_of_ble_eq_true rfl)
  rw [lg_entry_eq]
  generalize (lg_sl ([.ref (ad 0), .int p0, .int p1, .long p2, .int p3]) ++ List.replicate (6 - (lg_sl ([.ref (ad 0), .int p0, .int p1, .long p2, .int p3])).length) Slot.unset).toArray = ls at hl ⊢
  have hl : lv_has ls 6 [(0, .ref (ad 0)), (1, .int p0), (2, .int p1), (3, .long p2), (5, .int p3)] := hl
  obtain ⟨Q, hQ⟩ : ∃ Q : State → Prop, Q = (MQ below (va_Qi (fun (r : Int32) (u : pS) => f_X0_become S p0 p1 p2 p3 = (r, u)) (fun (u : pS) t => va_P D pCl (pmW cI cJ ad u) t.heap ∧ va_D A (pmW cI cJ ad u)) A) ([.ref (ad 0), .int p0, .int p1, .long p2, .int p3] : List Value).toArray s 0 0 A) := ⟨_, rfl⟩
  rw [← hQ]
  have hR : f_X0_become S p0 p1 p2 p3 = f_X0_become S p0 p1 p2 p3 := rfl
  refine lv_aload_n hx hb dX0_become_0 rfl (lv_at hl 0 rfl) ?_
  refine va_get (D := D) (ci := 0) (v := .ref (ad 4)) (C := RX0) (T := TX0) (N := 9) hx hb hts hin hown hK hP 0 rfl rfl 3 (by decide) hf20 (fun _ h9 => h9) rfl dX0_become_1 ?_
  refine lv_aload_n hx hb dX0_become_4 rfl (lv_at hl 0 rfl) ?_
  refine va_get (D := D) (ci := 0) (v := .int (nxS S)) (C := RX0) (T := TX0) (N := 9) hx hb hts hin hown hK hP 0 rfl rfl 7 (by decide) hf32 (fun _ h9 => h9) rfl dX0_become_5 ?_
  refine lv_iload_n hx hb dX0_become_8 rfl (lv_at hl 1 rfl) ?_
  refine va_iast hx hb hK hP hD hS 4 0 rfl rfl hn dX0_become_9 (fun H locs hP hD hS => ?_)
  have hP : va_P D pCl ([(ad 0, .inr (0, [.ref (ad 1), .ref (ad 2), .ref (ad 3), .ref (ad 4), .ref (ad 5), .ref (ad 6), .ref (ad 7), .int (nxS S), .int (cnS S)])), (ad 1, .inl (cI, 8, .inl (sgS S))), (ad 2, .inl (cJ, 8, .inr (.inl (odS S)))), (ad 3, .inl (cI, 8, .inl (shS S))), (ad 4, .inl (cI, 8, .inl (upd (ksS S) (nxS S).toNatClampNeg p0))), (ad 5, .inl (cI, 8, .inl (kgS S))), (ad 6, .inl (cJ, 8, .inr (.inl (koS S)))), (ad 7, .inl (cI, 8, .inl (khS S)))]) H := hP
  have hD : va_D A ([(ad 0, .inr (0, [.ref (ad 1), .ref (ad 2), .ref (ad 3), .ref (ad 4), .ref (ad 5), .ref (ad 6), .ref (ad 7), .int (nxS S), .int (cnS S)])), (ad 1, .inl (cI, 8, .inl (sgS S))), (ad 2, .inl (cJ, 8, .inr (.inl (odS S)))), (ad 3, .inl (cI, 8, .inl (shS S))), (ad 4, .inl (cI, 8, .inl (upd (ksS S) (nxS S).toNatClampNeg p0))), (ad 5, .inl (cI, 8, .inl (kgS S))), (ad 6, .inl (cJ, 8, .inr (.inl (koS S)))), (ad 7, .inl (cI, 8, .inl (khS S)))]) := hD
  refine lv_aload_n hx hb dX0_become_10 rfl (lv_at hl 0 rfl) ?_
  refine va_get (D := D) (ci := 0) (v := .ref (ad 5)) (C := RX0) (T := TX0) (N := 9) hx hb hts hin hown hK hP 0 rfl rfl 4 (by decide) hf23 (fun _ h9 => h9) rfl dX0_become_11 ?_
  refine lv_aload_n hx hb dX0_become_14 rfl (lv_at hl 0 rfl) ?_
  refine va_get (D := D) (ci := 0) (v := .int (nxS S)) (C := RX0) (T := TX0) (N := 9) hx hb hts hin hown hK hP 0 rfl rfl 7 (by decide) hf32 (fun _ h9 => h9) rfl dX0_become_15 ?_
  refine lv_aload_n hx hb dX0_become_18 rfl (lv_at hl 0 rfl) ?_
  refine va_get (D := D) (ci := 0) (v := .ref (ad 1)) (C := RX0) (T := TX0) (N := 9) hx hb hts hin hown hK hP 0 rfl rfl 0 (by decide) hf9 (fun _ h9 => h9) rfl dX0_become_19 ?_
  refine lv_iload_n hx hb dX0_become_22 rfl (lv_at hl 1 rfl) ?_
  refine va_iald hx hb hK hP 1 0 rfl rfl h0 dX0_become_23 ?_
  refine va_iast hx hb hK hP hD hS 5 0 rfl rfl hn dX0_become_24 (fun H locs hP hD hS => ?_)
  have hP : va_P D pCl ([(ad 0, .inr (0, [.ref (ad 1), .ref (ad 2), .ref (ad 3), .ref (ad 4), .ref (ad 5), .ref (ad 6), .ref (ad 7), .int (nxS S), .int (cnS S)])), (ad 1, .inl (cI, 8, .inl (sgS S))), (ad 2, .inl (cJ, 8, .inr (.inl (odS S)))), (ad 3, .inl (cI, 8, .inl (shS S))), (ad 4, .inl (cI, 8, .inl (upd (ksS S) (nxS S).toNatClampNeg p0))), (ad 5, .inl (cI, 8, .inl (upd (kgS S) (nxS S).toNatClampNeg ((sgS S) p0.toNatClampNeg)))), (ad 6, .inl (cJ, 8, .inr (.inl (koS S)))), (ad 7, .inl (cI, 8, .inl (khS S)))]) H := hP
  have hD : va_D A ([(ad 0, .inr (0, [.ref (ad 1), .ref (ad 2), .ref (ad 3), .ref (ad 4), .ref (ad 5), .ref (ad 6), .ref (ad 7), .int (nxS S), .int (cnS S)])), (ad 1, .inl (cI, 8, .inl (sgS S))), (ad 2, .inl (cJ, 8, .inr (.inl (odS S)))), (ad 3, .inl (cI, 8, .inl (shS S))), (ad 4, .inl (cI, 8, .inl (upd (ksS S) (nxS S).toNatClampNeg p0))), (ad 5, .inl (cI, 8, .inl (upd (kgS S) (nxS S).toNatClampNeg ((sgS S) p0.toNatClampNeg)))), (ad 6, .inl (cJ, 8, .inr (.inl (koS S)))), (ad 7, .inl (cI, 8, .inl (khS S)))]) := hD
  refine lv_aload_n hx hb dX0_become_25 rfl (lv_at hl 0 rfl) ?_
  refine va_get (D := D) (ci := 0) (v := .ref (ad 6)) (C := RX0) (T := TX0) (N := 9) hx hb hts hin hown hK hP 0 rfl rfl 5 (by decide) hf26 (fun _ h9 => h9) rfl dX0_become_26 ?_
  refine lv_aload_n hx hb dX0_become_29 rfl (lv_at hl 0 rfl) ?_
  refine va_get (D := D) (ci := 0) (v := .int (nxS S)) (C := RX0) (T := TX0) (N := 9) hx hb hts hin hown hK hP 0 rfl rfl 7 (by decide) hf32 (fun _ h9 => h9) rfl dX0_become_30 ?_
  refine lv_aload_n hx hb dX0_become_33 rfl (lv_at hl 0 rfl) ?_
  refine va_get (D := D) (ci := 0) (v := .ref (ad 2)) (C := RX0) (T := TX0) (N := 9) hx hb hts hin hown hK hP 0 rfl rfl 1 (by decide) hf13 (fun _ h9 => h9) rfl dX0_become_34 ?_
  refine lv_iload_n hx hb dX0_become_37 rfl (lv_at hl 1 rfl) ?_
  refine va_lald hx hb hK hP 2 1 rfl rfl h0 dX0_become_38 ?_
  refine va_last hx hb hK hP hD hS 6 1 rfl rfl hn dX0_become_39 (fun H locs hP hD hS => ?_)
  have hP : va_P D pCl ([(ad 0, .inr (0, [.ref (ad 1), .ref (ad 2), .ref (ad 3), .ref (ad 4), .ref (ad 5), .ref (ad 6), .ref (ad 7), .int (nxS S), .int (cnS S)])), (ad 1, .inl (cI, 8, .inl (sgS S))), (ad 2, .inl (cJ, 8, .inr (.inl (odS S)))), (ad 3, .inl (cI, 8, .inl (shS S))), (ad 4, .inl (cI, 8, .inl (upd (ksS S) (nxS S).toNatClampNeg p0))), (ad 5, .inl (cI, 8, .inl (upd (kgS S) (nxS S).toNatClampNeg ((sgS S) p0.toNatClampNeg)))), (ad 6, .inl (cJ, 8, .inr (.inl (vp_updL (koS S) (nxS S).toNatClampNeg ((odS S) p0.toNatClampNeg))))), (ad 7, .inl (cI, 8, .inl (khS S)))]) H := hP
  have hD : va_D A ([(ad 0, .inr (0, [.ref (ad 1), .ref (ad 2), .ref (ad 3), .ref (ad 4), .ref (ad 5), .ref (ad 6), .ref (ad 7), .int (nxS S), .int (cnS S)])), (ad 1, .inl (cI, 8, .inl (sgS S))), (ad 2, .inl (cJ, 8, .inr (.inl (odS S)))), (ad 3, .inl (cI, 8, .inl (shS S))), (ad 4, .inl (cI, 8, .inl (upd (ksS S) (nxS S).toNatClampNeg p0))), (ad 5, .inl (cI, 8, .inl (upd (kgS S) (nxS S).toNatClampNeg ((sgS S) p0.toNatClampNeg)))), (ad 6, .inl (cJ, 8, .inr (.inl (vp_updL (koS S) (nxS S).toNatClampNeg ((odS S) p0.toNatClampNeg))))), (ad 7, .inl (cI, 8, .inl (khS S)))]) := hD
  refine lv_aload_n hx hb dX0_become_40 rfl (lv_at hl 0 rfl) ?_
  refine va_get (D := D) (ci := 0) (v := .ref (ad 7)) (C := RX0) (T := TX0) (N := 9) hx hb hts hin hown hK hP 0 rfl rfl 6 (by decide) hf29 (fun _ h9 => h9) rfl dX0_become_41 ?_
  refine lv_aload_n hx hb dX0_become_44 rfl (lv_at hl 0 rfl) ?_
  refine va_get (D := D) (ci := 0) (v := .int (nxS S)) (C := RX0) (T := TX0) (N := 9) hx hb hts hin hown hK hP 0 rfl rfl 7 (by decide) hf32 (fun _ h9 => h9) rfl dX0_become_45 ?_
  refine lv_aload_n hx hb dX0_become_48 rfl (lv_at hl 0 rfl) ?_
  refine va_get (D := D) (ci := 0) (v := .ref (ad 3)) (C := RX0) (T := TX0) (N := 9) hx hb hts hin hown hK hP 0 rfl rfl 2 (by decide) hf17 (fun _ h9 => h9) rfl dX0_become_49 ?_
  refine lv_iload_n hx hb dX0_become_52 rfl (lv_at hl 1 rfl) ?_
  refine va_iald hx hb hK hP 3 0 rfl rfl h0 dX0_become_53 ?_
  refine va_iast hx hb hK hP hD hS 7 0 rfl rfl hn dX0_become_54 (fun H locs hP hD hS => ?_)
  have hP : va_P D pCl ([(ad 0, .inr (0, [.ref (ad 1), .ref (ad 2), .ref (ad 3), .ref (ad 4), .ref (ad 5), .ref (ad 6), .ref (ad 7), .int (nxS S), .int (cnS S)])), (ad 1, .inl (cI, 8, .inl (sgS S))), (ad 2, .inl (cJ, 8, .inr (.inl (odS S)))), (ad 3, .inl (cI, 8, .inl (shS S))), (ad 4, .inl (cI, 8, .inl (upd (ksS S) (nxS S).toNatClampNeg p0))), (ad 5, .inl (cI, 8, .inl (upd (kgS S) (nxS S).toNatClampNeg ((sgS S) p0.toNatClampNeg)))), (ad 6, .inl (cJ, 8, .inr (.inl (vp_updL (koS S) (nxS S).toNatClampNeg ((odS S) p0.toNatClampNeg))))), (ad 7, .inl (cI, 8, .inl (upd (khS S) (nxS S).toNatClampNeg ((shS S) p0.toNatClampNeg))))]) H := hP
  have hD : va_D A ([(ad 0, .inr (0, [.ref (ad 1), .ref (ad 2), .ref (ad 3), .ref (ad 4), .ref (ad 5), .ref (ad 6), .ref (ad 7), .int (nxS S), .int (cnS S)])), (ad 1, .inl (cI, 8, .inl (sgS S))), (ad 2, .inl (cJ, 8, .inr (.inl (odS S)))), (ad 3, .inl (cI, 8, .inl (shS S))), (ad 4, .inl (cI, 8, .inl (upd (ksS S) (nxS S).toNatClampNeg p0))), (ad 5, .inl (cI, 8, .inl (upd (kgS S) (nxS S).toNatClampNeg ((sgS S) p0.toNatClampNeg)))), (ad 6, .inl (cJ, 8, .inr (.inl (vp_updL (koS S) (nxS S).toNatClampNeg ((odS S) p0.toNatClampNeg))))), (ad 7, .inl (cI, 8, .inl (upd (khS S) (nxS S).toNatClampNeg ((shS S) p0.toNatClampNeg))))]) := hD
  refine lv_aload_n hx hb dX0_become_55 rfl (lv_at hl 0 rfl) ?_
  refine lv_aload_n hx hb dX0_become_56 rfl (lv_at hl 0 rfl) ?_
  refine va_get (D := D) (ci := 0) (v := .int (nxS S)) (C := RX0) (T := TX0) (N := 9) hx hb hts hin hown hK hP 0 rfl rfl 7 (by decide) hf32 (fun _ h9 => h9) rfl dX0_become_57 ?_
  refine lv_iconst (v := 1) hx hb dX0_become_60 (by decide) ?_
  refine lv_iadd hx hb dX0_become_61 ?_
  refine lv_bipush (v := 8) hx hb dX0_become_62 (by decide) ?_
  refine lv_irem hx hb dX0_become_64 (by decide) ?_
  refine va_put (D := D) (ci := 0) (v := .int (((nxS S) + 1) - ((nxS S) + 1) / 8 * 8)) (ty := .int) (C := RX0) (T := TX0) (N := 9) hx hb hts hin tyX0 tyX0_ok nmX0 hown hK hP hD hS 0 rfl rfl 7 (by decide) hf32 (fun _ h9 => h9) rfl (by decide +kernel) rfl rfl (Nat.le_of_ble_eq_true rfl) dX0_become_65 (fun H locs hP hD hS => ?_)
  have hP : va_P D pCl ([(ad 0, .inr (0, [.ref (ad 1), .ref (ad 2), .ref (ad 3), .ref (ad 4), .ref (ad 5), .ref (ad 6), .ref (ad 7), .int (((nxS S) + 1) - ((nxS S) + 1) / 8 * 8), .int (cnS S)])), (ad 1, .inl (cI, 8, .inl (sgS S))), (ad 2, .inl (cJ, 8, .inr (.inl (odS S)))), (ad 3, .inl (cI, 8, .inl (shS S))), (ad 4, .inl (cI, 8, .inl (upd (ksS S) (nxS S).toNatClampNeg p0))), (ad 5, .inl (cI, 8, .inl (upd (kgS S) (nxS S).toNatClampNeg ((sgS S) p0.toNatClampNeg)))), (ad 6, .inl (cJ, 8, .inr (.inl (vp_updL (koS S) (nxS S).toNatClampNeg ((odS S) p0.toNatClampNeg))))), (ad 7, .inl (cI, 8, .inl (upd (khS S) (nxS S).toNatClampNeg ((shS S) p0.toNatClampNeg))))]) H := hP
  have hD : va_D A ([(ad 0, .inr (0, [.ref (ad 1), .ref (ad 2), .ref (ad 3), .ref (ad 4), .ref (ad 5), .ref (ad 6), .ref (ad 7), .int (((nxS S) + 1) - ((nxS S) + 1) / 8 * 8), .int (cnS S)])), (ad 1, .inl (cI, 8, .inl (sgS S))), (ad 2, .inl (cJ, 8, .inr (.inl (odS S)))), (ad 3, .inl (cI, 8, .inl (shS S))), (ad 4, .inl (cI, 8, .inl (upd (ksS S) (nxS S).toNatClampNeg p0))), (ad 5, .inl (cI, 8, .inl (upd (kgS S) (nxS S).toNatClampNeg ((sgS S) p0.toNatClampNeg)))), (ad 6, .inl (cJ, 8, .inr (.inl (vp_updL (koS S) (nxS S).toNatClampNeg ((odS S) p0.toNatClampNeg))))), (ad 7, .inl (cI, 8, .inl (upd (khS S) (nxS S).toNatClampNeg ((shS S) p0.toNatClampNeg))))]) := hD
  refine lv_aload_n hx hb dX0_become_68 rfl (lv_at hl 0 rfl) ?_
  refine va_get (D := D) (ci := 0) (v := .int (cnS S)) (C := RX0) (T := TX0) (N := 9) hx hb hts hin hown hK hP 0 rfl rfl 8 (by decide) hf36 (fun _ h9 => h9) rfl dX0_become_69 ?_
  refine lv_bipush (v := 8) hx hb dX0_become_72 (by decide) ?_
  have J87 : ∀ (q87_8 : Int32) (ls : Array Slot) (H : Heap) (locs : List Loc), lv_has ls 6 [(0, .ref (ad 0)), (1, .int p0), (2, .int p1), (3, .long p2), (5, .int p3)] → va_S A s.heap H locs → va_P D pCl ([(ad 0, .inr (0, [.ref (ad 1), .ref (ad 2), .ref (ad 3), .ref (ad 4), .ref (ad 5), .ref (ad 6), .ref (ad 7), .int (((nxS S) + 1) - ((nxS S) + 1) / 8 * 8), .int q87_8])), (ad 1, .inl (cI, 8, .inl (sgS S))), (ad 2, .inl (cJ, 8, .inr (.inl (odS S)))), (ad 3, .inl (cI, 8, .inl (shS S))), (ad 4, .inl (cI, 8, .inl (upd (ksS S) (nxS S).toNatClampNeg p0))), (ad 5, .inl (cI, 8, .inl (upd (kgS S) (nxS S).toNatClampNeg ((sgS S) p0.toNatClampNeg)))), (ad 6, .inl (cJ, 8, .inr (.inl (vp_updL (koS S) (nxS S).toNatClampNeg ((odS S) p0.toNatClampNeg))))), (ad 7, .inl (cI, 8, .inl (upd (khS S) (nxS S).toNatClampNeg ((shS S) p0.toNatClampNeg))))]) H → va_D A ([(ad 0, .inr (0, [.ref (ad 1), .ref (ad 2), .ref (ad 3), .ref (ad 4), .ref (ad 5), .ref (ad 6), .ref (ad 7), .int (((nxS S) + 1) - ((nxS S) + 1) / 8 * 8), .int q87_8])), (ad 1, .inl (cI, 8, .inl (sgS S))), (ad 2, .inl (cJ, 8, .inr (.inl (odS S)))), (ad 3, .inl (cI, 8, .inl (shS S))), (ad 4, .inl (cI, 8, .inl (upd (ksS S) (nxS S).toNatClampNeg p0))), (ad 5, .inl (cI, 8, .inl (upd (kgS S) (nxS S).toNatClampNeg ((sgS S) p0.toNatClampNeg)))), (ad 6, .inl (cJ, 8, .inr (.inl (vp_updL (koS S) (nxS S).toNatClampNeg ((odS S) p0.toNatClampNeg))))), (ad 7, .inl (cI, 8, .inl (upd (khS S) (nxS S).toNatClampNeg ((shS S) p0.toNatClampNeg))))]) → f_X0_become S p0 p1 p2 p3 = g_X0_become_87 S p0 p1 p2 p3 q87_8 → W p l e (headSpec wsX0_become ({ frames := 0, cells := 0, slots := 0, locals := 0 } : Room)).room s m ([.ref (ad 0), .int p0, .int p1, .long p2, .int p3] : List Value).toArray below meth c H locs 0 0 Q (F0 m 87 ls []) := by
    intro q87_8 ls H locs hl hS hP hD hR
    refine lv_aload_n hx hb dX0_become_87 rfl (lv_at hl 0 rfl) ?_
    refine va_get (D := D) (ci := 0) (v := .ref (ad 1)) (C := RX0) (T := TX0) (N := 9) hx hb hts hin hown hK hP 0 rfl rfl 0 (by decide) hf9 (fun _ h9 => h9) rfl dX0_become_88 ?_
    refine lv_iload_n hx hb dX0_become_91 rfl (lv_at hl 1 rfl) ?_
    refine lv_iload_n hx hb dX0_become_92 rfl (lv_at hl 2 rfl) ?_
    refine va_iast hx hb hK hP hD hS 1 0 rfl rfl h0 dX0_become_93 (fun H locs hP hD hS => ?_)
    have hP : va_P D pCl ([(ad 0, .inr (0, [.ref (ad 1), .ref (ad 2), .ref (ad 3), .ref (ad 4), .ref (ad 5), .ref (ad 6), .ref (ad 7), .int (((nxS S) + 1) - ((nxS S) + 1) / 8 * 8), .int q87_8])), (ad 1, .inl (cI, 8, .inl (upd (sgS S) p0.toNatClampNeg p1))), (ad 2, .inl (cJ, 8, .inr (.inl (odS S)))), (ad 3, .inl (cI, 8, .inl (shS S))), (ad 4, .inl (cI, 8, .inl (upd (ksS S) (nxS S).toNatClampNeg p0))), (ad 5, .inl (cI, 8, .inl (upd (kgS S) (nxS S).toNatClampNeg ((sgS S) p0.toNatClampNeg)))), (ad 6, .inl (cJ, 8, .inr (.inl (vp_updL (koS S) (nxS S).toNatClampNeg ((odS S) p0.toNatClampNeg))))), (ad 7, .inl (cI, 8, .inl (upd (khS S) (nxS S).toNatClampNeg ((shS S) p0.toNatClampNeg))))]) H := hP
    have hD : va_D A ([(ad 0, .inr (0, [.ref (ad 1), .ref (ad 2), .ref (ad 3), .ref (ad 4), .ref (ad 5), .ref (ad 6), .ref (ad 7), .int (((nxS S) + 1) - ((nxS S) + 1) / 8 * 8), .int q87_8])), (ad 1, .inl (cI, 8, .inl (upd (sgS S) p0.toNatClampNeg p1))), (ad 2, .inl (cJ, 8, .inr (.inl (odS S)))), (ad 3, .inl (cI, 8, .inl (shS S))), (ad 4, .inl (cI, 8, .inl (upd (ksS S) (nxS S).toNatClampNeg p0))), (ad 5, .inl (cI, 8, .inl (upd (kgS S) (nxS S).toNatClampNeg ((sgS S) p0.toNatClampNeg)))), (ad 6, .inl (cJ, 8, .inr (.inl (vp_updL (koS S) (nxS S).toNatClampNeg ((odS S) p0.toNatClampNeg))))), (ad 7, .inl (cI, 8, .inl (upd (khS S) (nxS S).toNatClampNeg ((shS S) p0.toNatClampNeg))))]) := hD
    refine lv_aload_n hx hb dX0_become_94 rfl (lv_at hl 0 rfl) ?_
    refine va_get (D := D) (ci := 0) (v := .ref (ad 2)) (C := RX0) (T := TX0) (N := 9) hx hb hts hin hown hK hP 0 rfl rfl 1 (by decide) hf13 (fun _ h9 => h9) rfl dX0_become_95 ?_
    refine lv_iload_n hx hb dX0_become_98 rfl (lv_at hl 1 rfl) ?_
    refine lv_lload_n hx hb dX0_become_99 rfl (lv_at hl 3 rfl) ?_
    refine va_last hx hb hK hP hD hS 2 1 rfl rfl h0 dX0_become_100 (fun H locs hP hD hS => ?_)
    have hP : va_P D pCl ([(ad 0, .inr (0, [.ref (ad 1), .ref (ad 2), .ref (ad 3), .ref (ad 4), .ref (ad 5), .ref (ad 6), .ref (ad 7), .int (((nxS S) + 1) - ((nxS S) + 1) / 8 * 8), .int q87_8])), (ad 1, .inl (cI, 8, .inl (upd (sgS S) p0.toNatClampNeg p1))), (ad 2, .inl (cJ, 8, .inr (.inl (vp_updL (odS S) p0.toNatClampNeg p2)))), (ad 3, .inl (cI, 8, .inl (shS S))), (ad 4, .inl (cI, 8, .inl (upd (ksS S) (nxS S).toNatClampNeg p0))), (ad 5, .inl (cI, 8, .inl (upd (kgS S) (nxS S).toNatClampNeg ((sgS S) p0.toNatClampNeg)))), (ad 6, .inl (cJ, 8, .inr (.inl (vp_updL (koS S) (nxS S).toNatClampNeg ((odS S) p0.toNatClampNeg))))), (ad 7, .inl (cI, 8, .inl (upd (khS S) (nxS S).toNatClampNeg ((shS S) p0.toNatClampNeg))))]) H := hP
    have hD : va_D A ([(ad 0, .inr (0, [.ref (ad 1), .ref (ad 2), .ref (ad 3), .ref (ad 4), .ref (ad 5), .ref (ad 6), .ref (ad 7), .int (((nxS S) + 1) - ((nxS S) + 1) / 8 * 8), .int q87_8])), (ad 1, .inl (cI, 8, .inl (upd (sgS S) p0.toNatClampNeg p1))), (ad 2, .inl (cJ, 8, .inr (.inl (vp_updL (odS S) p0.toNatClampNeg p2)))), (ad 3, .inl (cI, 8, .inl (shS S))), (ad 4, .inl (cI, 8, .inl (upd (ksS S) (nxS S).toNatClampNeg p0))), (ad 5, .inl (cI, 8, .inl (upd (kgS S) (nxS S).toNatClampNeg ((sgS S) p0.toNatClampNeg)))), (ad 6, .inl (cJ, 8, .inr (.inl (vp_updL (koS S) (nxS S).toNatClampNeg ((odS S) p0.toNatClampNeg))))), (ad 7, .inl (cI, 8, .inl (upd (khS S) (nxS S).toNatClampNeg ((shS S) p0.toNatClampNeg))))]) := hD
    refine lv_aload_n hx hb dX0_become_101 rfl (lv_at hl 0 rfl) ?_
    refine va_get (D := D) (ci := 0) (v := .ref (ad 3)) (C := RX0) (T := TX0) (N := 9) hx hb hts hin hown hK hP 0 rfl rfl 2 (by decide) hf17 (fun _ h9 => h9) rfl dX0_become_102 ?_
    refine lv_iload_n hx hb dX0_become_105 rfl (lv_at hl 1 rfl) ?_
    refine lv_iload hx hb dX0_become_106 (lv_at hl 4 rfl) ?_
    refine va_iast hx hb hK hP hD hS 3 0 rfl rfl h0 dX0_become_108 (fun H locs hP hD hS => ?_)
    have hP : va_P D pCl ([(ad 0, .inr (0, [.ref (ad 1), .ref (ad 2), .ref (ad 3), .ref (ad 4), .ref (ad 5), .ref (ad 6), .ref (ad 7), .int (((nxS S) + 1) - ((nxS S) + 1) / 8 * 8), .int q87_8])), (ad 1, .inl (cI, 8, .inl (upd (sgS S) p0.toNatClampNeg p1))), (ad 2, .inl (cJ, 8, .inr (.inl (vp_updL (odS S) p0.toNatClampNeg p2)))), (ad 3, .inl (cI, 8, .inl (upd (shS S) p0.toNatClampNeg p3))), (ad 4, .inl (cI, 8, .inl (upd (ksS S) (nxS S).toNatClampNeg p0))), (ad 5, .inl (cI, 8, .inl (upd (kgS S) (nxS S).toNatClampNeg ((sgS S) p0.toNatClampNeg)))), (ad 6, .inl (cJ, 8, .inr (.inl (vp_updL (koS S) (nxS S).toNatClampNeg ((odS S) p0.toNatClampNeg))))), (ad 7, .inl (cI, 8, .inl (upd (khS S) (nxS S).toNatClampNeg ((shS S) p0.toNatClampNeg))))]) H := hP
    have hD : va_D A ([(ad 0, .inr (0, [.ref (ad 1), .ref (ad 2), .ref (ad 3), .ref (ad 4), .ref (ad 5), .ref (ad 6), .ref (ad 7), .int (((nxS S) + 1) - ((nxS S) + 1) / 8 * 8), .int q87_8])), (ad 1, .inl (cI, 8, .inl (upd (sgS S) p0.toNatClampNeg p1))), (ad 2, .inl (cJ, 8, .inr (.inl (vp_updL (odS S) p0.toNatClampNeg p2)))), (ad 3, .inl (cI, 8, .inl (upd (shS S) p0.toNatClampNeg p3))), (ad 4, .inl (cI, 8, .inl (upd (ksS S) (nxS S).toNatClampNeg p0))), (ad 5, .inl (cI, 8, .inl (upd (kgS S) (nxS S).toNatClampNeg ((sgS S) p0.toNatClampNeg)))), (ad 6, .inl (cJ, 8, .inr (.inl (vp_updL (koS S) (nxS S).toNatClampNeg ((odS S) p0.toNatClampNeg))))), (ad 7, .inl (cI, 8, .inl (upd (khS S) (nxS S).toNatClampNeg ((shS S) p0.toNatClampNeg))))]) := hD
    refine lv_iload hx hb dX0_become_109 (lv_at hl 4 rfl) ?_
    rw [hQ]
    exact W.iret (v := p3) hx hb hr (fun t ht hW => ⟨⟨p3, ((upd (sgS S) p0.toNatClampNeg p1), (vp_updL (odS S) p0.toNatClampNeg p2), (upd (shS S) p0.toNatClampNeg p3), (upd (ksS S) (nxS S).toNatClampNeg p0), (upd (kgS S) (nxS S).toNatClampNeg ((sgS S) p0.toNatClampNeg)), (vp_updL (koS S) (nxS S).toNatClampNeg ((odS S) p0.toNatClampNeg)), (upd (khS S) (nxS S).toNatClampNeg ((shS S) p0.toNatClampNeg)), (((nxS S) + 1) - ((nxS S) + 1) / 8 * 8), q87_8), rfl, (hR.trans (by simp only [g_X0_become_87])), by rw [ht]; exact hP, hD⟩, hS.F ht⟩) hS.2.2 dX0_become_111
  refine lv_icmp_ge (tgt := 87) hx hb dX0_become_74 (by decide) (fun c74 => ?_) (fun c74 => ?_)
  · skip
    exact J87 (cnS S) ls _ _ (lv_sub hl [0, 1, 2, 3, 4] rfl) hS hP hD (hR.trans (by simp only [f_X0_become, if_pos c74]))
  · skip
    refine lv_aload_n hx hb dX0_become_77 rfl (lv_at hl 0 rfl) ?_
    refine lv_dup hx hb dX0_become_78 rfl ?_
    refine va_get (D := D) (ci := 0) (v := .int (cnS S)) (C := RX0) (T := TX0) (N := 9) hx hb hts hin hown hK hP 0 rfl rfl 8 (by decide) hf36 (fun _ h9 => h9) rfl dX0_become_79 ?_
    refine lv_iconst (v := 1) hx hb dX0_become_82 (by decide) ?_
    refine lv_iadd hx hb dX0_become_83 ?_
    refine va_put (D := D) (ci := 0) (v := .int ((cnS S) + 1)) (ty := .int) (C := RX0) (T := TX0) (N := 9) hx hb hts hin tyX0 tyX0_ok nmX0 hown hK hP hD hS 0 rfl rfl 8 (by decide) hf36 (fun _ h9 => h9) rfl (by decide +kernel) rfl rfl (Nat.le_of_ble_eq_true rfl) dX0_become_84 (fun H locs hP hD hS => ?_)
    have hP : va_P D pCl ([(ad 0, .inr (0, [.ref (ad 1), .ref (ad 2), .ref (ad 3), .ref (ad 4), .ref (ad 5), .ref (ad 6), .ref (ad 7), .int (((nxS S) + 1) - ((nxS S) + 1) / 8 * 8), .int ((cnS S) + 1)])), (ad 1, .inl (cI, 8, .inl (sgS S))), (ad 2, .inl (cJ, 8, .inr (.inl (odS S)))), (ad 3, .inl (cI, 8, .inl (shS S))), (ad 4, .inl (cI, 8, .inl (upd (ksS S) (nxS S).toNatClampNeg p0))), (ad 5, .inl (cI, 8, .inl (upd (kgS S) (nxS S).toNatClampNeg ((sgS S) p0.toNatClampNeg)))), (ad 6, .inl (cJ, 8, .inr (.inl (vp_updL (koS S) (nxS S).toNatClampNeg ((odS S) p0.toNatClampNeg))))), (ad 7, .inl (cI, 8, .inl (upd (khS S) (nxS S).toNatClampNeg ((shS S) p0.toNatClampNeg))))]) H := hP
    have hD : va_D A ([(ad 0, .inr (0, [.ref (ad 1), .ref (ad 2), .ref (ad 3), .ref (ad 4), .ref (ad 5), .ref (ad 6), .ref (ad 7), .int (((nxS S) + 1) - ((nxS S) + 1) / 8 * 8), .int ((cnS S) + 1)])), (ad 1, .inl (cI, 8, .inl (sgS S))), (ad 2, .inl (cJ, 8, .inr (.inl (odS S)))), (ad 3, .inl (cI, 8, .inl (shS S))), (ad 4, .inl (cI, 8, .inl (upd (ksS S) (nxS S).toNatClampNeg p0))), (ad 5, .inl (cI, 8, .inl (upd (kgS S) (nxS S).toNatClampNeg ((sgS S) p0.toNatClampNeg)))), (ad 6, .inl (cJ, 8, .inr (.inl (vp_updL (koS S) (nxS S).toNatClampNeg ((odS S) p0.toNatClampNeg))))), (ad 7, .inl (cI, 8, .inl (upd (khS S) (nxS S).toNatClampNeg ((shS S) p0.toNatClampNeg))))]) := hD
    exact J87 ((cnS S) + 1) ls _ _ (lv_sub hl [0, 1, 2, 3, 4] rfl) hS hP hD (hR.trans (by simp only [f_X0_become, if_neg c74]))

def f_X0_put (S : pS) (p0 : Int32) (p1 : Int32) : Except Nat (Int32 × pS) := (match f_X0_checkSlot p0 with | .error k => .error k | .ok _ => (match f_X0_checkRange p1 (-64) 64 with | .error k => .error k | .ok _ => (match f_X0_become S p0 (f_X0_signOf p1) (f_X0_oddOf p1) (f_X0_shiftOf p1) with | (r26, u26) => (.ok (r26, u26)))))
set_option maxHeartbeats 4000000 in
set_option maxRecDepth 100000 in
theorem met_X0_put (l : Launch) (hfl : l.stackTraces = false) (D : va_G) (cI cJ : ClassId) (ad : Nat → Nat) (A : Nat → Prop) (S : pS) (p0 : Int32) (p1 : Int32) (hn : vp_in (nxS S) 8) : vx_Met l yX0_put wsX0_put ({ frames := 7, cells := 2, slots := 12, locals := 106 } : Room) (va_Pc [.ref (ad 0), .int p0, .int p1] (fun U => b0R D cI cJ ad S U ∧ va_D A (pmW cI cJ ad S) ∧ xE (fun _ => False) U U.heap)) (va_Qi (fun (r : Int32) (u : pS) => f_X0_put S p0 p1 = .ok (r, u)) (fun (u : pS) t => va_P D pCl (pmW cI cJ ad u) t.heap ∧ va_D A (pmW cI cJ ad u)) A) (vx_X (fun k : Nat => f_X0_put S p0 p1 = .error k) (fun E k _ => E = exN k) (fun _ => False)) 2 12 A := by
  refine vx_ofW (cc := cX0_put) (maxL := 3) (ret := (some .int)) (by decide) rfl ?_
  intro p e s m args below meth c s₁ B hml hno hv
  obtain ⟨rfl, ⟨hP, hK⟩, hD, hE⟩ := hv
  have hx := B.exec
  have hb := B.bytes
  have hr := B.returns
  have hts := atoms_spec (ws := wsX0_put) B.pre
  have hown : s.vm.findClass RX0 = some m.cls := findClass_of_methodNamed B.named
  have hlocks := B.notSynchronized
  have hS : va_S (fun _ => False) s.heap s.heap [] := va_S.rf
  have hl := lv_entry ([.ref (ad 0), .int p0, .int p1]) (n := 3) (Nat.le_of_ble_eq_true rfl)
  rw [lg_entry_eq]
  generalize (lg_sl ([.ref (ad 0), .int p0, .int p1]) ++ List.replicate (3 - (lg_sl ([.ref (ad 0), .int p0, .int p1])).length) Slot.unset).toArray = ls at hl ⊢
  have hl : lv_has ls 3 [(0, .ref (ad 0)), (1, .int p0), (2, .int p1)] := hl
  obtain ⟨Q, hQ⟩ : ∃ Q : State → Prop, Q = (vx_MQ below (va_Qi (fun (r : Int32) (u : pS) => f_X0_put S p0 p1 = .ok (r, u)) (fun (u : pS) t => va_P D pCl (pmW cI cJ ad u) t.heap ∧ va_D A (pmW cI cJ ad u)) A) (vx_X (fun k : Nat => f_X0_put S p0 p1 = .error k) (fun E k _ => E = exN k) (fun _ => False)) ([.ref (ad 0), .int p0, .int p1] : List Value).toArray s 2 12 A) := ⟨_, rfl⟩
  rw [← hQ]
  have hR : f_X0_put S p0 p1 = f_X0_put S p0 p1 := rfl
  refine lv_iload_n hx hb dX0_put_0 rfl (lv_at hl 1 rfl) ?_
  refine vx_callv (vx_runS (As := [.int p0]) (rest := []) ⟨hx, hb, hml, hown, hts⟩ (met_X0_checkSlot l hfl p0) (va_cwS 1 hts gX0_put_X0_checkSlot rfl rfl rfl (by decide +kernel) ⟨Nat.le_of_ble_eq_true rfl, Nat.le_of_ble_eq_true rfl⟩) ⟨fun a U g mk q => ⟨q.1, xE_calling q.2⟩, fun U hU hW => ⟨rfl, xE_at hE hS hU hW⟩⟩ rfl rfl hl.1 rfl (lv_room (Nat.le_of_ble_eq_true rfl)) dX0_put_1 ⟨Nat.le_of_ble_eq_true rfl, Nat.le_of_ble_eq_true rfl⟩) hS (fun q _ h => h.elim) (fun q h => h.elim) (fun q _ h => h.elim) (fun E ce q9 k1 t H locs ht hvm hw1 hB hz hk hS hc9 hv9 hf9 => ?_) (fun u1 t H locs ht hvm hw1 hB hz hk hS => ?_)
  · skip
    rw [hQ]
    exact vx_out (fun x hx => (hno x hx).elim) hlocks hc9 hv9 hf9 (fun t9 ht9 hvm9 => ⟨k1, (hR.trans (by simp only [f_X0_put, hw1])), hB, hS.F ht9⟩) (fun z hz => (hS.2.2 z hz).elim) (Nat.le_of_ble_eq_true rfl) (Nat.le_of_ble_eq_true rfl)
  · skip
    have hP := hP.kept (fun k q hk9 => hk _ (vx_lt hP hk9) (fun h => h))
    have hi1 : vp_in p0 8 := slot_in hw1
    refine lv_iload_n hx hb dX0_put_4 rfl (lv_at hl 2 rfl) ?_
    refine lv_bipush (v := (-64)) hx hb dX0_put_5 (by decide) ?_
    refine lv_bipush (v := 64) hx hb dX0_put_7 (by decide) ?_
    refine vx_callv (vx_runS (As := [.int p1, .int (-64), .int 64]) (rest := []) ⟨hx, hb, hml, hown, hts⟩ (met_X0_checkRange l hfl p1 (-64) 64) (va_cwS 3 hts gX0_put_X0_checkRange rfl rfl rfl (by decide +kernel) ⟨Nat.le_of_ble_eq_true rfl, Nat.le_of_ble_eq_true rfl⟩) ⟨fun a U g mk q => ⟨q.1, xE_calling q.2⟩, fun U hU hW => ⟨rfl, xE_at hE hS hU hW⟩⟩ rfl rfl hl.1 rfl (lv_room (Nat.le_of_ble_eq_true rfl)) dX0_put_9 ⟨Nat.le_of_ble_eq_true rfl, Nat.le_of_ble_eq_true rfl⟩) hS (fun q _ h => h.elim) (fun q h => h.elim) (fun q _ h => h.elim) (fun E ce q9 k9 t H locs ht hvm hw9 hB hz hk hS hc9 hv9 hf9 => ?_) (fun u9 t H locs ht hvm hw9 hB hz hk hS => ?_)
    · skip
      rw [hQ]
      exact vx_out (fun x hx => (hno x hx).elim) hlocks hc9 hv9 hf9 (fun t9 ht9 hvm9 => ⟨k9, (hR.trans (by simp only [f_X0_put, hw1, hw9])), hB, hS.F ht9⟩) (fun z hz => (hS.2.2 z hz).elim) (Nat.le_of_ble_eq_true rfl) (Nat.le_of_ble_eq_true rfl)
    · skip
      have hP := hP.kept (fun k q hk9 => hk _ (vx_lt hP hk9) (fun h => h))
      refine lv_aload_n hx hb dX0_put_12 rfl (lv_at hl 0 rfl) ?_
      refine lv_iload_n hx hb dX0_put_13 rfl (lv_at hl 1 rfl) ?_
      refine lv_iload_n hx hb dX0_put_14 rfl (lv_at hl 2 rfl) ?_
      refine va_calli (va_runS (As := [.int p1]) (rest := [.int p0, .ref (ad 0)]) ⟨hx, hb, hml, hown, hts⟩ (met_X0_signOf l p1) (va_cwS 1 hts gX0_put_X0_signOf rfl rfl rfl (by decide +kernel) ⟨Nat.le_of_ble_eq_true rfl, Nat.le_of_ble_eq_true rfl⟩) ⟨fun a U g mk q => q, fun U hU hW => ⟨rfl, trivial⟩⟩ rfl rfl hl.1 rfl (lv_room (Nat.le_of_ble_eq_true rfl)) dX0_put_15 ⟨Nat.le_of_ble_eq_true rfl, Nat.le_of_ble_eq_true rfl⟩) hS (fun q _ h => h.elim) (fun q h => h.elim) (fun r15 u15 t H locs ht hvm hw15 hB hz hk hS => ?_)
      subst hw15
      have hP := hP.kept (fun k q hk9 => hk _ (vx_lt hP hk9) (fun h => h))
      refine lv_iload_n hx hb dX0_put_18 rfl (lv_at hl 2 rfl) ?_
      refine va_calll (va_runS (As := [.int p1]) (rest := [.int (f_X0_signOf p1), .int p0, .ref (ad 0)]) ⟨hx, hb, hml, hown, hts⟩ (met_X0_oddOf l p1) (va_cwS 1 hts gX0_put_X0_oddOf rfl rfl rfl (by decide +kernel) ⟨Nat.le_of_ble_eq_true rfl, Nat.le_of_ble_eq_true rfl⟩) ⟨fun a U g mk q => q, fun U hU hW => ⟨rfl, trivial⟩⟩ rfl rfl hl.1 rfl (lv_room (Nat.le_of_ble_eq_true rfl)) dX0_put_19 ⟨Nat.le_of_ble_eq_true rfl, Nat.le_of_ble_eq_true rfl⟩) hS (fun q _ h => h.elim) (fun q h => h.elim) (fun r19 u19 t H locs ht hvm hw19 hB hz hk hS => ?_)
      subst hw19
      have hP := hP.kept (fun k q hk9 => hk _ (vx_lt hP hk9) (fun h => h))
      refine lv_iload_n hx hb dX0_put_22 rfl (lv_at hl 2 rfl) ?_
      refine va_calli (va_runS (As := [.int p1]) (rest := [.long (f_X0_oddOf p1), .int (f_X0_signOf p1), .int p0, .ref (ad 0)]) ⟨hx, hb, hml, hown, hts⟩ (met_X0_shiftOf l p1) (va_cwS 1 hts gX0_put_X0_shiftOf rfl rfl rfl (by decide +kernel) ⟨Nat.le_of_ble_eq_true rfl, Nat.le_of_ble_eq_true rfl⟩) ⟨fun a U g mk q => q, fun U hU hW => ⟨rfl, trivial⟩⟩ rfl rfl hl.1 rfl (lv_room (Nat.le_of_ble_eq_true rfl)) dX0_put_23 ⟨Nat.le_of_ble_eq_true rfl, Nat.le_of_ble_eq_true rfl⟩) hS (fun q _ h => h.elim) (fun q h => h.elim) (fun r23 u23 t H locs ht hvm hw23 hB hz hk hS => ?_)
      subst hw23
      have hP := hP.kept (fun k q hk9 => hk _ (vx_lt hP hk9) (fun h => h))
      have hS : va_S A s.heap H locs := xS_mono hS
      refine va_calli (va_runV (As := [.int p0, .int (f_X0_signOf p1), .long (f_X0_oddOf p1), .int (f_X0_shiftOf p1)]) (rest := []) ⟨hx, hb, hml, hown, hts⟩ (met_X0_become l D cI cJ ad A S p0 (f_X0_signOf p1) (f_X0_oddOf p1) (f_X0_shiftOf p1) (hi1) hn) (cwV 4 hts gX0_put_X0_become rfl rfl rfl (by decide +kernel) ⟨Nat.le_of_ble_eq_true rfl, Nat.le_of_ble_eq_true rfl⟩) ⟨fun a U g mk q => ⟨q.1, b0R_calling q.2.1, q.2.2⟩, va_recv hK hP (ci := 0) (q0 := 0) rfl rfl, fun U hU hW => ⟨rfl, b0R_at hP hK hU hW, hD⟩⟩ rfl rfl hl.1 rfl (lv_room (Nat.le_of_ble_eq_true rfl)) dX0_put_26 ⟨Nat.le_of_ble_eq_true rfl, Nat.le_of_ble_eq_true rfl⟩) hS (fun q _ h => h) (fun q h => h) (fun r26 u26 t H locs ht hvm hw26 hB hz hk hS => ?_)
      obtain ⟨hP, hD⟩ := hB
      rw [ht] at hP
      rw [hQ]
      refine vx_ret ?_
      exact W.iret (v := r26) hx hb hr (fun t ht hW => ⟨⟨r26, u26, rfl, (hR.trans (by simp only [f_X0_put, hw1, hw9, hw26])), by rw [ht]; exact hP, hD⟩, hS.F ht⟩) hS.2.2 dX0_put_29

def f_X0_power (S : pS) (p0 : Int32) (p1 : Int32) (p2 : Int32) : Except Nat (Int32 × pS) := (match f_X0_checkSlot p0 with | .error k => .error k | .ok _ => (match f_X0_checkBaseAndExponent p1 p2 with | .error k => .error k | .ok _ => (match f_X0_checkTold p1 p2 with | .error k => .error k | .ok _ => (match f_X0_become S p0 (f_X0_powerSign (f_X0_signOf p1) p2) (f_X0_powerOdd (f_X0_oddOf p1) p2) ((f_X0_shiftOf p1) * p2) with | (r38, u38) => (.ok (r38, u38))))))
set_option maxHeartbeats 4000000 in
set_option maxRecDepth 100000 in
theorem met_X0_power (l : Launch) (hfl : l.stackTraces = false) (D : va_G) (cI cJ : ClassId) (ad : Nat → Nat) (A : Nat → Prop) (S : pS) (p0 : Int32) (p1 : Int32) (p2 : Int32) (hn : vp_in (nxS S) 8) : vx_Met l yX0_power wsX0_power ({ frames := 8, cells := 4, slots := 24, locals := 127 } : Room) (va_Pc [.ref (ad 0), .int p0, .int p1, .int p2] (fun U => b0R D cI cJ ad S U ∧ va_D A (pmW cI cJ ad S) ∧ xE (fun _ => False) U U.heap)) (va_Qi (fun (r : Int32) (u : pS) => f_X0_power S p0 p1 p2 = .ok (r, u)) (fun (u : pS) t => va_P D pCl (pmW cI cJ ad u) t.heap ∧ va_D A (pmW cI cJ ad u)) A) (vx_X (fun k : Nat => f_X0_power S p0 p1 p2 = .error k) (fun E k _ => E = exN k) (fun _ => False)) 4 24 A := by
  refine vx_ofW (cc := cX0_power) (maxL := 4) (ret := (some .int)) (by decide) rfl ?_
  intro p e s m args below meth c s₁ B hml hno hv
  obtain ⟨rfl, ⟨hP, hK⟩, hD, hE⟩ := hv
  have hx := B.exec
  have hb := B.bytes
  have hr := B.returns
  have hts := atoms_spec (ws := wsX0_power) B.pre
  have hown : s.vm.findClass RX0 = some m.cls := findClass_of_methodNamed B.named
  have hlocks := B.notSynchronized
  have hS : va_S (fun _ => False) s.heap s.heap [] := va_S.rf
  have hl := lv_entry ([.ref (ad 0), .int p0, .int p1, .int p2]) (n := 4) (Nat.le_of_ble_eq_true rfl)
  rw [lg_entry_eq]
  generalize (lg_sl ([.ref (ad 0), .int p0, .int p1, .int p2]) ++ List.replicate (4 - (lg_sl ([.ref (ad 0), .int p0, .int p1, .int p2])).length) Slot.unset).toArray = ls at hl ⊢
  have hl : lv_has ls 4 [(0, .ref (ad 0)), (1, .int p0), (2, .int p1), (3, .int p2)] := hl
  obtain ⟨Q, hQ⟩ : ∃ Q : State → Prop, Q = (vx_MQ below (va_Qi (fun (r : Int32) (u : pS) => f_X0_power S p0 p1 p2 = .ok (r, u)) (fun (u : pS) t => va_P D pCl (pmW cI cJ ad u) t.heap ∧ va_D A (pmW cI cJ ad u)) A) (vx_X (fun k : Nat => f_X0_power S p0 p1 p2 = .error k) (fun E k _ => E = exN k) (fun _ => False)) ([.ref (ad 0), .int p0, .int p1, .int p2] : List Value).toArray s 4 24 A) := ⟨_, rfl⟩
  rw [← hQ]
  have hR : f_X0_power S p0 p1 p2 = f_X0_power S p0 p1 p2 := rfl
  refine lv_iload_n hx hb dX0_power_0 rfl (lv_at hl 1 rfl) ?_
  refine vx_callv (vx_runS (As := [.int p0]) (rest := []) ⟨hx, hb, hml, hown, hts⟩ (met_X0_checkSlot l hfl p0) (va_cwS 1 hts gX0_power_X0_checkSlot rfl rfl rfl (by decide +kernel) ⟨Nat.le_of_ble_eq_true rfl, Nat.le_of_ble_eq_true rfl⟩) ⟨fun a U g mk q => ⟨q.1, xE_calling q.2⟩, fun U hU hW => ⟨rfl, xE_at hE hS hU hW⟩⟩ rfl rfl hl.1 rfl (lv_room (Nat.le_of_ble_eq_true rfl)) dX0_power_1 ⟨Nat.le_of_ble_eq_true rfl, Nat.le_of_ble_eq_true rfl⟩) hS (fun q _ h => h.elim) (fun q h => h.elim) (fun q _ h => h.elim) (fun E ce q9 k1 t H locs ht hvm hw1 hB hz hk hS hc9 hv9 hf9 => ?_) (fun u1 t H locs ht hvm hw1 hB hz hk hS => ?_)
  · skip
    rw [hQ]
    exact vx_out (fun x hx => (hno x hx).elim) hlocks hc9 hv9 hf9 (fun t9 ht9 hvm9 => ⟨k1, (hR.trans (by simp only [f_X0_power, hw1])), hB, hS.F ht9⟩) (fun z hz => (hS.2.2 z hz).elim) (Nat.le_of_ble_eq_true rfl) (Nat.le_of_ble_eq_true rfl)
  · skip
    have hP := hP.kept (fun k q hk9 => hk _ (vx_lt hP hk9) (fun h => h))
    have hi1 : vp_in p0 8 := slot_in hw1
    refine lv_iload_n hx hb dX0_power_4 rfl (lv_at hl 2 rfl) ?_
    refine lv_iload_n hx hb dX0_power_5 rfl (lv_at hl 3 rfl) ?_
    refine vx_callv (vx_runS (As := [.int p1, .int p2]) (rest := []) ⟨hx, hb, hml, hown, hts⟩ (met_X0_checkBaseAndExponent l hfl p1 p2) (va_cwS 2 hts gX0_power_X0_checkBaseAndExponent rfl rfl rfl (by decide +kernel) ⟨Nat.le_of_ble_eq_true rfl, Nat.le_of_ble_eq_true rfl⟩) ⟨fun a U g mk q => ⟨q.1, xE_calling q.2⟩, fun U hU hW => ⟨rfl, xE_at hE hS hU hW⟩⟩ rfl rfl hl.1 rfl (lv_room (Nat.le_of_ble_eq_true rfl)) dX0_power_6 ⟨Nat.le_of_ble_eq_true rfl, Nat.le_of_ble_eq_true rfl⟩) hS (fun q _ h => h.elim) (fun q h => h.elim) (fun q _ h => h.elim) (fun E ce q9 k6 t H locs ht hvm hw6 hB hz hk hS hc9 hv9 hf9 => ?_) (fun u6 t H locs ht hvm hw6 hB hz hk hS => ?_)
    · skip
      rw [hQ]
      exact vx_out (fun x hx => (hno x hx).elim) hlocks hc9 hv9 hf9 (fun t9 ht9 hvm9 => ⟨k6, (hR.trans (by simp only [f_X0_power, hw1, hw6])), hB, hS.F ht9⟩) (fun z hz => (hS.2.2 z hz).elim) (Nat.le_of_ble_eq_true rfl) (Nat.le_of_ble_eq_true rfl)
    · skip
      have hP := hP.kept (fun k q hk9 => hk _ (vx_lt hP hk9) (fun h => h))
      refine lv_iload_n hx hb dX0_power_9 rfl (lv_at hl 2 rfl) ?_
      refine lv_iload_n hx hb dX0_power_10 rfl (lv_at hl 3 rfl) ?_
      refine vx_callv (vx_runS (As := [.int p1, .int p2]) (rest := []) ⟨hx, hb, hml, hown, hts⟩ (met_X0_checkTold l hfl p1 p2) (va_cwS 2 hts gX0_power_X0_checkTold rfl rfl rfl (by decide +kernel) ⟨Nat.le_of_ble_eq_true rfl, Nat.le_of_ble_eq_true rfl⟩) ⟨fun a U g mk q => ⟨q.1, xE_calling q.2⟩, fun U hU hW => ⟨rfl, xE_at hE hS hU hW⟩⟩ rfl rfl hl.1 rfl (lv_room (Nat.le_of_ble_eq_true rfl)) dX0_power_11 ⟨Nat.le_of_ble_eq_true rfl, Nat.le_of_ble_eq_true rfl⟩) hS (fun q _ h => h.elim) (fun q h => h.elim) (fun q _ h => h.elim) (fun E ce q9 k11 t H locs ht hvm hw11 hB hz hk hS hc9 hv9 hf9 => ?_) (fun u11 t H locs ht hvm hw11 hB hz hk hS => ?_)
      · skip
        rw [hQ]
        exact vx_out (fun x hx => (hno x hx).elim) hlocks hc9 hv9 hf9 (fun t9 ht9 hvm9 => ⟨k11, (hR.trans (by simp only [f_X0_power, hw1, hw6, hw11])), hB, hS.F ht9⟩) (fun z hz => (hS.2.2 z hz).elim) (Nat.le_of_ble_eq_true rfl) (Nat.le_of_ble_eq_true rfl)
      · skip
        have hP := hP.kept (fun k q hk9 => hk _ (vx_lt hP hk9) (fun h => h))
        refine lv_aload_n hx hb dX0_power_14 rfl (lv_at hl 0 rfl) ?_
        refine lv_iload_n hx hb dX0_power_15 rfl (lv_at hl 1 rfl) ?_
        refine lv_iload_n hx hb dX0_power_16 rfl (lv_at hl 2 rfl) ?_
        refine va_calli (va_runS (As := [.int p1]) (rest := [.int p0, .ref (ad 0)]) ⟨hx, hb, hml, hown, hts⟩ (met_X0_signOf l p1) (va_cwS 1 hts gX0_power_X0_signOf rfl rfl rfl (by decide +kernel) ⟨Nat.le_of_ble_eq_true rfl, Nat.le_of_ble_eq_true rfl⟩) ⟨fun a U g mk q => q, fun U hU hW => ⟨rfl, trivial⟩⟩ rfl rfl hl.1 rfl (lv_room (Nat.le_of_ble_eq_true rfl)) dX0_power_17 ⟨Nat.le_of_ble_eq_true rfl, Nat.le_of_ble_eq_true rfl⟩) hS (fun q _ h => h.elim) (fun q h => h.elim) (fun r17 u17 t H locs ht hvm hw17 hB hz hk hS => ?_)
        subst hw17
        have hP := hP.kept (fun k q hk9 => hk _ (vx_lt hP hk9) (fun h => h))
        refine lv_iload_n hx hb dX0_power_20 rfl (lv_at hl 3 rfl) ?_
        refine va_calli (va_runS (As := [.int (f_X0_signOf p1), .int p2]) (rest := [.int p0, .ref (ad 0)]) ⟨hx, hb, hml, hown, hts⟩ (met_X0_powerSign l (f_X0_signOf p1) p2) (va_cwS 2 hts gX0_power_X0_powerSign rfl rfl rfl (by decide +kernel) ⟨Nat.le_of_ble_eq_true rfl, Nat.le_of_ble_eq_true rfl⟩) ⟨fun a U g mk q => q, fun U hU hW => ⟨rfl, trivial⟩⟩ rfl rfl hl.1 rfl (lv_room (Nat.le_of_ble_eq_true rfl)) dX0_power_21 ⟨Nat.le_of_ble_eq_true rfl, Nat.le_of_ble_eq_true rfl⟩) hS (fun q _ h => h.elim) (fun q h => h.elim) (fun r21 u21 t H locs ht hvm hw21 hB hz hk hS => ?_)
        subst hw21
        have hP := hP.kept (fun k q hk9 => hk _ (vx_lt hP hk9) (fun h => h))
        refine lv_iload_n hx hb dX0_power_24 rfl (lv_at hl 2 rfl) ?_
        refine va_calll (va_runS (As := [.int p1]) (rest := [.int (f_X0_powerSign (f_X0_signOf p1) p2), .int p0, .ref (ad 0)]) ⟨hx, hb, hml, hown, hts⟩ (met_X0_oddOf l p1) (va_cwS 1 hts gX0_power_X0_oddOf rfl rfl rfl (by decide +kernel) ⟨Nat.le_of_ble_eq_true rfl, Nat.le_of_ble_eq_true rfl⟩) ⟨fun a U g mk q => q, fun U hU hW => ⟨rfl, trivial⟩⟩ rfl rfl hl.1 rfl (lv_room (Nat.le_of_ble_eq_true rfl)) dX0_power_25 ⟨Nat.le_of_ble_eq_true rfl, Nat.le_of_ble_eq_true rfl⟩) hS (fun q _ h => h.elim) (fun q h => h.elim) (fun r25 u25 t H locs ht hvm hw25 hB hz hk hS => ?_)
        subst hw25
        have hP := hP.kept (fun k q hk9 => hk _ (vx_lt hP hk9) (fun h => h))
        refine lv_iload_n hx hb dX0_power_28 rfl (lv_at hl 3 rfl) ?_
        refine va_calll (va_runS (As := [.long (f_X0_oddOf p1), .int p2]) (rest := [.int (f_X0_powerSign (f_X0_signOf p1) p2), .int p0, .ref (ad 0)]) ⟨hx, hb, hml, hown, hts⟩ (met_X0_powerOdd l (f_X0_oddOf p1) p2) (va_cwS 2 hts gX0_power_X0_powerOdd rfl rfl rfl (by decide +kernel) ⟨Nat.le_of_ble_eq_true rfl, Nat.le_of_ble_eq_true rfl⟩) ⟨fun a U g mk q => q, fun U hU hW => ⟨rfl, trivial⟩⟩ rfl rfl hl.1 rfl (lv_room (Nat.le_of_ble_eq_true rfl)) dX0_power_29 ⟨Nat.le_of_ble_eq_true rfl, Nat.le_of_ble_eq_true rfl⟩) hS (fun q _ h => h.elim) (fun q h => h.elim) (fun r29 u29 t H locs ht hvm hw29 hB hz hk hS => ?_)
        subst hw29
        have hP := hP.kept (fun k q hk9 => hk _ (vx_lt hP hk9) (fun h => h))
        refine lv_iload_n hx hb dX0_power_32 rfl (lv_at hl 2 rfl) ?_
        refine va_calli (va_runS (As := [.int p1]) (rest := [.long (f_X0_powerOdd (f_X0_oddOf p1) p2), .int (f_X0_powerSign (f_X0_signOf p1) p2), .int p0, .ref (ad 0)]) ⟨hx, hb, hml, hown, hts⟩ (met_X0_shiftOf l p1) (va_cwS 1 hts gX0_power_X0_shiftOf rfl rfl rfl (by decide +kernel) ⟨Nat.le_of_ble_eq_true rfl, Nat.le_of_ble_eq_true rfl⟩) ⟨fun a U g mk q => q, fun U hU hW => ⟨rfl, trivial⟩⟩ rfl rfl hl.1 rfl (lv_room (Nat.le_of_ble_eq_true rfl)) dX0_power_33 ⟨Nat.le_of_ble_eq_true rfl, Nat.le_of_ble_eq_true rfl⟩) hS (fun q _ h => h.elim) (fun q h => h.elim) (fun r33 u33 t H locs ht hvm hw33 hB hz hk hS => ?_)
        subst hw33
        have hP := hP.kept (fun k q hk9 => hk _ (vx_lt hP hk9) (fun h => h))
        refine lv_iload_n hx hb dX0_power_36 rfl (lv_at hl 3 rfl) ?_
        refine lv_imul hx hb dX0_power_37 ?_
        have hS : va_S A s.heap H locs := xS_mono hS
        refine va_calli (va_runV (As := [.int p0, .int (f_X0_powerSign (f_X0_signOf p1) p2), .long (f_X0_powerOdd (f_X0_oddOf p1) p2), .int ((f_X0_shiftOf p1) * p2)]) (rest := []) ⟨hx, hb, hml, hown, hts⟩ (met_X0_become l D cI cJ ad A S p0 (f_X0_powerSign (f_X0_signOf p1) p2) (f_X0_powerOdd (f_X0_oddOf p1) p2) ((f_X0_shiftOf p1) * p2) (hi1) hn) (cwV 4 hts gX0_power_X0_become rfl rfl rfl (by decide +kernel) ⟨Nat.le_of_ble_eq_true rfl, Nat.le_of_ble_eq_true rfl⟩) ⟨fun a U g mk q => ⟨q.1, b0R_calling q.2.1, q.2.2⟩, va_recv hK hP (ci := 0) (q0 := 0) rfl rfl, fun U hU hW => ⟨rfl, b0R_at hP hK hU hW, hD⟩⟩ rfl rfl hl.1 rfl (lv_room (Nat.le_of_ble_eq_true rfl)) dX0_power_38 ⟨Nat.le_of_ble_eq_true rfl, Nat.le_of_ble_eq_true rfl⟩) hS (fun q _ h => h) (fun q h => h) (fun r38 u38 t H locs ht hvm hw38 hB hz hk hS => ?_)
        obtain ⟨hP, hD⟩ := hB
        rw [ht] at hP
        rw [hQ]
        refine vx_ret ?_
        exact W.iret (v := r38) hx hb hr (fun t ht hW => ⟨⟨r38, u38, rfl, (hR.trans (by simp only [f_X0_power, hw1, hw6, hw11, hw38])), by rw [ht]; exact hP, hD⟩, hS.F ht⟩) hS.2.2 dX0_power_41

def f_X0_twoTo (S : pS) (p0 : Int32) (p1 : Int32) : Except Nat (Int32 × pS) := (match f_X0_checkSlot p0 with | .error k => .error k | .ok _ => (match f_X0_checkRange p1 (-1000) 1000 with | .error k => .error k | .ok _ => (match f_X0_become S p0 1 1 p1 with | (r19, u19) => (.ok (r19, u19)))))
set_option maxHeartbeats 4000000 in
set_option maxRecDepth 100000 in
theorem met_X0_twoTo (l : Launch) (hfl : l.stackTraces = false) (D : va_G) (cI cJ : ClassId) (ad : Nat → Nat) (A : Nat → Prop) (S : pS) (p0 : Int32) (p1 : Int32) (hn : vp_in (nxS S) 8) : vx_Met l yX0_twoTo wsX0_twoTo ({ frames := 7, cells := 2, slots := 12, locals := 106 } : Room) (va_Pc [.ref (ad 0), .int p0, .int p1] (fun U => b0R D cI cJ ad S U ∧ va_D A (pmW cI cJ ad S) ∧ xE (fun _ => False) U U.heap)) (va_Qi (fun (r : Int32) (u : pS) => f_X0_twoTo S p0 p1 = .ok (r, u)) (fun (u : pS) t => va_P D pCl (pmW cI cJ ad u) t.heap ∧ va_D A (pmW cI cJ ad u)) A) (vx_X (fun k : Nat => f_X0_twoTo S p0 p1 = .error k) (fun E k _ => E = exN k) (fun _ => False)) 2 12 A := by
  refine vx_ofW (cc := cX0_twoTo) (maxL := 3) (ret := (some .int)) (by decide) rfl ?_
  intro p e s m args below meth c s₁ B hml hno hv
  obtain ⟨rfl, ⟨hP, hK⟩, hD, hE⟩ := hv
  have hx := B.exec
  have hb := B.bytes
  have hr := B.returns
  have hts := atoms_spec (ws := wsX0_twoTo) B.pre
  have hown : s.vm.findClass RX0 = some m.cls := findClass_of_methodNamed B.named
  have hlocks := B.notSynchronized
  have hS : va_S (fun _ => False) s.heap s.heap [] := va_S.rf
  have hl := lv_entry ([.ref (ad 0), .int p0, .int p1]) (n := 3) (Nat.le_of_ble_eq_true rfl)
  rw [lg_entry_eq]
  generalize (lg_sl ([.ref (ad 0), .int p0, .int p1]) ++ List.replicate (3 - (lg_sl ([.ref (ad 0), .int p0, .int p1])).length) Slot.unset).toArray = ls at hl ⊢
  have hl : lv_has ls 3 [(0, .ref (ad 0)), (1, .int p0), (2, .int p1)] := hl
  obtain ⟨Q, hQ⟩ : ∃ Q : State → Prop, Q = (vx_MQ below (va_Qi (fun (r : Int32) (u : pS) => f_X0_twoTo S p0 p1 = .ok (r, u)) (fun (u : pS) t => va_P D pCl (pmW cI cJ ad u) t.heap ∧ va_D A (pmW cI cJ ad u)) A) (vx_X (fun k : Nat => f_X0_twoTo S p0 p1 = .error k) (fun E k _ => E = exN k) (fun _ => False)) ([.ref (ad 0), .int p0, .int p1] : List Value).toArray s 2 12 A) := ⟨_, rfl⟩
  rw [← hQ]
  have hR : f_X0_twoTo S p0 p1 = f_X0_twoTo S p0 p1 := rfl
  refine lv_iload_n hx hb dX0_twoTo_0 rfl (lv_at hl 1 rfl) ?_
  refine vx_callv (vx_runS (As := [.int p0]) (rest := []) ⟨hx, hb, hml, hown, hts⟩ (met_X0_checkSlot l hfl p0) (va_cwS 1 hts gX0_twoTo_X0_checkSlot rfl rfl rfl (by decide +kernel) ⟨Nat.le_of_ble_eq_true rfl, Nat.le_of_ble_eq_true rfl⟩) ⟨fun a U g mk q => ⟨q.1, xE_calling q.2⟩, fun U hU hW => ⟨rfl, xE_at hE hS hU hW⟩⟩ rfl rfl hl.1 rfl (lv_room (Nat.le_of_ble_eq_true rfl)) dX0_twoTo_1 ⟨Nat.le_of_ble_eq_true rfl, Nat.le_of_ble_eq_true rfl⟩) hS (fun q _ h => h.elim) (fun q h => h.elim) (fun q _ h => h.elim) (fun E ce q9 k1 t H locs ht hvm hw1 hB hz hk hS hc9 hv9 hf9 => ?_) (fun u1 t H locs ht hvm hw1 hB hz hk hS => ?_)
  · skip
    rw [hQ]
    exact vx_out (fun x hx => (hno x hx).elim) hlocks hc9 hv9 hf9 (fun t9 ht9 hvm9 => ⟨k1, (hR.trans (by simp only [f_X0_twoTo, hw1])), hB, hS.F ht9⟩) (fun z hz => (hS.2.2 z hz).elim) (Nat.le_of_ble_eq_true rfl) (Nat.le_of_ble_eq_true rfl)
  · skip
    have hP := hP.kept (fun k q hk9 => hk _ (vx_lt hP hk9) (fun h => h))
    have hi1 : vp_in p0 8 := slot_in hw1
    refine lv_iload_n hx hb dX0_twoTo_4 rfl (lv_at hl 2 rfl) ?_
    refine lv_sipush (v := (-1000)) hx hb dX0_twoTo_5 (by decide) ?_
    refine lv_sipush (v := 1000) hx hb dX0_twoTo_8 (by decide) ?_
    refine vx_callv (vx_runS (As := [.int p1, .int (-1000), .int 1000]) (rest := []) ⟨hx, hb, hml, hown, hts⟩ (met_X0_checkRange l hfl p1 (-1000) 1000) (va_cwS 3 hts gX0_twoTo_X0_checkRange rfl rfl rfl (by decide +kernel) ⟨Nat.le_of_ble_eq_true rfl, Nat.le_of_ble_eq_true rfl⟩) ⟨fun a U g mk q => ⟨q.1, xE_calling q.2⟩, fun U hU hW => ⟨rfl, xE_at hE hS hU hW⟩⟩ rfl rfl hl.1 rfl (lv_room (Nat.le_of_ble_eq_true rfl)) dX0_twoTo_11 ⟨Nat.le_of_ble_eq_true rfl, Nat.le_of_ble_eq_true rfl⟩) hS (fun q _ h => h.elim) (fun q h => h.elim) (fun q _ h => h.elim) (fun E ce q9 k11 t H locs ht hvm hw11 hB hz hk hS hc9 hv9 hf9 => ?_) (fun u11 t H locs ht hvm hw11 hB hz hk hS => ?_)
    · skip
      rw [hQ]
      exact vx_out (fun x hx => (hno x hx).elim) hlocks hc9 hv9 hf9 (fun t9 ht9 hvm9 => ⟨k11, (hR.trans (by simp only [f_X0_twoTo, hw1, hw11])), hB, hS.F ht9⟩) (fun z hz => (hS.2.2 z hz).elim) (Nat.le_of_ble_eq_true rfl) (Nat.le_of_ble_eq_true rfl)
    · skip
      have hP := hP.kept (fun k q hk9 => hk _ (vx_lt hP hk9) (fun h => h))
      refine lv_aload_n hx hb dX0_twoTo_14 rfl (lv_at hl 0 rfl) ?_
      refine lv_iload_n hx hb dX0_twoTo_15 rfl (lv_at hl 1 rfl) ?_
      refine lv_iconst (v := 1) hx hb dX0_twoTo_16 (by decide) ?_
      refine lv_lconst (v := 1) hx hb dX0_twoTo_17 rfl ?_
      refine lv_iload_n hx hb dX0_twoTo_18 rfl (lv_at hl 2 rfl) ?_
      have hS : va_S A s.heap H locs := xS_mono hS
      refine va_calli (va_runV (As := [.int p0, .int 1, .long 1, .int p1]) (rest := []) ⟨hx, hb, hml, hown, hts⟩ (met_X0_become l D cI cJ ad A S p0 1 1 p1 (hi1) hn) (cwV 4 hts gX0_twoTo_X0_become rfl rfl rfl (by decide +kernel) ⟨Nat.le_of_ble_eq_true rfl, Nat.le_of_ble_eq_true rfl⟩) ⟨fun a U g mk q => ⟨q.1, b0R_calling q.2.1, q.2.2⟩, va_recv hK hP (ci := 0) (q0 := 0) rfl rfl, fun U hU hW => ⟨rfl, b0R_at hP hK hU hW, hD⟩⟩ rfl rfl hl.1 rfl (lv_room (Nat.le_of_ble_eq_true rfl)) dX0_twoTo_19 ⟨Nat.le_of_ble_eq_true rfl, Nat.le_of_ble_eq_true rfl⟩) hS (fun q _ h => h) (fun q h => h) (fun r19 u19 t H locs ht hvm hw19 hB hz hk hS => ?_)
      obtain ⟨hP, hD⟩ := hB
      rw [ht] at hP
      rw [hQ]
      refine vx_ret ?_
      exact W.iret (v := r19) hx hb hr (fun t ht hW => ⟨⟨r19, u19, rfl, (hR.trans (by simp only [f_X0_twoTo, hw1, hw11, hw19])), by rw [ht]; exact hP, hD⟩, hS.F ht⟩) hS.2.2 dX0_twoTo_22

def g_X0_raise_58 (S : pS) (p0 : Int32) (p1 : Int32) (p2 : Int32) : Except Nat (Int32 × pS) := (if ((f_X0_isTold ((odS S) p0.toNatClampNeg) ((shS S) p0.toNatClampNeg) p1) : Int32) = 0 then (.error 5) else (match f_X0_become S p2 (f_X0_powerSign ((sgS S) p0.toNatClampNeg) p1) (f_X0_powerOdd ((odS S) p0.toNatClampNeg) p1) (((shS S) p0.toNatClampNeg) * p1) with | (r117, u117) => (.ok (r117, u117))))
def f_X0_raise (S : pS) (p0 : Int32) (p1 : Int32) (p2 : Int32) : Except Nat (Int32 × pS) := (match f_X0_checkSlot p0 with | .error k => .error k | .ok _ => (match f_X0_checkSlot p2 with | .error k => .error k | .ok _ => (match f_X0_checkRange p1 (-64) 64 with | .error k => .error k | .ok _ => (if (0 : Int32) ≤ ((shS S) p0.toNatClampNeg) then (if (((sgS S) p0.toNatClampNeg) : Int32) = 0 then (if (0 : Int32) ≤ p1 then (g_X0_raise_58 S p0 p1 p2) else (.error 4)) else (g_X0_raise_58 S p0 p1 p2)) else (.error 3)))))
set_option maxHeartbeats 4000000 in
set_option maxRecDepth 100000 in
theorem met_X0_raise (l : Launch) (hfl : l.stackTraces = false) (D : va_G) (cI cJ : ClassId) (ad : Nat → Nat) (A : Nat → Prop) (S : pS) (p0 : Int32) (p1 : Int32) (p2 : Int32) (hn : vp_in (nxS S) 8) : vx_Met l yX0_raise wsX0_raise ({ frames := 7, cells := 4, slots := 24, locals := 106 } : Room) (va_Pc [.ref (ad 0), .int p0, .int p1, .int p2] (fun U => b0R D cI cJ ad S U ∧ va_D A (pmW cI cJ ad S) ∧ xE (fun _ => False) U U.heap)) (va_Qi (fun (r : Int32) (u : pS) => f_X0_raise S p0 p1 p2 = .ok (r, u)) (fun (u : pS) t => va_P D pCl (pmW cI cJ ad u) t.heap ∧ va_D A (pmW cI cJ ad u)) A) (vx_X (fun k : Nat => f_X0_raise S p0 p1 p2 = .error k) (fun E k _ => E = exN k) (fun _ => False)) 4 24 A := by
  refine vx_ofW (cc := cX0_raise) (maxL := 4) (ret := (some .int)) (by decide) rfl ?_
  intro p e s m args below meth c s₁ B hml hno hv
  obtain ⟨rfl, ⟨hP, hK⟩, hD, hE⟩ := hv
  have hx := B.exec
  have hb := B.bytes
  have hr := B.returns
  have hts := atoms_spec (ws := wsX0_raise) B.pre
  have hown : s.vm.findClass RX0 = some m.cls := findClass_of_methodNamed B.named
  have hlocks := B.notSynchronized
  have hS : va_S (fun _ => False) s.heap s.heap [] := va_S.rf
  have hin : ∀ w ∈ wsX00, w ∈ wsX0_raise := by decide +kernel
  have hf9 := hts (.fieldLink RX0 9 "Powermill" "signs" "[I") (by decide +kernel)
  have hf13 := hts (.fieldLink RX0 13 "Powermill" "odds" "[J") (by decide +kernel)
  have hf17 := hts (.fieldLink RX0 17 "Powermill" "shifts" "[I") (by decide +kernel)
  have hl := lv_entry ([.ref (ad 0), .int p0, .int p1, .int p2]) (n := 4) (Nat.le_of_ble_eq_true rfl)
  rw [lg_entry_eq]
  generalize (lg_sl ([.ref (ad 0), .int p0, .int p1, .int p2]) ++ List.replicate (4 - (lg_sl ([.ref (ad 0), .int p0, .int p1, .int p2])).length) Slot.unset).toArray = ls at hl ⊢
  have hl : lv_has ls 4 [(0, .ref (ad 0)), (1, .int p0), (2, .int p1), (3, .int p2)] := hl
  obtain ⟨Q, hQ⟩ : ∃ Q : State → Prop, Q = (vx_MQ below (va_Qi (fun (r : Int32) (u : pS) => f_X0_raise S p0 p1 p2 = .ok (r, u)) (fun (u : pS) t => va_P D pCl (pmW cI cJ ad u) t.heap ∧ va_D A (pmW cI cJ ad u)) A) (vx_X (fun k : Nat => f_X0_raise S p0 p1 p2 = .error k) (fun E k _ => E = exN k) (fun _ => False)) ([.ref (ad 0), .int p0, .int p1, .int p2] : List Value).toArray s 4 24 A) := ⟨_, rfl⟩
  rw [← hQ]
  have hR : f_X0_raise S p0 p1 p2 = f_X0_raise S p0 p1 p2 := rfl
  refine lv_iload_n hx hb dX0_raise_0 rfl (lv_at hl 1 rfl) ?_
  refine vx_callv (vx_runS (As := [.int p0]) (rest := []) ⟨hx, hb, hml, hown, hts⟩ (met_X0_checkSlot l hfl p0) (va_cwS 1 hts gX0_raise_X0_checkSlot rfl rfl rfl (by decide +kernel) ⟨Nat.le_of_ble_eq_true rfl, Nat.le_of_ble_eq_true rfl⟩) ⟨fun a U g mk q => ⟨q.1, xE_calling q.2⟩, fun U hU hW => ⟨rfl, xE_at hE hS hU hW⟩⟩ rfl rfl hl.1 rfl (lv_room (Nat.le_of_ble_eq_true rfl)) dX0_raise_1 ⟨Nat.le_of_ble_eq_true rfl, Nat.le_of_ble_eq_true rfl⟩) hS (fun q _ h => h.elim) (fun q h => h.elim) (fun q _ h => h.elim) (fun E ce q9 k1 t H locs ht hvm hw1 hB hz hk hS hc9 hv9 hf9 => ?_) (fun u1 t H locs ht hvm hw1 hB hz hk hS => ?_)
  · skip
    rw [hQ]
    exact vx_out (fun x hx => (hno x hx).elim) hlocks hc9 hv9 hf9 (fun t9 ht9 hvm9 => ⟨k1, (hR.trans (by simp only [f_X0_raise, hw1])), hB, hS.F ht9⟩) (fun z hz => (hS.2.2 z hz).elim) (Nat.le_of_ble_eq_true rfl) (Nat.le_of_ble_eq_true rfl)
  · skip
    have hP := hP.kept (fun k q hk9 => hk _ (vx_lt hP hk9) (fun h => h))
    have hi1 : vp_in p0 8 := slot_in hw1
    refine lv_iload_n hx hb dX0_raise_4 rfl (lv_at hl 3 rfl) ?_
    refine vx_callv (vx_runS (As := [.int p2]) (rest := []) ⟨hx, hb, hml, hown, hts⟩ (met_X0_checkSlot l hfl p2) (va_cwS 1 hts gX0_raise_X0_checkSlot rfl rfl rfl (by decide +kernel) ⟨Nat.le_of_ble_eq_true rfl, Nat.le_of_ble_eq_true rfl⟩) ⟨fun a U g mk q => ⟨q.1, xE_calling q.2⟩, fun U hU hW => ⟨rfl, xE_at hE hS hU hW⟩⟩ rfl rfl hl.1 rfl (lv_room (Nat.le_of_ble_eq_true rfl)) dX0_raise_5 ⟨Nat.le_of_ble_eq_true rfl, Nat.le_of_ble_eq_true rfl⟩) hS (fun q _ h => h.elim) (fun q h => h.elim) (fun q _ h => h.elim) (fun E ce q9 k5 t H locs ht hvm hw5 hB hz hk hS hc9 hv9 hf9 => ?_) (fun u5 t H locs ht hvm hw5 hB hz hk hS => ?_)
    · skip
      rw [hQ]
      exact vx_out (fun x hx => (hno x hx).elim) hlocks hc9 hv9 hf9 (fun t9 ht9 hvm9 => ⟨k5, (hR.trans (by simp only [f_X0_raise, hw1, hw5])), hB, hS.F ht9⟩) (fun z hz => (hS.2.2 z hz).elim) (Nat.le_of_ble_eq_true rfl) (Nat.le_of_ble_eq_true rfl)
    · skip
      have hP := hP.kept (fun k q hk9 => hk _ (vx_lt hP hk9) (fun h => h))
      have hi5 : vp_in p2 8 := slot_in hw5
      refine lv_iload_n hx hb dX0_raise_8 rfl (lv_at hl 2 rfl) ?_
      refine lv_bipush (v := (-64)) hx hb dX0_raise_9 (by decide) ?_
      refine lv_bipush (v := 64) hx hb dX0_raise_11 (by decide) ?_
      refine vx_callv (vx_runS (As := [.int p1, .int (-64), .int 64]) (rest := []) ⟨hx, hb, hml, hown, hts⟩ (met_X0_checkRange l hfl p1 (-64) 64) (va_cwS 3 hts gX0_raise_X0_checkRange rfl rfl rfl (by decide +kernel) ⟨Nat.le_of_ble_eq_true rfl, Nat.le_of_ble_eq_true rfl⟩) ⟨fun a U g mk q => ⟨q.1, xE_calling q.2⟩, fun U hU hW => ⟨rfl, xE_at hE hS hU hW⟩⟩ rfl rfl hl.1 rfl (lv_room (Nat.le_of_ble_eq_true rfl)) dX0_raise_13 ⟨Nat.le_of_ble_eq_true rfl, Nat.le_of_ble_eq_true rfl⟩) hS (fun q _ h => h.elim) (fun q h => h.elim) (fun q _ h => h.elim) (fun E ce q9 k13 t H locs ht hvm hw13 hB hz hk hS hc9 hv9 hf9 => ?_) (fun u13 t H locs ht hvm hw13 hB hz hk hS => ?_)
      · skip
        rw [hQ]
        exact vx_out (fun x hx => (hno x hx).elim) hlocks hc9 hv9 hf9 (fun t9 ht9 hvm9 => ⟨k13, (hR.trans (by simp only [f_X0_raise, hw1, hw5, hw13])), hB, hS.F ht9⟩) (fun z hz => (hS.2.2 z hz).elim) (Nat.le_of_ble_eq_true rfl) (Nat.le_of_ble_eq_true rfl)
      · skip
        have hP := hP.kept (fun k q hk9 => hk _ (vx_lt hP hk9) (fun h => h))
        refine lv_aload_n hx hb dX0_raise_16 rfl (lv_at hl 0 rfl) ?_
        refine va_get (D := D) (ci := 0) (v := .ref (ad 3)) (C := RX0) (T := TX0) (N := 9) hx hb hts hin hown hK hP 0 rfl rfl 2 (by decide) hf17 (fun _ h9 => h9) rfl dX0_raise_17 ?_
        refine lv_iload_n hx hb dX0_raise_20 rfl (lv_at hl 1 rfl) ?_
        refine va_iald hx hb hK hP 3 0 rfl rfl hi1 dX0_raise_21 ?_
        refine lv_if_ge (tgt := 35) hx hb dX0_raise_22 (by decide) (fun c22 => ?_) (fun c22 => ?_)
        · skip
          refine lv_aload_n hx hb dX0_raise_35 rfl (lv_at hl 0 rfl) ?_
          refine va_get (D := D) (ci := 0) (v := .ref (ad 1)) (C := RX0) (T := TX0) (N := 9) hx hb hts hin hown hK hP 0 rfl rfl 0 (by decide) hf9 (fun _ h9 => h9) rfl dX0_raise_36 ?_
          refine lv_iload_n hx hb dX0_raise_39 rfl (lv_at hl 1 rfl) ?_
          refine va_iald hx hb hK hP 1 0 rfl rfl hi1 dX0_raise_40 ?_
          have J58 : ∀ (ls : Array Slot) (H : Heap) (locs : List Loc), lv_has ls 4 [(0, .ref (ad 0)), (1, .int p0), (2, .int p1), (3, .int p2)] → va_S (fun _ => False) s.heap H locs → va_P D pCl (pmW cI cJ ad S) H → va_D A (pmW cI cJ ad S) → f_X0_raise S p0 p1 p2 = g_X0_raise_58 S p0 p1 p2 → W p l e (headSpec wsX0_raise ({ frames := 7, cells := 4, slots := 24, locals := 106 } : Room)).room s m ([.ref (ad 0), .int p0, .int p1, .int p2] : List Value).toArray below meth c H locs 3 18 Q (F0 m 58 ls []) := by
            intro ls H locs hl hS hP hD hR
            refine lv_aload_n hx hb dX0_raise_58 rfl (lv_at hl 0 rfl) ?_
            refine va_get (D := D) (ci := 0) (v := .ref (ad 2)) (C := RX0) (T := TX0) (N := 9) hx hb hts hin hown hK hP 0 rfl rfl 1 (by decide) hf13 (fun _ h9 => h9) rfl dX0_raise_59 ?_
            refine lv_iload_n hx hb dX0_raise_62 rfl (lv_at hl 1 rfl) ?_
            refine va_lald hx hb hK hP 2 1 rfl rfl hi1 dX0_raise_63 ?_
            refine lv_aload_n hx hb dX0_raise_64 rfl (lv_at hl 0 rfl) ?_
            refine va_get (D := D) (ci := 0) (v := .ref (ad 3)) (C := RX0) (T := TX0) (N := 9) hx hb hts hin hown hK hP 0 rfl rfl 2 (by decide) hf17 (fun _ h9 => h9) rfl dX0_raise_65 ?_
            refine lv_iload_n hx hb dX0_raise_68 rfl (lv_at hl 1 rfl) ?_
            refine va_iald hx hb hK hP 3 0 rfl rfl hi1 dX0_raise_69 ?_
            refine lv_iload_n hx hb dX0_raise_70 rfl (lv_at hl 2 rfl) ?_
            refine va_calli (va_runS (As := [.long ((odS S) p0.toNatClampNeg), .int ((shS S) p0.toNatClampNeg), .int p1]) (rest := []) ⟨hx, hb, hml, hown, hts⟩ (met_X0_isTold l ((odS S) p0.toNatClampNeg) ((shS S) p0.toNatClampNeg) p1) (va_cwS 3 hts gX0_raise_X0_isTold rfl rfl rfl (by decide +kernel) ⟨Nat.le_of_ble_eq_true rfl, Nat.le_of_ble_eq_true rfl⟩) ⟨fun a U g mk q => q, fun U hU hW => ⟨rfl, trivial⟩⟩ rfl rfl hl.1 rfl (lv_room (Nat.le_of_ble_eq_true rfl)) dX0_raise_71 ⟨Nat.le_of_ble_eq_true rfl, Nat.le_of_ble_eq_true rfl⟩) hS (fun q _ h => h.elim) (fun q h => h.elim) (fun r71 u71 t H locs ht hvm hw71 hB hz hk hS => ?_)
            obtain ⟨hw71, bz71⟩ := hw71
            subst hw71
            have hP := hP.kept (fun k q hk9 => hk _ (vx_lt hP hk9) (fun h => h))
            refine lv_if_ne (tgt := 87) hx hb dX0_raise_74 (by decide) (fun c74 => ?_) (fun c74 => ?_)
            · skip
              refine lv_aload_n hx hb dX0_raise_87 rfl (lv_at hl 0 rfl) ?_
              refine lv_iload_n hx hb dX0_raise_88 rfl (lv_at hl 3 rfl) ?_
              refine lv_aload_n hx hb dX0_raise_89 rfl (lv_at hl 0 rfl) ?_
              refine va_get (D := D) (ci := 0) (v := .ref (ad 1)) (C := RX0) (T := TX0) (N := 9) hx hb hts hin hown hK hP 0 rfl rfl 0 (by decide) hf9 (fun _ h9 => h9) rfl dX0_raise_90 ?_
              refine lv_iload_n hx hb dX0_raise_93 rfl (lv_at hl 1 rfl) ?_
              refine va_iald hx hb hK hP 1 0 rfl rfl hi1 dX0_raise_94 ?_
              refine lv_iload_n hx hb dX0_raise_95 rfl (lv_at hl 2 rfl) ?_
              refine va_calli (va_runS (As := [.int ((sgS S) p0.toNatClampNeg), .int p1]) (rest := [.int p2, .ref (ad 0)]) ⟨hx, hb, hml, hown, hts⟩ (met_X0_powerSign l ((sgS S) p0.toNatClampNeg) p1) (va_cwS 2 hts gX0_raise_X0_powerSign rfl rfl rfl (by decide +kernel) ⟨Nat.le_of_ble_eq_true rfl, Nat.le_of_ble_eq_true rfl⟩) ⟨fun a U g mk q => q, fun U hU hW => ⟨rfl, trivial⟩⟩ rfl rfl hl.1 rfl (lv_room (Nat.le_of_ble_eq_true rfl)) dX0_raise_96 ⟨Nat.le_of_ble_eq_true rfl, Nat.le_of_ble_eq_true rfl⟩) hS (fun q _ h => h.elim) (fun q h => h.elim) (fun r96 u96 t H locs ht hvm hw96 hB hz hk hS => ?_)
              subst hw96
              have hP := hP.kept (fun k q hk9 => hk _ (vx_lt hP hk9) (fun h => h))
              refine lv_aload_n hx hb dX0_raise_99 rfl (lv_at hl 0 rfl) ?_
              refine va_get (D := D) (ci := 0) (v := .ref (ad 2)) (C := RX0) (T := TX0) (N := 9) hx hb hts hin hown hK hP 0 rfl rfl 1 (by decide) hf13 (fun _ h9 => h9) rfl dX0_raise_100 ?_
              refine lv_iload_n hx hb dX0_raise_103 rfl (lv_at hl 1 rfl) ?_
              refine va_lald hx hb hK hP 2 1 rfl rfl hi1 dX0_raise_104 ?_
              refine lv_iload_n hx hb dX0_raise_105 rfl (lv_at hl 2 rfl) ?_
              refine va_calll (va_runS (As := [.long ((odS S) p0.toNatClampNeg), .int p1]) (rest := [.int (f_X0_powerSign ((sgS S) p0.toNatClampNeg) p1), .int p2, .ref (ad 0)]) ⟨hx, hb, hml, hown, hts⟩ (met_X0_powerOdd l ((odS S) p0.toNatClampNeg) p1) (va_cwS 2 hts gX0_raise_X0_powerOdd rfl rfl rfl (by decide +kernel) ⟨Nat.le_of_ble_eq_true rfl, Nat.le_of_ble_eq_true rfl⟩) ⟨fun a U g mk q => q, fun U hU hW => ⟨rfl, trivial⟩⟩ rfl rfl hl.1 rfl (lv_room (Nat.le_of_ble_eq_true rfl)) dX0_raise_106 ⟨Nat.le_of_ble_eq_true rfl, Nat.le_of_ble_eq_true rfl⟩) hS (fun q _ h => h.elim) (fun q h => h.elim) (fun r106 u106 t H locs ht hvm hw106 hB hz hk hS => ?_)
              subst hw106
              have hP := hP.kept (fun k q hk9 => hk _ (vx_lt hP hk9) (fun h => h))
              refine lv_aload_n hx hb dX0_raise_109 rfl (lv_at hl 0 rfl) ?_
              refine va_get (D := D) (ci := 0) (v := .ref (ad 3)) (C := RX0) (T := TX0) (N := 9) hx hb hts hin hown hK hP 0 rfl rfl 2 (by decide) hf17 (fun _ h9 => h9) rfl dX0_raise_110 ?_
              refine lv_iload_n hx hb dX0_raise_113 rfl (lv_at hl 1 rfl) ?_
              refine va_iald hx hb hK hP 3 0 rfl rfl hi1 dX0_raise_114 ?_
              refine lv_iload_n hx hb dX0_raise_115 rfl (lv_at hl 2 rfl) ?_
              refine lv_imul hx hb dX0_raise_116 ?_
              have hS : va_S A s.heap H locs := xS_mono hS
              refine va_calli (va_runV (As := [.int p2, .int (f_X0_powerSign ((sgS S) p0.toNatClampNeg) p1), .long (f_X0_powerOdd ((odS S) p0.toNatClampNeg) p1), .int (((shS S) p0.toNatClampNeg) * p1)]) (rest := []) ⟨hx, hb, hml, hown, hts⟩ (met_X0_become l D cI cJ ad A S p2 (f_X0_powerSign ((sgS S) p0.toNatClampNeg) p1) (f_X0_powerOdd ((odS S) p0.toNatClampNeg) p1) (((shS S) p0.toNatClampNeg) * p1) (hi5) hn) (cwV 4 hts gX0_raise_X0_become rfl rfl rfl (by decide +kernel) ⟨Nat.le_of_ble_eq_true rfl, Nat.le_of_ble_eq_true rfl⟩) ⟨fun a U g mk q => ⟨q.1, b0R_calling q.2.1, q.2.2⟩, va_recv hK hP (ci := 0) (q0 := 0) rfl rfl, fun U hU hW => ⟨rfl, b0R_at hP hK hU hW, hD⟩⟩ rfl rfl hl.1 rfl (lv_room (Nat.le_of_ble_eq_true rfl)) dX0_raise_117 ⟨Nat.le_of_ble_eq_true rfl, Nat.le_of_ble_eq_true rfl⟩) hS (fun q _ h => h) (fun q h => h) (fun r117 u117 t H locs ht hvm hw117 hB hz hk hS => ?_)
              obtain ⟨hP, hD⟩ := hB
              rw [ht] at hP
              refine W.widen (k := 4) (n := 24) (Nat.le_of_ble_eq_true rfl) (Nat.le_of_ble_eq_true rfl) ?_
              rw [hQ]
              refine vx_ret ?_
              exact W.iret (v := r117) hx hb hr (fun t ht hW => ⟨⟨r117, u117, rfl, (hR.trans (by simp only [g_X0_raise_58, if_neg c74, hw117])), by rw [ht]; exact hP, hD⟩, hS.F ht⟩) hS.2.2 dX0_raise_120
            · skip
              obtain ⟨sa, hstr⟩ := hE.2.2.1 (95, "the power is not told") (by decide +kernel)
              rw [hQ]
              exact vx_throwS hx hb hfl (own := RX0) (cls := "java/lang/UnsupportedOperationException") (text := "the power is not told") (names := ["java/lang/RuntimeException", "java/lang/Exception"]) (ik := 93) (is := 95) (ic := 97) hown (by decide +kernel) (by decide +kernel) (hts _ (by decide +kernel)) (hts _ (by decide +kernel)) hstr (vx_hat (fun w h => hts w ((by decide +kernel : ∀ w ∈ (vx_atS RX0 97 "java/lang/UnsupportedOperationException" ["java/lang/RuntimeException", "java/lang/Exception"]).filter goodWord, w ∈ wsX0_raise) w h)) (by decide +kernel) (vx_c (va_Nw.use rfl (hE.2.2.2.1 "java/lang/UnsupportedOperationException" (by decide +kernel))) (vx_c (va_Nw.use rfl (hE.2.2.2.2 "java/lang/RuntimeException" (by decide +kernel))) (vx_c (va_Nw.use rfl (hE.2.2.2.2 "java/lang/Exception" (by decide +kernel))) (vx_c (va_Nw.use rfl (hE.2.2.2.2 "java/lang/Throwable" (by decide +kernel))) vx_n))))) (by decide +kernel) hE.1 hE.2.1 hS (by rw [hml]; exact hl.1) dX0_raise_77 dX0_raise_80 dX0_raise_81 dX0_raise_83 dX0_raise_86 (fun x hx => (hno x hx).elim) (Nat.le_of_ble_eq_true rfl) (Nat.le_of_ble_eq_true rfl) (Nat.le_of_ble_eq_true rfl) (Nat.le_of_ble_eq_true rfl) hlocks (fun t hvm hz hk => ⟨5, (hR.trans (by simp only [g_X0_raise_58, if_pos c74])), rfl, ⟨Nat.le_trans hS.1 hz, fun q h1 h2 => (hk q (Nat.lt_of_lt_of_le h1 hS.1)).trans (hS.2.1 q h1 h2)⟩⟩) (fun z hz => (hS.2.2 z hz).elim) (Nat.le_of_ble_eq_true rfl) (Nat.le_of_ble_eq_true rfl)
          refine lv_if_ne (tgt := 58) hx hb dX0_raise_41 (by decide) (fun c41 => ?_) (fun c41 => ?_)
          · skip
            exact J58 ls _ _ (lv_sub hl [0, 1, 2, 3] rfl) hS hP hD (hR.trans (by simp only [f_X0_raise, hw1, hw5, hw13, if_pos c22, if_neg c41]))
          · skip
            refine lv_iload_n hx hb dX0_raise_44 rfl (lv_at hl 2 rfl) ?_
            refine lv_if_ge (tgt := 58) hx hb dX0_raise_45 (by decide) (fun c45 => ?_) (fun c45 => ?_)
            · skip
              exact J58 ls _ _ (lv_sub hl [0, 1, 2, 3] rfl) hS hP hD (hR.trans (by simp only [f_X0_raise, hw1, hw5, hw13, if_pos c22, if_pos c41, if_pos c45]))
            · skip
              obtain ⟨sa, hstr⟩ := hE.2.2.1 (86, "1 divided by 0") (by decide +kernel)
              rw [hQ]
              exact vx_throwS hx hb hfl (own := RX0) (cls := "java/lang/ArithmeticException") (text := "1 divided by 0") (names := ["java/lang/RuntimeException", "java/lang/Exception"]) (ik := 84) (is := 86) (ic := 88) hown (by decide +kernel) (by decide +kernel) (hts _ (by decide +kernel)) (hts _ (by decide +kernel)) hstr (vx_hat (fun w h => hts w ((by decide +kernel : ∀ w ∈ (vx_atS RX0 88 "java/lang/ArithmeticException" ["java/lang/RuntimeException", "java/lang/Exception"]).filter goodWord, w ∈ wsX0_raise) w h)) (by decide +kernel) (vx_c (va_Nw.use rfl (hE.2.2.2.1 "java/lang/ArithmeticException" (by decide +kernel))) (vx_c (va_Nw.use rfl (hE.2.2.2.2 "java/lang/RuntimeException" (by decide +kernel))) (vx_c (va_Nw.use rfl (hE.2.2.2.2 "java/lang/Exception" (by decide +kernel))) (vx_c (va_Nw.use rfl (hE.2.2.2.2 "java/lang/Throwable" (by decide +kernel))) vx_n))))) (by decide +kernel) hE.1 hE.2.1 hS (by rw [hml]; exact hl.1) dX0_raise_48 dX0_raise_51 dX0_raise_52 dX0_raise_54 dX0_raise_57 (fun x hx => (hno x hx).elim) (Nat.le_of_ble_eq_true rfl) (Nat.le_of_ble_eq_true rfl) (Nat.le_of_ble_eq_true rfl) (Nat.le_of_ble_eq_true rfl) hlocks (fun t hvm hz hk => ⟨4, (hR.trans (by simp only [f_X0_raise, hw1, hw5, hw13, if_pos c22, if_pos c41, if_neg c45])), rfl, ⟨Nat.le_trans hS.1 hz, fun q h1 h2 => (hk q (Nat.lt_of_lt_of_le h1 hS.1)).trans (hS.2.1 q h1 h2)⟩⟩) (fun z hz => (hS.2.2 z hz).elim) (Nat.le_of_ble_eq_true rfl) (Nat.le_of_ble_eq_true rfl)
        · skip
          obtain ⟨sa, hstr⟩ := hE.2.2.1 (79, "the base is not whole") (by decide +kernel)
          rw [hQ]
          exact vx_throwS hx hb hfl (own := RX0) (cls := "java/lang/IllegalStateException") (text := "the base is not whole") (names := ["java/lang/RuntimeException", "java/lang/Exception"]) (ik := 77) (is := 79) (ic := 81) hown (by decide +kernel) (by decide +kernel) (hts _ (by decide +kernel)) (hts _ (by decide +kernel)) hstr (vx_hat (fun w h => hts w ((by decide +kernel : ∀ w ∈ (vx_atS RX0 81 "java/lang/IllegalStateException" ["java/lang/RuntimeException", "java/lang/Exception"]).filter goodWord, w ∈ wsX0_raise) w h)) (by decide +kernel) (vx_c (va_Nw.use rfl (hE.2.2.2.1 "java/lang/IllegalStateException" (by decide +kernel))) (vx_c (va_Nw.use rfl (hE.2.2.2.2 "java/lang/RuntimeException" (by decide +kernel))) (vx_c (va_Nw.use rfl (hE.2.2.2.2 "java/lang/Exception" (by decide +kernel))) (vx_c (va_Nw.use rfl (hE.2.2.2.2 "java/lang/Throwable" (by decide +kernel))) vx_n))))) (by decide +kernel) hE.1 hE.2.1 hS (by rw [hml]; exact hl.1) dX0_raise_25 dX0_raise_28 dX0_raise_29 dX0_raise_31 dX0_raise_34 (fun x hx => (hno x hx).elim) (Nat.le_of_ble_eq_true rfl) (Nat.le_of_ble_eq_true rfl) (Nat.le_of_ble_eq_true rfl) (Nat.le_of_ble_eq_true rfl) hlocks (fun t hvm hz hk => ⟨3, (hR.trans (by simp only [f_X0_raise, hw1, hw5, hw13, if_neg c22])), rfl, ⟨Nat.le_trans hS.1 hz, fun q h1 h2 => (hk q (Nat.lt_of_lt_of_le h1 hS.1)).trans (hS.2.1 q h1 h2)⟩⟩) (fun z hz => (hS.2.2 z hz).elim) (Nat.le_of_ble_eq_true rfl) (Nat.le_of_ble_eq_true rfl)

def f_X0_copy (S : pS) (p0 : Int32) (p1 : Int32) : Except Nat (Int32 × pS) := (match f_X0_checkSlot p0 with | .error k => .error k | .ok _ => (match f_X0_checkSlot p1 with | .error k => .error k | .ok _ => (match f_X0_become S p1 ((sgS S) p0.toNatClampNeg) ((odS S) p0.toNatClampNeg) ((shS S) p0.toNatClampNeg) with | (r28, u28) => (.ok (r28, u28)))))
set_option maxHeartbeats 4000000 in
set_option maxRecDepth 100000 in
theorem met_X0_copy (l : Launch) (hfl : l.stackTraces = false) (D : va_G) (cI cJ : ClassId) (ad : Nat → Nat) (A : Nat → Prop) (S : pS) (p0 : Int32) (p1 : Int32) (hn : vp_in (nxS S) 8) : vx_Met l yX0_copy wsX0_copy ({ frames := 7, cells := 2, slots := 12, locals := 104 } : Room) (va_Pc [.ref (ad 0), .int p0, .int p1] (fun U => b0R D cI cJ ad S U ∧ va_D A (pmW cI cJ ad S) ∧ xE (fun _ => False) U U.heap)) (va_Qi (fun (r : Int32) (u : pS) => f_X0_copy S p0 p1 = .ok (r, u)) (fun (u : pS) t => va_P D pCl (pmW cI cJ ad u) t.heap ∧ va_D A (pmW cI cJ ad u)) A) (vx_X (fun k : Nat => f_X0_copy S p0 p1 = .error k) (fun E k _ => E = exN k) (fun _ => False)) 2 12 A := by
  refine vx_ofW (cc := cX0_copy) (maxL := 3) (ret := (some .int)) (by decide) rfl ?_
  intro p e s m args below meth c s₁ B hml hno hv
  obtain ⟨rfl, ⟨hP, hK⟩, hD, hE⟩ := hv
  have hx := B.exec
  have hb := B.bytes
  have hr := B.returns
  have hts := atoms_spec (ws := wsX0_copy) B.pre
  have hown : s.vm.findClass RX0 = some m.cls := findClass_of_methodNamed B.named
  have hlocks := B.notSynchronized
  have hS : va_S (fun _ => False) s.heap s.heap [] := va_S.rf
  have hin : ∀ w ∈ wsX00, w ∈ wsX0_copy := by decide +kernel
  have hf9 := hts (.fieldLink RX0 9 "Powermill" "signs" "[I") (by decide +kernel)
  have hf13 := hts (.fieldLink RX0 13 "Powermill" "odds" "[J") (by decide +kernel)
  have hf17 := hts (.fieldLink RX0 17 "Powermill" "shifts" "[I") (by decide +kernel)
  have hl := lv_entry ([.ref (ad 0), .int p0, .int p1]) (n := 3) (Nat.le_of_ble_eq_true rfl)
  rw [lg_entry_eq]
  generalize (lg_sl ([.ref (ad 0), .int p0, .int p1]) ++ List.replicate (3 - (lg_sl ([.ref (ad 0), .int p0, .int p1])).length) Slot.unset).toArray = ls at hl ⊢
  have hl : lv_has ls 3 [(0, .ref (ad 0)), (1, .int p0), (2, .int p1)] := hl
  obtain ⟨Q, hQ⟩ : ∃ Q : State → Prop, Q = (vx_MQ below (va_Qi (fun (r : Int32) (u : pS) => f_X0_copy S p0 p1 = .ok (r, u)) (fun (u : pS) t => va_P D pCl (pmW cI cJ ad u) t.heap ∧ va_D A (pmW cI cJ ad u)) A) (vx_X (fun k : Nat => f_X0_copy S p0 p1 = .error k) (fun E k _ => E = exN k) (fun _ => False)) ([.ref (ad 0), .int p0, .int p1] : List Value).toArray s 2 12 A) := ⟨_, rfl⟩
  rw [← hQ]
  have hR : f_X0_copy S p0 p1 = f_X0_copy S p0 p1 := rfl
  refine lv_iload_n hx hb dX0_copy_0 rfl (lv_at hl 1 rfl) ?_
  refine vx_callv (vx_runS (As := [.int p0]) (rest := []) ⟨hx, hb, hml, hown, hts⟩ (met_X0_checkSlot l hfl p0) (va_cwS 1 hts gX0_copy_X0_checkSlot rfl rfl rfl (by decide +kernel) ⟨Nat.le_of_ble_eq_true rfl, Nat.le_of_ble_eq_true rfl⟩) ⟨fun a U g mk q => ⟨q.1, xE_calling q.2⟩, fun U hU hW => ⟨rfl, xE_at hE hS hU hW⟩⟩ rfl rfl hl.1 rfl (lv_room (Nat.le_of_ble_eq_true rfl)) dX0_copy_1 ⟨Nat.le_of_ble_eq_true rfl, Nat.le_of_ble_eq_true rfl⟩) hS (fun q _ h => h.elim) (fun q h => h.elim) (fun q _ h => h.elim) (fun E ce q9 k1 t H locs ht hvm hw1 hB hz hk hS hc9 hv9 hf9 => ?_) (fun u1 t H locs ht hvm hw1 hB hz hk hS => ?_)
  · skip
    rw [hQ]
    exact vx_out (fun x hx => (hno x hx).elim) hlocks hc9 hv9 hf9 (fun t9 ht9 hvm9 => ⟨k1, (hR.trans (by simp only [f_X0_copy, hw1])), hB, hS.F ht9⟩) (fun z hz => (hS.2.2 z hz).elim) (Nat.le_of_ble_eq_true rfl) (Nat.le_of_ble_eq_true rfl)
  · skip
    have hP := hP.kept (fun k q hk9 => hk _ (vx_lt hP hk9) (fun h => h))
    have hi1 : vp_in p0 8 := slot_in hw1
    refine lv_iload_n hx hb dX0_copy_4 rfl (lv_at hl 2 rfl) ?_
    refine vx_callv (vx_runS (As := [.int p1]) (rest := []) ⟨hx, hb, hml, hown, hts⟩ (met_X0_checkSlot l hfl p1) (va_cwS 1 hts gX0_copy_X0_checkSlot rfl rfl rfl (by decide +kernel) ⟨Nat.le_of_ble_eq_true rfl, Nat.le_of_ble_eq_true rfl⟩) ⟨fun a U g mk q => ⟨q.1, xE_calling q.2⟩, fun U hU hW => ⟨rfl, xE_at hE hS hU hW⟩⟩ rfl rfl hl.1 rfl (lv_room (Nat.le_of_ble_eq_true rfl)) dX0_copy_5 ⟨Nat.le_of_ble_eq_true rfl, Nat.le_of_ble_eq_true rfl⟩) hS (fun q _ h => h.elim) (fun q h => h.elim) (fun q _ h => h.elim) (fun E ce q9 k5 t H locs ht hvm hw5 hB hz hk hS hc9 hv9 hf9 => ?_) (fun u5 t H locs ht hvm hw5 hB hz hk hS => ?_)
    · skip
      rw [hQ]
      exact vx_out (fun x hx => (hno x hx).elim) hlocks hc9 hv9 hf9 (fun t9 ht9 hvm9 => ⟨k5, (hR.trans (by simp only [f_X0_copy, hw1, hw5])), hB, hS.F ht9⟩) (fun z hz => (hS.2.2 z hz).elim) (Nat.le_of_ble_eq_true rfl) (Nat.le_of_ble_eq_true rfl)
    · skip
      have hP := hP.kept (fun k q hk9 => hk _ (vx_lt hP hk9) (fun h => h))
      have hi5 : vp_in p1 8 := slot_in hw5
      refine lv_aload_n hx hb dX0_copy_8 rfl (lv_at hl 0 rfl) ?_
      refine lv_iload_n hx hb dX0_copy_9 rfl (lv_at hl 2 rfl) ?_
      refine lv_aload_n hx hb dX0_copy_10 rfl (lv_at hl 0 rfl) ?_
      refine va_get (D := D) (ci := 0) (v := .ref (ad 1)) (C := RX0) (T := TX0) (N := 9) hx hb hts hin hown hK hP 0 rfl rfl 0 (by decide) hf9 (fun _ h9 => h9) rfl dX0_copy_11 ?_
      refine lv_iload_n hx hb dX0_copy_14 rfl (lv_at hl 1 rfl) ?_
      refine va_iald hx hb hK hP 1 0 rfl rfl hi1 dX0_copy_15 ?_
      refine lv_aload_n hx hb dX0_copy_16 rfl (lv_at hl 0 rfl) ?_
      refine va_get (D := D) (ci := 0) (v := .ref (ad 2)) (C := RX0) (T := TX0) (N := 9) hx hb hts hin hown hK hP 0 rfl rfl 1 (by decide) hf13 (fun _ h9 => h9) rfl dX0_copy_17 ?_
      refine lv_iload_n hx hb dX0_copy_20 rfl (lv_at hl 1 rfl) ?_
      refine va_lald hx hb hK hP 2 1 rfl rfl hi1 dX0_copy_21 ?_
      refine lv_aload_n hx hb dX0_copy_22 rfl (lv_at hl 0 rfl) ?_
      refine va_get (D := D) (ci := 0) (v := .ref (ad 3)) (C := RX0) (T := TX0) (N := 9) hx hb hts hin hown hK hP 0 rfl rfl 2 (by decide) hf17 (fun _ h9 => h9) rfl dX0_copy_23 ?_
      refine lv_iload_n hx hb dX0_copy_26 rfl (lv_at hl 1 rfl) ?_
      refine va_iald hx hb hK hP 3 0 rfl rfl hi1 dX0_copy_27 ?_
      have hS : va_S A s.heap H locs := xS_mono hS
      refine va_calli (va_runV (As := [.int p1, .int ((sgS S) p0.toNatClampNeg), .long ((odS S) p0.toNatClampNeg), .int ((shS S) p0.toNatClampNeg)]) (rest := []) ⟨hx, hb, hml, hown, hts⟩ (met_X0_become l D cI cJ ad A S p1 ((sgS S) p0.toNatClampNeg) ((odS S) p0.toNatClampNeg) ((shS S) p0.toNatClampNeg) (hi5) hn) (cwV 4 hts gX0_copy_X0_become rfl rfl rfl (by decide +kernel) ⟨Nat.le_of_ble_eq_true rfl, Nat.le_of_ble_eq_true rfl⟩) ⟨fun a U g mk q => ⟨q.1, b0R_calling q.2.1, q.2.2⟩, va_recv hK hP (ci := 0) (q0 := 0) rfl rfl, fun U hU hW => ⟨rfl, b0R_at hP hK hU hW, hD⟩⟩ rfl rfl hl.1 rfl (lv_room (Nat.le_of_ble_eq_true rfl)) dX0_copy_28 ⟨Nat.le_of_ble_eq_true rfl, Nat.le_of_ble_eq_true rfl⟩) hS (fun q _ h => h) (fun q h => h) (fun r28 u28 t H locs ht hvm hw28 hB hz hk hS => ?_)
      obtain ⟨hP, hD⟩ := hB
      rw [ht] at hP
      rw [hQ]
      refine vx_ret ?_
      exact W.iret (v := r28) hx hb hr (fun t ht hW => ⟨⟨r28, u28, rfl, (hR.trans (by simp only [f_X0_copy, hw1, hw5, hw28])), by rw [ht]; exact hP, hD⟩, hS.F ht⟩) hS.2.2 dX0_copy_31

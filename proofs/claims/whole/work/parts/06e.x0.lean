theorem undo_ix {n : Int32} (h : vp_in n 8) : vp_in ((((n + 8) - 1)) - (((n + 8) - 1)) / 8 * 8) 8 := by
  obtain ⟨j, hj, rfl⟩ := vp_in_of h (by decide)
  have h2 : ∀ j, j < 8 → vp_in ((((nI j + 8) - 1)) - (((nI j + 8) - 1)) / 8 * 8) 8 := by
    intro j hj
    have e : (((nI j + 8) - 1)) - (((nI j + 8) - 1)) / 8 * 8 = nI ((j + 7) % 8) := by
      revert j
      decide +kernel
    rw [e]
    exact vp_in_nI (Nat.mod_lt _ (by decide)) (by decide)
  exact h2 j hj

def g_X0_undo_52n (S : pS) (x52 : Int32) : Except Nat (Int32 × pS) := (.ok (x52, ((upd (sgS S) x52.toNatClampNeg ((kgS S) ((((nxS S) + 8) - 1) - (((nxS S) + 8) - 1) / 8 * 8).toNatClampNeg)), (vp_updL (odS S) x52.toNatClampNeg ((koS S) ((((nxS S) + 8) - 1) - (((nxS S) + 8) - 1) / 8 * 8).toNatClampNeg)), (upd (shS S) x52.toNatClampNeg ((khS S) ((((nxS S) + 8) - 1) - (((nxS S) + 8) - 1) / 8 * 8).toNatClampNeg)), ksS S, kgS S, koS S, khS S, ((((nxS S) + 8) - 1) - (((nxS S) + 8) - 1) / 8 * 8), ((cnS S) - 1))))
def f_X0_undo (S : pS) : Except Nat (Int32 × pS) := (if ((cnS S) : Int32) = 0 then (.error 6) else (g_X0_undo_52n S ((ksS S) ((((nxS S) + 8) - 1) - (((nxS S) + 8) - 1) / 8 * 8).toNatClampNeg)))
set_option maxHeartbeats 4000000 in
set_option maxRecDepth 100000 in
theorem met_X0_undo (l : Launch) (hfl : l.stackTraces = false) (D : va_G) (cI cJ : ClassId) (ad : Nat → Nat) (A : Nat → Prop) (S : pS) (hn : vp_in (nxS S) 8) (hks : ∀ j : Nat, vp_in ((ksS S) j) 8) : vx_Met l yX0_undo wsX0_undo ({ frames := 6, cells := 1, slots := 6, locals := 84 } : Room) (va_Pc [.ref (ad 0)] (fun U => b0R D cI cJ ad S U ∧ va_D A (pmW cI cJ ad S) ∧ xE (fun _ => False) U U.heap)) (va_Qi (fun (r : Int32) (u : pS) => f_X0_undo S = .ok (r, u)) (fun (u : pS) t => va_P D pCl (pmW cI cJ ad u) t.heap ∧ va_D A (pmW cI cJ ad u)) A) (vx_X (fun k : Nat => f_X0_undo S = .error k) (fun E k _ => E = exN k) (fun _ => False)) 1 6 A := by
  refine vx_ofW (cc := cX0_undo) (maxL := 2) (ret := (some .int)) (by decide) rfl ?_
  intro p e s m args below meth c s₁ B hml hno hv
  obtain ⟨rfl, ⟨hP, hK⟩, hD, hE⟩ := hv
  have hx := B.exec
  have hb := B.bytes
  have hr := B.returns
  have hts := atoms_spec (ws := wsX0_undo) B.pre
  have hown : s.vm.findClass RX0 = some m.cls := findClass_of_methodNamed B.named
  have hlocks := B.notSynchronized
  have hS : va_S (fun _ => False) s.heap s.heap [] := va_S.rf
  have hin : ∀ w ∈ wsX00, w ∈ wsX0_undo := by decide +kernel
  have hf9 := hts (.fieldLink RX0 9 "Powermill" "signs" "[I") (by decide +kernel)
  have hf13 := hts (.fieldLink RX0 13 "Powermill" "odds" "[J") (by decide +kernel)
  have hf17 := hts (.fieldLink RX0 17 "Powermill" "shifts" "[I") (by decide +kernel)
  have hf20 := hts (.fieldLink RX0 20 "Powermill" "keptSlots" "[I") (by decide +kernel)
  have hf23 := hts (.fieldLink RX0 23 "Powermill" "keptSigns" "[I") (by decide +kernel)
  have hf26 := hts (.fieldLink RX0 26 "Powermill" "keptOdds" "[J") (by decide +kernel)
  have hf29 := hts (.fieldLink RX0 29 "Powermill" "keptShifts" "[I") (by decide +kernel)
  have hf32 := hts (.fieldLink RX0 32 "Powermill" "keptNext" "I") (by decide +kernel)
  have hf36 := hts (.fieldLink RX0 36 "Powermill" "keptCount" "I") (by decide +kernel)
  have hl := lv_entry ([.ref (ad 0)]) (n := 2) (Nat.le_of_ble_eq_true rfl)
  rw [lg_entry_eq]
  generalize (lg_sl ([.ref (ad 0)]) ++ List.replicate (2 - (lg_sl ([.ref (ad 0)])).length) Slot.unset).toArray = ls at hl ⊢
  have hl : lv_has ls 2 [(0, .ref (ad 0))] := hl
  obtain ⟨Q, hQ⟩ : ∃ Q : State → Prop, Q = (vx_MQ below (va_Qi (fun (r : Int32) (u : pS) => f_X0_undo S = .ok (r, u)) (fun (u : pS) t => va_P D pCl (pmW cI cJ ad u) t.heap ∧ va_D A (pmW cI cJ ad u)) A) (vx_X (fun k : Nat => f_X0_undo S = .error k) (fun E k _ => E = exN k) (fun _ => False)) ([.ref (ad 0)] : List Value).toArray s 1 6 A) := ⟨_, rfl⟩
  rw [← hQ]
  have hR : f_X0_undo S = f_X0_undo S := rfl
  refine lv_aload_n hx hb dX0_undo_0 rfl (lv_at hl 0 rfl) ?_
  refine va_get (D := D) (ci := 0) (v := .int (cnS S)) (C := RX0) (T := TX0) (N := 9) hx hb hts hin hown hK hP 0 rfl rfl 8 (by decide) hf36 (fun _ h9 => h9) rfl dX0_undo_1 ?_
  refine lv_if_ne (tgt := 17) hx hb dX0_undo_4 (by decide) (fun c4 => ?_) (fun c4 => ?_)
  · skip
    refine lv_aload_n hx hb dX0_undo_17 rfl (lv_at hl 0 rfl) ?_
    refine lv_dup hx hb dX0_undo_18 rfl ?_
    refine va_get (D := D) (ci := 0) (v := .int (cnS S)) (C := RX0) (T := TX0) (N := 9) hx hb hts hin hown hK hP 0 rfl rfl 8 (by decide) hf36 (fun _ h9 => h9) rfl dX0_undo_19 ?_
    refine lv_iconst (v := 1) hx hb dX0_undo_22 (by decide) ?_
    refine lv_isub hx hb dX0_undo_23 ?_
    have hS : va_S A s.heap s.heap [] := xS_mono hS
    refine va_put (D := D) (ci := 0) (v := .int ((cnS S) - 1)) (ty := .int) (C := RX0) (T := TX0) (N := 9) hx hb hts hin tyX0 tyX0_ok nmX0 hown hK hP hD hS 0 rfl rfl 8 (by decide) hf36 (fun _ h9 => h9) rfl (by decide +kernel) rfl rfl (Nat.le_of_ble_eq_true rfl) dX0_undo_24 (fun H locs hP hD hS => ?_)
    have hP : va_P D pCl ([(ad 0, .inr (0, [.ref (ad 1), .ref (ad 2), .ref (ad 3), .ref (ad 4), .ref (ad 5), .ref (ad 6), .ref (ad 7), .int (nxS S), .int ((cnS S) - 1)])), (ad 1, .inl (cI, 8, .inl (sgS S))), (ad 2, .inl (cJ, 8, .inr (.inl (odS S)))), (ad 3, .inl (cI, 8, .inl (shS S))), (ad 4, .inl (cI, 8, .inl (ksS S))), (ad 5, .inl (cI, 8, .inl (kgS S))), (ad 6, .inl (cJ, 8, .inr (.inl (koS S)))), (ad 7, .inl (cI, 8, .inl (khS S)))]) H := hP
    have hD : va_D A ([(ad 0, .inr (0, [.ref (ad 1), .ref (ad 2), .ref (ad 3), .ref (ad 4), .ref (ad 5), .ref (ad 6), .ref (ad 7), .int (nxS S), .int ((cnS S) - 1)])), (ad 1, .inl (cI, 8, .inl (sgS S))), (ad 2, .inl (cJ, 8, .inr (.inl (odS S)))), (ad 3, .inl (cI, 8, .inl (shS S))), (ad 4, .inl (cI, 8, .inl (ksS S))), (ad 5, .inl (cI, 8, .inl (kgS S))), (ad 6, .inl (cJ, 8, .inr (.inl (koS S)))), (ad 7, .inl (cI, 8, .inl (khS S)))]) := hD
    refine lv_aload_n hx hb dX0_undo_27 rfl (lv_at hl 0 rfl) ?_
    refine lv_aload_n hx hb dX0_undo_28 rfl (lv_at hl 0 rfl) ?_
    refine va_get (D := D) (ci := 0) (v := .int (nxS S)) (C := RX0) (T := TX0) (N := 9) hx hb hts hin hown hK hP 0 rfl rfl 7 (by decide) hf32 (fun _ h9 => h9) rfl dX0_undo_29 ?_
    refine lv_bipush (v := 8) hx hb dX0_undo_32 (by decide) ?_
    refine lv_iadd hx hb dX0_undo_34 ?_
    refine lv_iconst (v := 1) hx hb dX0_undo_35 (by decide) ?_
    refine lv_isub hx hb dX0_undo_36 ?_
    refine lv_bipush (v := 8) hx hb dX0_undo_37 (by decide) ?_
    refine lv_irem hx hb dX0_undo_39 (by decide) ?_
    refine va_put (D := D) (ci := 0) (v := .int ((((nxS S) + 8) - 1) - (((nxS S) + 8) - 1) / 8 * 8)) (ty := .int) (C := RX0) (T := TX0) (N := 9) hx hb hts hin tyX0 tyX0_ok nmX0 hown hK hP hD hS 0 rfl rfl 7 (by decide) hf32 (fun _ h9 => h9) rfl (by decide +kernel) rfl rfl (Nat.le_of_ble_eq_true rfl) dX0_undo_40 (fun H locs hP hD hS => ?_)
    have hP : va_P D pCl ([(ad 0, .inr (0, [.ref (ad 1), .ref (ad 2), .ref (ad 3), .ref (ad 4), .ref (ad 5), .ref (ad 6), .ref (ad 7), .int ((((nxS S) + 8) - 1) - (((nxS S) + 8) - 1) / 8 * 8), .int ((cnS S) - 1)])), (ad 1, .inl (cI, 8, .inl (sgS S))), (ad 2, .inl (cJ, 8, .inr (.inl (odS S)))), (ad 3, .inl (cI, 8, .inl (shS S))), (ad 4, .inl (cI, 8, .inl (ksS S))), (ad 5, .inl (cI, 8, .inl (kgS S))), (ad 6, .inl (cJ, 8, .inr (.inl (koS S)))), (ad 7, .inl (cI, 8, .inl (khS S)))]) H := hP
    have hD : va_D A ([(ad 0, .inr (0, [.ref (ad 1), .ref (ad 2), .ref (ad 3), .ref (ad 4), .ref (ad 5), .ref (ad 6), .ref (ad 7), .int ((((nxS S) + 8) - 1) - (((nxS S) + 8) - 1) / 8 * 8), .int ((cnS S) - 1)])), (ad 1, .inl (cI, 8, .inl (sgS S))), (ad 2, .inl (cJ, 8, .inr (.inl (odS S)))), (ad 3, .inl (cI, 8, .inl (shS S))), (ad 4, .inl (cI, 8, .inl (ksS S))), (ad 5, .inl (cI, 8, .inl (kgS S))), (ad 6, .inl (cJ, 8, .inr (.inl (koS S)))), (ad 7, .inl (cI, 8, .inl (khS S)))]) := hD
    refine lv_aload_n hx hb dX0_undo_43 rfl (lv_at hl 0 rfl) ?_
    refine va_get (D := D) (ci := 0) (v := .ref (ad 4)) (C := RX0) (T := TX0) (N := 9) hx hb hts hin hown hK hP 0 rfl rfl 3 (by decide) hf20 (fun _ h9 => h9) rfl dX0_undo_44 ?_
    refine lv_aload_n hx hb dX0_undo_47 rfl (lv_at hl 0 rfl) ?_
    refine va_get (D := D) (ci := 0) (v := .int ((((nxS S) + 8) - 1) - (((nxS S) + 8) - 1) / 8 * 8)) (C := RX0) (T := TX0) (N := 9) hx hb hts hin hown hK hP 0 rfl rfl 7 (by decide) hf32 (fun _ h9 => h9) rfl dX0_undo_48 ?_
    refine va_iald hx hb hK hP 4 0 rfl rfl (undo_ix hn) dX0_undo_51 ?_
    refine lv_topi (fun x52 ex52 => ?_)
    refine lv_istore_n (lv' := [(1, .int x52), (0, .ref (ad 0))]) hx hb dX0_undo_52 rfl hl (by decide) rfl (fun ls hl => ?_)
    have hR : f_X0_undo S = g_X0_undo_52n S x52 := hR.trans (by simp only [f_X0_undo, if_neg c4, ex52])
    refine lv_aload_n hx hb dX0_undo_53 rfl (lv_at hl 1 rfl) ?_
    refine va_get (D := D) (ci := 0) (v := .ref (ad 1)) (C := RX0) (T := TX0) (N := 9) hx hb hts hin hown hK hP 0 rfl rfl 0 (by decide) hf9 (fun _ h9 => h9) rfl dX0_undo_54 ?_
    refine lv_iload_n hx hb dX0_undo_57 rfl (lv_at hl 0 rfl) ?_
    refine lv_aload_n hx hb dX0_undo_58 rfl (lv_at hl 1 rfl) ?_
    refine va_get (D := D) (ci := 0) (v := .ref (ad 5)) (C := RX0) (T := TX0) (N := 9) hx hb hts hin hown hK hP 0 rfl rfl 4 (by decide) hf23 (fun _ h9 => h9) rfl dX0_undo_59 ?_
    refine lv_aload_n hx hb dX0_undo_62 rfl (lv_at hl 1 rfl) ?_
    refine va_get (D := D) (ci := 0) (v := .int ((((nxS S) + 8) - 1) - (((nxS S) + 8) - 1) / 8 * 8)) (C := RX0) (T := TX0) (N := 9) hx hb hts hin hown hK hP 0 rfl rfl 7 (by decide) hf32 (fun _ h9 => h9) rfl dX0_undo_63 ?_
    refine va_iald hx hb hK hP 5 0 rfl rfl (undo_ix hn) dX0_undo_66 ?_
    refine va_iast hx hb hK hP hD hS 1 0 rfl rfl (by rw [ex52]; exact hks _) dX0_undo_67 (fun H locs hP hD hS => ?_)
    have hP : va_P D pCl ([(ad 0, .inr (0, [.ref (ad 1), .ref (ad 2), .ref (ad 3), .ref (ad 4), .ref (ad 5), .ref (ad 6), .ref (ad 7), .int ((((nxS S) + 8) - 1) - (((nxS S) + 8) - 1) / 8 * 8), .int ((cnS S) - 1)])), (ad 1, .inl (cI, 8, .inl (upd (sgS S) x52.toNatClampNeg ((kgS S) ((((nxS S) + 8) - 1) - (((nxS S) + 8) - 1) / 8 * 8).toNatClampNeg)))), (ad 2, .inl (cJ, 8, .inr (.inl (odS S)))), (ad 3, .inl (cI, 8, .inl (shS S))), (ad 4, .inl (cI, 8, .inl (ksS S))), (ad 5, .inl (cI, 8, .inl (kgS S))), (ad 6, .inl (cJ, 8, .inr (.inl (koS S)))), (ad 7, .inl (cI, 8, .inl (khS S)))]) H := hP
    have hD : va_D A ([(ad 0, .inr (0, [.ref (ad 1), .ref (ad 2), .ref (ad 3), .ref (ad 4), .ref (ad 5), .ref (ad 6), .ref (ad 7), .int ((((nxS S) + 8) - 1) - (((nxS S) + 8) - 1) / 8 * 8), .int ((cnS S) - 1)])), (ad 1, .inl (cI, 8, .inl (upd (sgS S) x52.toNatClampNeg ((kgS S) ((((nxS S) + 8) - 1) - (((nxS S) + 8) - 1) / 8 * 8).toNatClampNeg)))), (ad 2, .inl (cJ, 8, .inr (.inl (odS S)))), (ad 3, .inl (cI, 8, .inl (shS S))), (ad 4, .inl (cI, 8, .inl (ksS S))), (ad 5, .inl (cI, 8, .inl (kgS S))), (ad 6, .inl (cJ, 8, .inr (.inl (koS S)))), (ad 7, .inl (cI, 8, .inl (khS S)))]) := hD
    refine lv_aload_n hx hb dX0_undo_68 rfl (lv_at hl 1 rfl) ?_
    refine va_get (D := D) (ci := 0) (v := .ref (ad 2)) (C := RX0) (T := TX0) (N := 9) hx hb hts hin hown hK hP 0 rfl rfl 1 (by decide) hf13 (fun _ h9 => h9) rfl dX0_undo_69 ?_
    refine lv_iload_n hx hb dX0_undo_72 rfl (lv_at hl 0 rfl) ?_
    refine lv_aload_n hx hb dX0_undo_73 rfl (lv_at hl 1 rfl) ?_
    refine va_get (D := D) (ci := 0) (v := .ref (ad 6)) (C := RX0) (T := TX0) (N := 9) hx hb hts hin hown hK hP 0 rfl rfl 5 (by decide) hf26 (fun _ h9 => h9) rfl dX0_undo_74 ?_
    refine lv_aload_n hx hb dX0_undo_77 rfl (lv_at hl 1 rfl) ?_
    refine va_get (D := D) (ci := 0) (v := .int ((((nxS S) + 8) - 1) - (((nxS S) + 8) - 1) / 8 * 8)) (C := RX0) (T := TX0) (N := 9) hx hb hts hin hown hK hP 0 rfl rfl 7 (by decide) hf32 (fun _ h9 => h9) rfl dX0_undo_78 ?_
    refine va_lald hx hb hK hP 6 1 rfl rfl (undo_ix hn) dX0_undo_81 ?_
    refine va_last hx hb hK hP hD hS 2 1 rfl rfl (by rw [ex52]; exact hks _) dX0_undo_82 (fun H locs hP hD hS => ?_)
    have hP : va_P D pCl ([(ad 0, .inr (0, [.ref (ad 1), .ref (ad 2), .ref (ad 3), .ref (ad 4), .ref (ad 5), .ref (ad 6), .ref (ad 7), .int ((((nxS S) + 8) - 1) - (((nxS S) + 8) - 1) / 8 * 8), .int ((cnS S) - 1)])), (ad 1, .inl (cI, 8, .inl (upd (sgS S) x52.toNatClampNeg ((kgS S) ((((nxS S) + 8) - 1) - (((nxS S) + 8) - 1) / 8 * 8).toNatClampNeg)))), (ad 2, .inl (cJ, 8, .inr (.inl (vp_updL (odS S) x52.toNatClampNeg ((koS S) ((((nxS S) + 8) - 1) - (((nxS S) + 8) - 1) / 8 * 8).toNatClampNeg))))), (ad 3, .inl (cI, 8, .inl (shS S))), (ad 4, .inl (cI, 8, .inl (ksS S))), (ad 5, .inl (cI, 8, .inl (kgS S))), (ad 6, .inl (cJ, 8, .inr (.inl (koS S)))), (ad 7, .inl (cI, 8, .inl (khS S)))]) H := hP
    have hD : va_D A ([(ad 0, .inr (0, [.ref (ad 1), .ref (ad 2), .ref (ad 3), .ref (ad 4), .ref (ad 5), .ref (ad 6), .ref (ad 7), .int ((((nxS S) + 8) - 1) - (((nxS S) + 8) - 1) / 8 * 8), .int ((cnS S) - 1)])), (ad 1, .inl (cI, 8, .inl (upd (sgS S) x52.toNatClampNeg ((kgS S) ((((nxS S) + 8) - 1) - (((nxS S) + 8) - 1) / 8 * 8).toNatClampNeg)))), (ad 2, .inl (cJ, 8, .inr (.inl (vp_updL (odS S) x52.toNatClampNeg ((koS S) ((((nxS S) + 8) - 1) - (((nxS S) + 8) - 1) / 8 * 8).toNatClampNeg))))), (ad 3, .inl (cI, 8, .inl (shS S))), (ad 4, .inl (cI, 8, .inl (ksS S))), (ad 5, .inl (cI, 8, .inl (kgS S))), (ad 6, .inl (cJ, 8, .inr (.inl (koS S)))), (ad 7, .inl (cI, 8, .inl (khS S)))]) := hD
    refine lv_aload_n hx hb dX0_undo_83 rfl (lv_at hl 1 rfl) ?_
    refine va_get (D := D) (ci := 0) (v := .ref (ad 3)) (C := RX0) (T := TX0) (N := 9) hx hb hts hin hown hK hP 0 rfl rfl 2 (by decide) hf17 (fun _ h9 => h9) rfl dX0_undo_84 ?_
    refine lv_iload_n hx hb dX0_undo_87 rfl (lv_at hl 0 rfl) ?_
    refine lv_aload_n hx hb dX0_undo_88 rfl (lv_at hl 1 rfl) ?_
    refine va_get (D := D) (ci := 0) (v := .ref (ad 7)) (C := RX0) (T := TX0) (N := 9) hx hb hts hin hown hK hP 0 rfl rfl 6 (by decide) hf29 (fun _ h9 => h9) rfl dX0_undo_89 ?_
    refine lv_aload_n hx hb dX0_undo_92 rfl (lv_at hl 1 rfl) ?_
    refine va_get (D := D) (ci := 0) (v := .int ((((nxS S) + 8) - 1) - (((nxS S) + 8) - 1) / 8 * 8)) (C := RX0) (T := TX0) (N := 9) hx hb hts hin hown hK hP 0 rfl rfl 7 (by decide) hf32 (fun _ h9 => h9) rfl dX0_undo_93 ?_
    refine va_iald hx hb hK hP 7 0 rfl rfl (undo_ix hn) dX0_undo_96 ?_
    refine va_iast hx hb hK hP hD hS 3 0 rfl rfl (by rw [ex52]; exact hks _) dX0_undo_97 (fun H locs hP hD hS => ?_)
    have hP : va_P D pCl ([(ad 0, .inr (0, [.ref (ad 1), .ref (ad 2), .ref (ad 3), .ref (ad 4), .ref (ad 5), .ref (ad 6), .ref (ad 7), .int ((((nxS S) + 8) - 1) - (((nxS S) + 8) - 1) / 8 * 8), .int ((cnS S) - 1)])), (ad 1, .inl (cI, 8, .inl (upd (sgS S) x52.toNatClampNeg ((kgS S) ((((nxS S) + 8) - 1) - (((nxS S) + 8) - 1) / 8 * 8).toNatClampNeg)))), (ad 2, .inl (cJ, 8, .inr (.inl (vp_updL (odS S) x52.toNatClampNeg ((koS S) ((((nxS S) + 8) - 1) - (((nxS S) + 8) - 1) / 8 * 8).toNatClampNeg))))), (ad 3, .inl (cI, 8, .inl (upd (shS S) x52.toNatClampNeg ((khS S) ((((nxS S) + 8) - 1) - (((nxS S) + 8) - 1) / 8 * 8).toNatClampNeg)))), (ad 4, .inl (cI, 8, .inl (ksS S))), (ad 5, .inl (cI, 8, .inl (kgS S))), (ad 6, .inl (cJ, 8, .inr (.inl (koS S)))), (ad 7, .inl (cI, 8, .inl (khS S)))]) H := hP
    have hD : va_D A ([(ad 0, .inr (0, [.ref (ad 1), .ref (ad 2), .ref (ad 3), .ref (ad 4), .ref (ad 5), .ref (ad 6), .ref (ad 7), .int ((((nxS S) + 8) - 1) - (((nxS S) + 8) - 1) / 8 * 8), .int ((cnS S) - 1)])), (ad 1, .inl (cI, 8, .inl (upd (sgS S) x52.toNatClampNeg ((kgS S) ((((nxS S) + 8) - 1) - (((nxS S) + 8) - 1) / 8 * 8).toNatClampNeg)))), (ad 2, .inl (cJ, 8, .inr (.inl (vp_updL (odS S) x52.toNatClampNeg ((koS S) ((((nxS S) + 8) - 1) - (((nxS S) + 8) - 1) / 8 * 8).toNatClampNeg))))), (ad 3, .inl (cI, 8, .inl (upd (shS S) x52.toNatClampNeg ((khS S) ((((nxS S) + 8) - 1) - (((nxS S) + 8) - 1) / 8 * 8).toNatClampNeg)))), (ad 4, .inl (cI, 8, .inl (ksS S))), (ad 5, .inl (cI, 8, .inl (kgS S))), (ad 6, .inl (cJ, 8, .inr (.inl (koS S)))), (ad 7, .inl (cI, 8, .inl (khS S)))]) := hD
    refine lv_iload_n hx hb dX0_undo_98 rfl (lv_at hl 0 rfl) ?_
    refine W.widen (k := 1) (n := 6) (Nat.le_of_ble_eq_true rfl) (Nat.le_of_ble_eq_true rfl) ?_
    rw [hQ]
    refine vx_ret ?_
    exact W.iret (v := x52) hx hb hr (fun t ht hW => ⟨⟨x52, ((upd (sgS S) x52.toNatClampNeg ((kgS S) ((((nxS S) + 8) - 1) - (((nxS S) + 8) - 1) / 8 * 8).toNatClampNeg)), (vp_updL (odS S) x52.toNatClampNeg ((koS S) ((((nxS S) + 8) - 1) - (((nxS S) + 8) - 1) / 8 * 8).toNatClampNeg)), (upd (shS S) x52.toNatClampNeg ((khS S) ((((nxS S) + 8) - 1) - (((nxS S) + 8) - 1) / 8 * 8).toNatClampNeg)), ksS S, kgS S, koS S, khS S, ((((nxS S) + 8) - 1) - (((nxS S) + 8) - 1) / 8 * 8), ((cnS S) - 1)), rfl, (hR.trans (by simp only [g_X0_undo_52n])), by rw [ht]; exact hP, hD⟩, hS.F ht⟩) hS.2.2 dX0_undo_99
  · skip
    obtain ⟨sa, hstr⟩ := hE.2.2.1 (100, "nothing is kept") (by decide +kernel)
    rw [hQ]
    exact nx_throwS hx hb hfl (by decide +kernel) (by decide +kernel) (by decide +kernel) (by decide +kernel) (own := RX0) (cls := "java/util/NoSuchElementException") (text := "nothing is kept") (names := ["java/lang/RuntimeException", "java/lang/Exception"]) (ik := 98) (is := 100) (ic := 102) hown (by decide +kernel) (by decide +kernel) (hts _ (by decide +kernel)) (hts _ (by decide +kernel)) hstr (vx_hat (fun w h => hts w ((by decide +kernel : ∀ w ∈ (nx_at RX0 102 "java/util/NoSuchElementException" 13 prog_16_method_4_code ["java/lang/RuntimeException", "java/lang/Exception"]).filter goodWord, w ∈ wsX0_undo) w h)) (by decide +kernel) (vx_c (va_Nw.use rfl (hE.2.2.2.1 "java/util/NoSuchElementException" (by decide +kernel))) (vx_c (va_Nw.use rfl (hE.2.2.2.2 "java/lang/RuntimeException" (by decide +kernel))) (vx_c (va_Nw.use rfl (hE.2.2.2.2 "java/lang/Exception" (by decide +kernel))) (vx_c (va_Nw.use rfl (hE.2.2.2.2 "java/lang/Throwable" (by decide +kernel))) vx_n))))) (by decide +kernel) hE.1 hE.2.1 hS (by rw [hml]; exact hl.1) dX0_undo_7 dX0_undo_10 dX0_undo_11 dX0_undo_13 dX0_undo_16 (fun x hx => (hno x hx).elim) (Nat.le_of_ble_eq_true rfl) (Nat.le_of_ble_eq_true rfl) (Nat.le_of_ble_eq_true rfl) (Nat.le_of_ble_eq_true rfl) hlocks (fun t hvm hz hk => ⟨6, (hR.trans (by simp only [f_X0_undo, if_pos c4])), rfl, ⟨Nat.le_trans hS.1 hz, fun q h1 h2 => (hk q (Nat.lt_of_lt_of_le h1 hS.1)).trans (hS.2.1 q h1 h2)⟩⟩) (fun z hz => (hS.2.2 z hz).elim) (Nat.le_of_ble_eq_true rfl) (Nat.le_of_ble_eq_true rfl)

def g_X1_log_43 (T : pT) (p0 : Int32) (u26 : pT) : Nat → Int32 → Int64 → (Int32 × pT)
  | 0, _, _ => (0, T)
  | n + 1, v43_3, v43_4 => (if (v43_4 : Int64) < ((p0 : Int32).toInt64) then (v43_3, u26) else (g_X1_log_43 T p0 u26 n (v43_3 + 1) (v43_4 / ((p0 : Int32).toInt64))))
def g_X1_log_25 (T : pT) (p0 : Int32) (p1 : Int32) (u4 : pT) (w25_0 : Int32) : Int32 × pT := (match f_X1_no u4 w25_0 4 with | (r26, u26) => (if (r26 : Int32) = 0 then (g_X1_log_43 T p0 u26 ((f_X1_sizeOf u26 p1).toInt.toNat + 1) 0 (f_X1_sizeOf u26 p1)) else (0, u26)))
def f_X1_log (T : pT) (p0 : Int32) (p1 : Int32) : Int32 × pT := (match f_X1_lacks T p0 p1 0 with | (r4, u4) => (if (r4 : Int32) = 0 then (if (((sgT u4) p1.toNatClampNeg) : Int32) ≤ 0 then (g_X1_log_25 T p0 p1 u4 0) else (g_X1_log_25 T p0 p1 u4 1)) else (0, u4)))
set_option maxHeartbeats 4000000 in
set_option maxRecDepth 100000 in
theorem met_X1_log (l : Launch) (D : va_G) (cI cJ : ClassId) (bd : Nat → Nat) (A : Nat → Prop) (T : pT) (p0 : Int32) (p1 : Int32) : Met l yX1_log wsX1_log ({ frames := 3, cells := 0, slots := 0, locals := 68 } : Room) (va_Pc [.ref (bd 0), .int p0, .int p1] (fun U => b1R D cI cJ bd T U ∧ va_D A (mmW cI cJ bd T))) (va_Qi (fun (r : Int32) (u : pT) => f_X1_log T p0 p1 = (r, u)) (fun (u : pT) t => va_P D pCl (mmW cI cJ bd u) t.heap ∧ va_D A (mmW cI cJ bd u)) A) 0 0 A := by
  refine Met.ofW (cc := cX1_log) (maxL := 6) (ret := (some .int)) (by decide) rfl ?_
  intro p e s m args below meth c s₁ B hml hv
  obtain ⟨rfl, ⟨hP, hK⟩, hD⟩ := hv
  have hx := B.exec
  have hb := B.bytes
  have hr := B.returns
  have hts := atoms_spec (ws := wsX1_log) B.pre
  have hown : s.vm.findClass RX1 = some m.cls := findClass_of_methodNamed B.named
  have hlocks := B.notSynchronized
  have hS : va_S A s.heap s.heap [] := va_S.rf
  have hin : ∀ w ∈ wsX10, w ∈ wsX1_log := by decide +kernel
  have hf9 := hts (.fieldLink RX1 9 "PowermillModel" "sign" "[I") (by decide +kernel)
  have hl := lv_entry ([.ref (bd 0), .int p0, .int p1]) (n := 6) (Nat.le_of_ble_eq_true rfl)
  rw [lg_entry_eq]
  generalize (lg_sl ([.ref (bd 0), .int p0, .int p1]) ++ List.replicate (6 - (lg_sl ([.ref (bd 0), .int p0, .int p1])).length) Slot.unset).toArray = ls at hl ⊢
  have hl : lv_has ls 6 [(0, .ref (bd 0)), (1, .int p0), (2, .int p1)] := hl
  obtain ⟨Q, hQ⟩ : ∃ Q : State → Prop, Q = (MQ below (va_Qi (fun (r : Int32) (u : pT) => f_X1_log T p0 p1 = (r, u)) (fun (u : pT) t => va_P D pCl (mmW cI cJ bd u) t.heap ∧ va_D A (mmW cI cJ bd u)) A) ([.ref (bd 0), .int p0, .int p1] : List Value).toArray s 0 0 A) := ⟨_, rfl⟩
  rw [← hQ]
  have hR : f_X1_log T p0 p1 = f_X1_log T p0 p1 := rfl
  refine lv_aload_n hx hb dX1_log_0 rfl (lv_at hl 0 rfl) ?_
  refine lv_iload_n hx hb dX1_log_1 rfl (lv_at hl 1 rfl) ?_
  refine lv_iload_n hx hb dX1_log_2 rfl (lv_at hl 2 rfl) ?_
  refine lv_iconst (v := 0) hx hb dX1_log_3 (by decide) ?_
  refine va_calli (va_runV (As := [.int p0, .int p1, .int 0]) (rest := []) ⟨hx, hb, hml, hown, hts⟩ (met_X1_lacks l D cI cJ bd A T p0 p1 0) (cwV 3 hts gX1_log_X1_lacks rfl rfl rfl (by decide +kernel) ⟨Nat.le_of_ble_eq_true rfl, Nat.le_of_ble_eq_true rfl⟩) ⟨fun a U g mk q => ⟨q.1, b1R_calling q.2.1, q.2.2⟩, va_recv hK hP (ci := 1) (q0 := 0) rfl rfl, fun U hU hW => ⟨rfl, b1R_at hP hK hU hW, hD⟩⟩ rfl rfl hl.1 rfl (lv_room (Nat.le_of_ble_eq_true rfl)) dX1_log_4 ⟨Nat.le_of_ble_eq_true rfl, Nat.le_of_ble_eq_true rfl⟩) hS (fun q _ h => h) (fun q h => h) (fun r4 u4 t H locs ht hvm hw4 hB hz hk hS => ?_)
  obtain ⟨hw4, bz4⟩ := hw4
  obtain ⟨hP, hD⟩ := hB
  rw [ht] at hP
  refine lv_if_ne (tgt := 32) hx hb dX1_log_7 (by decide) (fun c7 => ?_) (fun c7 => ?_)
  · skip
    refine lv_iconst (v := 0) hx hb dX1_log_32 (by decide) ?_
    rw [hQ]
    exact W.iret (v := 0) hx hb hr (fun t ht hW => ⟨⟨0, u4, rfl, (hR.trans (by simp only [f_X1_log, hw4, if_neg c7])), by rw [ht]; exact hP, hD⟩, hS.F ht⟩) hS.2.2 dX1_log_33
  · skip
    have hi7 := lacks_in hw4 c7
    have hz7 := lacks_nz hw4 c7
    refine lv_aload_n hx hb dX1_log_10 rfl (lv_at hl 0 rfl) ?_
    refine lv_aload_n hx hb dX1_log_11 rfl (lv_at hl 0 rfl) ?_
    refine va_get (D := D) (ci := 1) (v := .ref (bd 1)) (C := RX1) (T := TX1) (N := 12) hx hb hts hin hown hK hP 0 rfl rfl 0 (by decide) hf9 (fun _ h9 => h9) rfl dX1_log_12 ?_
    refine lv_iload_n hx hb dX1_log_15 rfl (lv_at hl 2 rfl) ?_
    refine va_iald hx hb hK hP 1 0 rfl rfl hi7 dX1_log_16 ?_
    have J25 : ∀ (w25_0 : Int32) (ls : Array Slot) (H : Heap) (locs : List Loc), lv_has ls 6 [(0, .ref (bd 0)), (1, .int p0), (2, .int p1)] → va_S A s.heap H locs → va_P D pCl (mmW cI cJ bd u4) H → va_D A (mmW cI cJ bd u4) → (w25_0 = 0 ∨ w25_0 = 1) → f_X1_log T p0 p1 = g_X1_log_25 T p0 p1 u4 w25_0 → W p l e (headSpec wsX1_log ({ frames := 3, cells := 0, slots := 0, locals := 68 } : Room)).room s m ([.ref (bd 0), .int p0, .int p1] : List Value).toArray below meth c H locs 0 0 Q (F0 m 25 ls [.int w25_0, .ref (bd 0)]) := by
      intro w25_0 ls H locs hl hS hP hD hb_w25_0 hR
      refine lv_iconst (v := 4) hx hb dX1_log_25 (by decide) ?_
      refine va_calli (va_runV (As := [.int w25_0, .int 4]) (rest := []) ⟨hx, hb, hml, hown, hts⟩ (met_X1_no l D cI cJ bd A u4 w25_0 4) (cwV 2 hts gX1_log_X1_no rfl rfl rfl (by decide +kernel) ⟨Nat.le_of_ble_eq_true rfl, Nat.le_of_ble_eq_true rfl⟩) ⟨fun a U g mk q => ⟨q.1, b1R_calling q.2.1, q.2.2⟩, va_recv hK hP (ci := 1) (q0 := 0) rfl rfl, fun U hU hW => ⟨rfl, b1R_at hP hK hU hW, hD⟩⟩ rfl rfl hl.1 rfl (lv_room (Nat.le_of_ble_eq_true rfl)) dX1_log_26 ⟨Nat.le_of_ble_eq_true rfl, Nat.le_of_ble_eq_true rfl⟩) hS (fun q _ h => h) (fun q h => h) (fun r26 u26 t H locs ht hvm hw26 hB hz hk hS => ?_)
      obtain ⟨hw26, bz26⟩ := hw26
      obtain ⟨hP, hD⟩ := hB
      rw [ht] at hP
      refine lv_if_eq (tgt := 34) hx hb dX1_log_29 (by decide) (fun c29 => ?_) (fun c29 => ?_)
      · skip
        refine lv_iconst (v := 0) hx hb dX1_log_34 (by decide) ?_
        refine lv_istore_n (lv' := [(3, .int 0), (0, .ref (bd 0)), (1, .int p0), (2, .int p1)]) hx hb dX1_log_35 rfl hl (by decide) rfl (fun ls hl => ?_)
        refine lv_aload_n hx hb dX1_log_36 rfl (lv_at hl 1 rfl) ?_
        refine lv_iload_n hx hb dX1_log_37 rfl (lv_at hl 3 rfl) ?_
        refine va_calll (va_runV (As := [.int p1]) (rest := []) ⟨hx, hb, hml, hown, hts⟩ (met_X1_sizeOf l D cI cJ bd u26 p1 (hi7)) (cwV 1 hts gX1_log_X1_sizeOf rfl rfl rfl (by decide +kernel) ⟨Nat.le_of_ble_eq_true rfl, Nat.le_of_ble_eq_true rfl⟩) ⟨fun a U g mk q => ⟨q.1, b1R_calling q.2⟩, va_recv hK hP (ci := 1) (q0 := 0) rfl rfl, fun U hU hW => ⟨rfl, b1R_at hP hK hU hW⟩⟩ rfl rfl hl.1 rfl (lv_room (Nat.le_of_ble_eq_true rfl)) dX1_log_38 ⟨Nat.le_of_ble_eq_true rfl, Nat.le_of_ble_eq_true rfl⟩) hS (fun q _ h => h.elim) (fun q h => h.elim) (fun r38 u38 t H locs ht hvm hw38 hB hz hk hS => ?_)
        subst hw38
        have hP := hP.kept (fun k q hk9 => hk _ (vx_lt hP hk9) (fun h => h))
        refine lv_lstore (lv' := [(4, .long (f_X1_sizeOf u26 p1)), (3, .int 0), (0, .ref (bd 0)), (1, .int p0), (2, .int p1)]) hx hb dX1_log_41 hl (by decide) rfl (fun ls hl => ?_)
        have J43 : ∀ (n43 : Nat) (v43_3 : Int32) (v43_4 : Int64) (ls : Array Slot) (H : Heap) (locs : List Loc), lv_has ls 6 [(0, .ref (bd 0)), (1, .int p0), (2, .int p1), (3, .int v43_3), (4, .long v43_4)] → va_S A s.heap H locs → va_P D pCl (mmW cI cJ bd u26) H → va_D A (mmW cI cJ bd u26) → f_X1_log T p0 p1 = g_X1_log_43 T p0 u26 n43 v43_3 v43_4 → v43_4.toInt.toNat < n43 → W p l e (headSpec wsX1_log ({ frames := 3, cells := 0, slots := 0, locals := 68 } : Room)).room s m ([.ref (bd 0), .int p0, .int p1] : List Value).toArray below meth c H locs 0 0 Q (F0 m 43 ls []) := by
          intro n43
          induction n43 with
          | zero => intro v43_3 v43_4 ls H locs hl hS hP hD hR hmu43; exact absurd hmu43 (Nat.not_lt_zero _)
          | succ n43 ih43 =>
            intro v43_3 v43_4 ls H locs hl hS hP hD hR hmu43
            refine lv_lload hx hb dX1_log_43 (lv_at hl 4 rfl) ?_
            refine lv_iload_n hx hb dX1_log_45 rfl (lv_at hl 1 rfl) ?_
            refine lv_i2l hx hb dX1_log_46 rfl ?_
            refine W.lcmp hx hb dX1_log_47 ?_
            refine lv_if_lt (tgt := 64) hx hb dX1_log_48 (by decide) (fun c47 => ?_) (fun c47 => ?_)
            · skip
              have c47 : (v43_4 : Int64) < ((p0 : Int32).toInt64) := (lg_cmp_lt _ _).mp c47
              refine lv_iload_n hx hb dX1_log_64 rfl (lv_at hl 3 rfl) ?_
              rw [hQ]
              exact W.iret (v := v43_3) hx hb hr (fun t ht hW => ⟨⟨v43_3, u26, rfl, (hR.trans (by simp only [g_X1_log_43, if_pos c47])), by rw [ht]; exact hP, hD⟩, hS.F ht⟩) hS.2.2 dX1_log_65
            · skip
              have c47 : ¬ ((v43_4 : Int64) < ((p0 : Int32).toInt64)) := fun h => c47 ((lg_cmp_lt _ _).mpr h)
              refine lv_iinc (v := (v43_3 + 1)) (lv' := [(3, .int (v43_3 + 1)), (0, .ref (bd 0)), (1, .int p0), (2, .int p1), (4, .long v43_4)]) hx hb dX1_log_51 hl (k := 3) rfl (by rfl) (by decide) rfl (fun ls hl => ?_)
              refine lv_lload hx hb dX1_log_54 (lv_at hl 4 rfl) ?_
              refine lv_iload_n hx hb dX1_log_56 rfl (lv_at hl 2 rfl) ?_
              refine lv_i2l hx hb dX1_log_57 rfl ?_
              refine lv_ldiv hx hb dX1_log_58 (hz7) ?_
              refine lv_lstore (lv' := [(4, .long (v43_4 / ((p0 : Int32).toInt64))), (3, .int (v43_3 + 1)), (0, .ref (bd 0)), (1, .int p0), (2, .int p1)]) hx hb dX1_log_59 hl (by decide) rfl (fun ls hl => ?_)
              refine lv_goto (tgt := 43) hx hb dX1_log_61 (by decide) ?_
              exact ih43 (v43_3 + 1) (v43_4 / ((p0 : Int32).toInt64)) ls _ _ (lv_sub hl [2, 3, 4, 1, 0] rfl) hS hP hD (hR.trans (by simp only [g_X1_log_43, if_neg c47])) (mu_div (lacks_base hw4 c7) c47 hmu43)
        exact J43 ((f_X1_sizeOf u26 p1).toInt.toNat + 1) 0 (f_X1_sizeOf u26 p1) ls _ _ (lv_sub hl [2, 3, 4, 1, 0] rfl) hS hP hD (hR.trans (by simp only [g_X1_log_25, hw26, if_pos c29])) (Nat.lt_succ_self _)
      · skip
        refine lv_iconst (v := 0) hx hb dX1_log_32 (by decide) ?_
        rw [hQ]
        exact W.iret (v := 0) hx hb hr (fun t ht hW => ⟨⟨0, u26, rfl, (hR.trans (by simp only [g_X1_log_25, hw26, if_neg c29])), by rw [ht]; exact hP, hD⟩, hS.F ht⟩) hS.2.2 dX1_log_33
    refine lv_if_le (tgt := 24) hx hb dX1_log_17 (by decide) (fun c17 => ?_) (fun c17 => ?_)
    · skip
      refine lv_iconst (v := 0) hx hb dX1_log_24 (by decide) ?_
      exact J25 0 ls _ _ (lv_sub hl [0, 1, 2] rfl) hS hP hD (Or.inl rfl) (hR.trans (by simp only [f_X1_log, hw4, if_pos c7, if_pos c17]))
    · skip
      refine lv_iconst (v := 1) hx hb dX1_log_20 (by decide) ?_
      refine lv_goto (tgt := 25) hx hb dX1_log_21 (by decide) ?_
      exact J25 1 ls _ _ (lv_sub hl [0, 1, 2] rfl) hS hP hD (Or.inr rfl) (hR.trans (by simp only [f_X1_log, hw4, if_pos c7, if_neg c17]))

def g_X1_digits_24 (T : pT) (p0 : Int32) (u4 : pT) : Nat → Int32 → Int64 → (Int32 × pT)
  | 0, _, _ => (0, T)
  | n + 1, v24_3, v24_4 => (if (v24_4 : Int64) ≤ 0 then (v24_3, u4) else (g_X1_digits_24 T p0 u4 n (v24_3 + 1) (v24_4 / ((p0 : Int32).toInt64))))
def f_X1_digits (T : pT) (p0 : Int32) (p1 : Int32) : Int32 × pT := (match f_X1_lacks T p0 p1 0 with | (r4, u4) => (if (r4 : Int32) = 0 then (g_X1_digits_24 T p0 u4 (((f_X1_sizeOf u4 p1) / ((p0 : Int32).toInt64)).toInt.toNat + 1) 1 ((f_X1_sizeOf u4 p1) / ((p0 : Int32).toInt64))) else (0, u4)))
set_option maxHeartbeats 4000000 in
set_option maxRecDepth 100000 in
theorem met_X1_digits (l : Launch) (D : va_G) (cI cJ : ClassId) (bd : Nat → Nat) (A : Nat → Prop) (T : pT) (p0 : Int32) (p1 : Int32) : Met l yX1_digits wsX1_digits ({ frames := 3, cells := 0, slots := 0, locals := 68 } : Room) (va_Pc [.ref (bd 0), .int p0, .int p1] (fun U => b1R D cI cJ bd T U ∧ va_D A (mmW cI cJ bd T))) (va_Qi (fun (r : Int32) (u : pT) => f_X1_digits T p0 p1 = (r, u)) (fun (u : pT) t => va_P D pCl (mmW cI cJ bd u) t.heap ∧ va_D A (mmW cI cJ bd u)) A) 0 0 A := by
  refine Met.ofW (cc := cX1_digits) (maxL := 6) (ret := (some .int)) (by decide) rfl ?_
  intro p e s m args below meth c s₁ B hml hv
  obtain ⟨rfl, ⟨hP, hK⟩, hD⟩ := hv
  have hx := B.exec
  have hb := B.bytes
  have hr := B.returns
  have hts := atoms_spec (ws := wsX1_digits) B.pre
  have hown : s.vm.findClass RX1 = some m.cls := findClass_of_methodNamed B.named
  have hlocks := B.notSynchronized
  have hS : va_S A s.heap s.heap [] := va_S.rf
  have hl := lv_entry ([.ref (bd 0), .int p0, .int p1]) (n := 6) (Nat.le_of_ble_eq_true rfl)
  rw [lg_entry_eq]
  generalize (lg_sl ([.ref (bd 0), .int p0, .int p1]) ++ List.replicate (6 - (lg_sl ([.ref (bd 0), .int p0, .int p1])).length) Slot.unset).toArray = ls at hl ⊢
  have hl : lv_has ls 6 [(0, .ref (bd 0)), (1, .int p0), (2, .int p1)] := hl
  obtain ⟨Q, hQ⟩ : ∃ Q : State → Prop, Q = (MQ below (va_Qi (fun (r : Int32) (u : pT) => f_X1_digits T p0 p1 = (r, u)) (fun (u : pT) t => va_P D pCl (mmW cI cJ bd u) t.heap ∧ va_D A (mmW cI cJ bd u)) A) ([.ref (bd 0), .int p0, .int p1] : List Value).toArray s 0 0 A) := ⟨_, rfl⟩
  rw [← hQ]
  have hR : f_X1_digits T p0 p1 = f_X1_digits T p0 p1 := rfl
  refine lv_aload_n hx hb dX1_digits_0 rfl (lv_at hl 0 rfl) ?_
  refine lv_iload_n hx hb dX1_digits_1 rfl (lv_at hl 1 rfl) ?_
  refine lv_iload_n hx hb dX1_digits_2 rfl (lv_at hl 2 rfl) ?_
  refine lv_iconst (v := 0) hx hb dX1_digits_3 (by decide) ?_
  refine va_calli (va_runV (As := [.int p0, .int p1, .int 0]) (rest := []) ⟨hx, hb, hml, hown, hts⟩ (met_X1_lacks l D cI cJ bd A T p0 p1 0) (cwV 3 hts gX1_digits_X1_lacks rfl rfl rfl (by decide +kernel) ⟨Nat.le_of_ble_eq_true rfl, Nat.le_of_ble_eq_true rfl⟩) ⟨fun a U g mk q => ⟨q.1, b1R_calling q.2.1, q.2.2⟩, va_recv hK hP (ci := 1) (q0 := 0) rfl rfl, fun U hU hW => ⟨rfl, b1R_at hP hK hU hW, hD⟩⟩ rfl rfl hl.1 rfl (lv_room (Nat.le_of_ble_eq_true rfl)) dX1_digits_4 ⟨Nat.le_of_ble_eq_true rfl, Nat.le_of_ble_eq_true rfl⟩) hS (fun q _ h => h) (fun q h => h) (fun r4 u4 t H locs ht hvm hw4 hB hz hk hS => ?_)
  obtain ⟨hw4, bz4⟩ := hw4
  obtain ⟨hP, hD⟩ := hB
  rw [ht] at hP
  refine lv_if_eq (tgt := 12) hx hb dX1_digits_7 (by decide) (fun c7 => ?_) (fun c7 => ?_)
  · skip
    have hi7 := lacks_in hw4 c7
    have hz7 := lacks_nz hw4 c7
    refine lv_iconst (v := 1) hx hb dX1_digits_12 (by decide) ?_
    refine lv_istore_n (lv' := [(3, .int 1), (0, .ref (bd 0)), (1, .int p0), (2, .int p1)]) hx hb dX1_digits_13 rfl hl (by decide) rfl (fun ls hl => ?_)
    refine lv_aload_n hx hb dX1_digits_14 rfl (lv_at hl 1 rfl) ?_
    refine lv_iload_n hx hb dX1_digits_15 rfl (lv_at hl 3 rfl) ?_
    refine va_calll (va_runV (As := [.int p1]) (rest := []) ⟨hx, hb, hml, hown, hts⟩ (met_X1_sizeOf l D cI cJ bd u4 p1 (hi7)) (cwV 1 hts gX1_digits_X1_sizeOf rfl rfl rfl (by decide +kernel) ⟨Nat.le_of_ble_eq_true rfl, Nat.le_of_ble_eq_true rfl⟩) ⟨fun a U g mk q => ⟨q.1, b1R_calling q.2⟩, va_recv hK hP (ci := 1) (q0 := 0) rfl rfl, fun U hU hW => ⟨rfl, b1R_at hP hK hU hW⟩⟩ rfl rfl hl.1 rfl (lv_room (Nat.le_of_ble_eq_true rfl)) dX1_digits_16 ⟨Nat.le_of_ble_eq_true rfl, Nat.le_of_ble_eq_true rfl⟩) hS (fun q _ h => h.elim) (fun q h => h.elim) (fun r16 u16 t H locs ht hvm hw16 hB hz hk hS => ?_)
    subst hw16
    have hP := hP.kept (fun k q hk9 => hk _ (vx_lt hP hk9) (fun h => h))
    refine lv_iload_n hx hb dX1_digits_19 rfl (lv_at hl 2 rfl) ?_
    refine lv_i2l hx hb dX1_digits_20 rfl ?_
    refine lv_ldiv hx hb dX1_digits_21 (hz7) ?_
    refine lv_lstore (lv' := [(4, .long ((f_X1_sizeOf u4 p1) / ((p0 : Int32).toInt64))), (3, .int 1), (0, .ref (bd 0)), (1, .int p0), (2, .int p1)]) hx hb dX1_digits_22 hl (by decide) rfl (fun ls hl => ?_)
    have J24 : ∀ (n24 : Nat) (v24_3 : Int32) (v24_4 : Int64) (ls : Array Slot) (H : Heap) (locs : List Loc), lv_has ls 6 [(0, .ref (bd 0)), (1, .int p0), (2, .int p1), (3, .int v24_3), (4, .long v24_4)] → va_S A s.heap H locs → va_P D pCl (mmW cI cJ bd u4) H → va_D A (mmW cI cJ bd u4) → f_X1_digits T p0 p1 = g_X1_digits_24 T p0 u4 n24 v24_3 v24_4 → v24_4.toInt.toNat < n24 → W p l e (headSpec wsX1_digits ({ frames := 3, cells := 0, slots := 0, locals := 68 } : Room)).room s m ([.ref (bd 0), .int p0, .int p1] : List Value).toArray below meth c H locs 0 0 Q (F0 m 24 ls []) := by
      intro n24
      induction n24 with
      | zero => intro v24_3 v24_4 ls H locs hl hS hP hD hR hmu24; exact absurd hmu24 (Nat.not_lt_zero _)
      | succ n24 ih24 =>
        intro v24_3 v24_4 ls H locs hl hS hP hD hR hmu24
        refine lv_lload hx hb dX1_digits_24 (lv_at hl 4 rfl) ?_
        refine lv_lconst (v := 0) hx hb dX1_digits_26 rfl ?_
        refine W.lcmp hx hb dX1_digits_27 ?_
        refine lv_if_le (tgt := 44) hx hb dX1_digits_28 (by decide) (fun c27 => ?_) (fun c27 => ?_)
        · skip
          have c27 : (v24_4 : Int64) ≤ 0 := (lg_cmp_le _ _).mp c27
          refine lv_iload_n hx hb dX1_digits_44 rfl (lv_at hl 3 rfl) ?_
          rw [hQ]
          exact W.iret (v := v24_3) hx hb hr (fun t ht hW => ⟨⟨v24_3, u4, rfl, (hR.trans (by simp only [g_X1_digits_24, if_pos c27])), by rw [ht]; exact hP, hD⟩, hS.F ht⟩) hS.2.2 dX1_digits_45
        · skip
          have c27 : ¬ ((v24_4 : Int64) ≤ 0) := fun h => c27 ((lg_cmp_le _ _).mpr h)
          refine lv_iinc (v := (v24_3 + 1)) (lv' := [(3, .int (v24_3 + 1)), (0, .ref (bd 0)), (1, .int p0), (2, .int p1), (4, .long v24_4)]) hx hb dX1_digits_31 hl (k := 3) rfl (by rfl) (by decide) rfl (fun ls hl => ?_)
          refine lv_lload hx hb dX1_digits_34 (lv_at hl 4 rfl) ?_
          refine lv_iload_n hx hb dX1_digits_36 rfl (lv_at hl 2 rfl) ?_
          refine lv_i2l hx hb dX1_digits_37 rfl ?_
          refine lv_ldiv hx hb dX1_digits_38 (hz7) ?_
          refine lv_lstore (lv' := [(4, .long (v24_4 / ((p0 : Int32).toInt64))), (3, .int (v24_3 + 1)), (0, .ref (bd 0)), (1, .int p0), (2, .int p1)]) hx hb dX1_digits_39 hl (by decide) rfl (fun ls hl => ?_)
          refine lv_goto (tgt := 24) hx hb dX1_digits_41 (by decide) ?_
          exact ih24 (v24_3 + 1) (v24_4 / ((p0 : Int32).toInt64)) ls _ _ (lv_sub hl [2, 3, 4, 1, 0] rfl) hS hP hD (hR.trans (by simp only [g_X1_digits_24, if_neg c27])) (mu_div2 (lacks_base hw4 c7) c27 hmu24)
    exact J24 (((f_X1_sizeOf u4 p1) / ((p0 : Int32).toInt64)).toInt.toNat + 1) 1 ((f_X1_sizeOf u4 p1) / ((p0 : Int32).toInt64)) ls _ _ (lv_sub hl [2, 3, 4, 1, 0] rfl) hS hP hD (hR.trans (by simp only [f_X1_digits, hw4, if_pos c7])) (Nat.lt_succ_self _)
  · skip
    refine lv_iconst (v := 0) hx hb dX1_digits_10 (by decide) ?_
    rw [hQ]
    exact W.iret (v := 0) hx hb hr (fun t ht hW => ⟨⟨0, u4, rfl, (hR.trans (by simp only [f_X1_digits, hw4, if_neg c7])), by rw [ht]; exact hP, hD⟩, hS.F ht⟩) hS.2.2 dX1_digits_11

def g_X1_digit_48 (p0 : Int32) (u4 : pT) (v22_4 : Int64) : Int32 × pT := ((((v22_4 - v22_4 / ((p0 : Int32).toInt64) * ((p0 : Int32).toInt64)) : Int64).toInt32), u4)
def g_X1_digit_22 (T : pT) (p0 : Int32) (p2 : Int32) (u4 : pT) : Nat → Int64 → Int32 → (Int32 × pT)
  | 0, _, _ => (0, T)
  | n + 1, v22_4, v22_6 => (if (p2 : Int32) ≤ v22_6 then (g_X1_digit_48 p0 u4 v22_4) else (if (v22_4 : Int64) ≤ 0 then (g_X1_digit_48 p0 u4 v22_4) else (g_X1_digit_22 T p0 p2 u4 n (v22_4 / ((p0 : Int32).toInt64)) (v22_6 + 1))))
def f_X1_digit (T : pT) (p0 : Int32) (p1 : Int32) (p2 : Int32) : Int32 × pT := (match f_X1_lacks T p0 p1 p2 with | (r4, u4) => (if (r4 : Int32) = 0 then (g_X1_digit_22 T p0 p2 u4 (((p2 : Int32).toInt - (0 : Int32).toInt).toNat + 1) (f_X1_sizeOf u4 p1) 0) else (0, u4)))
set_option maxHeartbeats 4000000 in
set_option maxRecDepth 100000 in
theorem met_X1_digit (l : Launch) (D : va_G) (cI cJ : ClassId) (bd : Nat → Nat) (A : Nat → Prop) (T : pT) (p0 : Int32) (p1 : Int32) (p2 : Int32) : Met l yX1_digit wsX1_digit ({ frames := 3, cells := 0, slots := 0, locals := 68 } : Room) (va_Pc [.ref (bd 0), .int p0, .int p1, .int p2] (fun U => b1R D cI cJ bd T U ∧ va_D A (mmW cI cJ bd T))) (va_Qi (fun (r : Int32) (u : pT) => f_X1_digit T p0 p1 p2 = (r, u)) (fun (u : pT) t => va_P D pCl (mmW cI cJ bd u) t.heap ∧ va_D A (mmW cI cJ bd u)) A) 0 0 A := by
  refine Met.ofW (cc := cX1_digit) (maxL := 7) (ret := (some .int)) (by decide) rfl ?_
  intro p e s m args below meth c s₁ B hml hv
  obtain ⟨rfl, ⟨hP, hK⟩, hD⟩ := hv
  have hx := B.exec
  have hb := B.bytes
  have hr := B.returns
  have hts := atoms_spec (ws := wsX1_digit) B.pre
  have hown : s.vm.findClass RX1 = some m.cls := findClass_of_methodNamed B.named
  have hlocks := B.notSynchronized
  have hS : va_S A s.heap s.heap [] := va_S.rf
  have hl := lv_entry ([.ref (bd 0), .int p0, .int p1, .int p2]) (n := 7) (Nat.le_of_ble_eq_true rfl)
  rw [lg_entry_eq]
  generalize (lg_sl ([.ref (bd 0), .int p0, .int p1, .int p2]) ++ List.replicate (7 - (lg_sl ([.ref (bd 0), .int p0, .int p1, .int p2])).length) Slot.unset).toArray = ls at hl ⊢
  have hl : lv_has ls 7 [(0, .ref (bd 0)), (1, .int p0), (2, .int p1), (3, .int p2)] := hl
  obtain ⟨Q, hQ⟩ : ∃ Q : State → Prop, Q = (MQ below (va_Qi (fun (r : Int32) (u : pT) => f_X1_digit T p0 p1 p2 = (r, u)) (fun (u : pT) t => va_P D pCl (mmW cI cJ bd u) t.heap ∧ va_D A (mmW cI cJ bd u)) A) ([.ref (bd 0), .int p0, .int p1, .int p2] : List Value).toArray s 0 0 A) := ⟨_, rfl⟩
  rw [← hQ]
  have hR : f_X1_digit T p0 p1 p2 = f_X1_digit T p0 p1 p2 := rfl
  refine lv_aload_n hx hb dX1_digit_0 rfl (lv_at hl 0 rfl) ?_
  refine lv_iload_n hx hb dX1_digit_1 rfl (lv_at hl 1 rfl) ?_
  refine lv_iload_n hx hb dX1_digit_2 rfl (lv_at hl 2 rfl) ?_
  refine lv_iload_n hx hb dX1_digit_3 rfl (lv_at hl 3 rfl) ?_
  refine va_calli (va_runV (As := [.int p0, .int p1, .int p2]) (rest := []) ⟨hx, hb, hml, hown, hts⟩ (met_X1_lacks l D cI cJ bd A T p0 p1 p2) (cwV 3 hts gX1_digit_X1_lacks rfl rfl rfl (by decide +kernel) ⟨Nat.le_of_ble_eq_true rfl, Nat.le_of_ble_eq_true rfl⟩) ⟨fun a U g mk q => ⟨q.1, b1R_calling q.2.1, q.2.2⟩, va_recv hK hP (ci := 1) (q0 := 0) rfl rfl, fun U hU hW => ⟨rfl, b1R_at hP hK hU hW, hD⟩⟩ rfl rfl hl.1 rfl (lv_room (Nat.le_of_ble_eq_true rfl)) dX1_digit_4 ⟨Nat.le_of_ble_eq_true rfl, Nat.le_of_ble_eq_true rfl⟩) hS (fun q _ h => h) (fun q h => h) (fun r4 u4 t H locs ht hvm hw4 hB hz hk hS => ?_)
  obtain ⟨hw4, bz4⟩ := hw4
  obtain ⟨hP, hD⟩ := hB
  rw [ht] at hP
  refine lv_if_eq (tgt := 12) hx hb dX1_digit_7 (by decide) (fun c7 => ?_) (fun c7 => ?_)
  · skip
    have hi7 := lacks_in hw4 c7
    have hz7 := lacks_nz hw4 c7
    refine lv_aload_n hx hb dX1_digit_12 rfl (lv_at hl 0 rfl) ?_
    refine lv_iload_n hx hb dX1_digit_13 rfl (lv_at hl 2 rfl) ?_
    refine va_calll (va_runV (As := [.int p1]) (rest := []) ⟨hx, hb, hml, hown, hts⟩ (met_X1_sizeOf l D cI cJ bd u4 p1 (hi7)) (cwV 1 hts gX1_digit_X1_sizeOf rfl rfl rfl (by decide +kernel) ⟨Nat.le_of_ble_eq_true rfl, Nat.le_of_ble_eq_true rfl⟩) ⟨fun a U g mk q => ⟨q.1, b1R_calling q.2⟩, va_recv hK hP (ci := 1) (q0 := 0) rfl rfl, fun U hU hW => ⟨rfl, b1R_at hP hK hU hW⟩⟩ rfl rfl hl.1 rfl (lv_room (Nat.le_of_ble_eq_true rfl)) dX1_digit_14 ⟨Nat.le_of_ble_eq_true rfl, Nat.le_of_ble_eq_true rfl⟩) hS (fun q _ h => h.elim) (fun q h => h.elim) (fun r14 u14 t H locs ht hvm hw14 hB hz hk hS => ?_)
    subst hw14
    have hP := hP.kept (fun k q hk9 => hk _ (vx_lt hP hk9) (fun h => h))
    refine lv_lstore (lv' := [(4, .long (f_X1_sizeOf u4 p1)), (0, .ref (bd 0)), (1, .int p0), (2, .int p1), (3, .int p2)]) hx hb dX1_digit_17 hl (by decide) rfl (fun ls hl => ?_)
    refine lv_iconst (v := 0) hx hb dX1_digit_19 (by decide) ?_
    refine lv_istore (lv' := [(6, .int 0), (4, .long (f_X1_sizeOf u4 p1)), (0, .ref (bd 0)), (1, .int p0), (2, .int p1), (3, .int p2)]) hx hb dX1_digit_20 hl (by decide) rfl (fun ls hl => ?_)
    have J22 : ∀ (n22 : Nat) (v22_4 : Int64) (v22_6 : Int32) (ls : Array Slot) (H : Heap) (locs : List Loc), lv_has ls 7 [(0, .ref (bd 0)), (1, .int p0), (2, .int p1), (3, .int p2), (4, .long v22_4), (6, .int v22_6)] → va_S A s.heap H locs → va_P D pCl (mmW cI cJ bd u4) H → va_D A (mmW cI cJ bd u4) → f_X1_digit T p0 p1 p2 = g_X1_digit_22 T p0 p2 u4 n22 v22_4 v22_6 → ((p2 : Int32).toInt - v22_6.toInt).toNat < n22 → W p l e (headSpec wsX1_digit ({ frames := 3, cells := 0, slots := 0, locals := 68 } : Room)).room s m ([.ref (bd 0), .int p0, .int p1, .int p2] : List Value).toArray below meth c H locs 0 0 Q (F0 m 22 ls []) := by
      intro n22
      induction n22 with
      | zero => intro v22_4 v22_6 ls H locs hl hS hP hD hR hmu22; exact absurd hmu22 (Nat.not_lt_zero _)
      | succ n22 ih22 =>
        intro v22_4 v22_6 ls H locs hl hS hP hD hR hmu22
        refine lv_iload hx hb dX1_digit_22 (lv_at hl 5 rfl) ?_
        refine lv_iload_n hx hb dX1_digit_24 rfl (lv_at hl 3 rfl) ?_
        have J48 : ∀ (ls : Array Slot) (H : Heap) (locs : List Loc), lv_has ls 7 [(0, .ref (bd 0)), (1, .int p0), (2, .int p1), (3, .int p2), (4, .long v22_4), (6, .int v22_6)] → va_S A s.heap H locs → va_P D pCl (mmW cI cJ bd u4) H → va_D A (mmW cI cJ bd u4) → f_X1_digit T p0 p1 p2 = g_X1_digit_48 p0 u4 v22_4 → W p l e (headSpec wsX1_digit ({ frames := 3, cells := 0, slots := 0, locals := 68 } : Room)).room s m ([.ref (bd 0), .int p0, .int p1, .int p2] : List Value).toArray below meth c H locs 0 0 Q (F0 m 48 ls []) := by
          intro ls H locs hl hS hP hD hR
          refine lv_lload hx hb dX1_digit_48 (lv_at hl 4 rfl) ?_
          refine lv_iload_n hx hb dX1_digit_50 rfl (lv_at hl 1 rfl) ?_
          refine lv_i2l hx hb dX1_digit_51 rfl ?_
          refine lv_lrem hx hb dX1_digit_52 (hz7) ?_
          refine lv_l2i hx hb dX1_digit_53 rfl ?_
          rw [hQ]
          exact W.iret (v := (((v22_4 - v22_4 / ((p0 : Int32).toInt64) * ((p0 : Int32).toInt64)) : Int64).toInt32)) hx hb hr (fun t ht hW => ⟨⟨(((v22_4 - v22_4 / ((p0 : Int32).toInt64) * ((p0 : Int32).toInt64)) : Int64).toInt32), u4, rfl, (hR.trans (by simp only [g_X1_digit_48])), by rw [ht]; exact hP, hD⟩, hS.F ht⟩) hS.2.2 dX1_digit_54
        refine lv_icmp_ge (tgt := 48) hx hb dX1_digit_25 (by decide) (fun c25 => ?_) (fun c25 => ?_)
        · skip
          exact J48 ls _ _ (lv_sub hl [0, 1, 2, 3, 4, 5] rfl) hS hP hD (hR.trans (by simp only [g_X1_digit_22, if_pos c25]))
        · skip
          refine lv_lload hx hb dX1_digit_28 (lv_at hl 4 rfl) ?_
          refine lv_lconst (v := 0) hx hb dX1_digit_30 rfl ?_
          refine W.lcmp hx hb dX1_digit_31 ?_
          refine lv_if_le (tgt := 48) hx hb dX1_digit_32 (by decide) (fun c31 => ?_) (fun c31 => ?_)
          · skip
            have c31 : (v22_4 : Int64) ≤ 0 := (lg_cmp_le _ _).mp c31
            exact J48 ls _ _ (lv_sub hl [0, 1, 2, 3, 4, 5] rfl) hS hP hD (hR.trans (by simp only [g_X1_digit_22, if_neg c25, if_pos c31]))
          · skip
            have c31 : ¬ ((v22_4 : Int64) ≤ 0) := fun h => c31 ((lg_cmp_le _ _).mpr h)
            refine lv_lload hx hb dX1_digit_35 (lv_at hl 4 rfl) ?_
            refine lv_iload_n hx hb dX1_digit_37 rfl (lv_at hl 1 rfl) ?_
            refine lv_i2l hx hb dX1_digit_38 rfl ?_
            refine lv_ldiv hx hb dX1_digit_39 (hz7) ?_
            refine lv_lstore (lv' := [(4, .long (v22_4 / ((p0 : Int32).toInt64))), (0, .ref (bd 0)), (1, .int p0), (2, .int p1), (3, .int p2), (6, .int v22_6)]) hx hb dX1_digit_40 hl (by decide) rfl (fun ls hl => ?_)
            refine lv_iinc (v := (v22_6 + 1)) (lv' := [(6, .int (v22_6 + 1)), (4, .long (v22_4 / ((p0 : Int32).toInt64))), (0, .ref (bd 0)), (1, .int p0), (2, .int p1), (3, .int p2)]) hx hb dX1_digit_42 hl (k := 5) rfl (by rfl) (by decide) rfl (fun ls hl => ?_)
            refine lv_goto (tgt := 22) hx hb dX1_digit_45 (by decide) ?_
            exact ih22 (v22_4 / ((p0 : Int32).toInt64)) (v22_6 + 1) ls _ _ (lv_sub hl [2, 3, 4, 5, 1, 0] rfl) hS hP hD (hR.trans (by simp only [g_X1_digit_22, if_neg c25, if_neg c31])) (mu_up c25 hmu22)
    exact J22 (((p2 : Int32).toInt - (0 : Int32).toInt).toNat + 1) (f_X1_sizeOf u4 p1) 0 ls _ _ (lv_sub hl [2, 3, 4, 5, 1, 0] rfl) hS hP hD (hR.trans (by simp only [f_X1_digit, hw4, if_pos c7])) (Nat.lt_succ_self _)
  · skip
    refine lv_iconst (v := 0) hx hb dX1_digit_10 (by decide) ?_
    rw [hQ]
    exact W.iret (v := 0) hx hb hr (fun t ht hW => ⟨⟨0, u4, rfl, (hR.trans (by simp only [f_X1_digit, hw4, if_neg c7])), by rw [ht]; exact hP, hD⟩, hS.F ht⟩) hS.2.2 dX1_digit_11

def g_X1_root_116 (rec76 : Int32 → Int32 → (Int32 × pT)) (p1 : Int32) (u56 : pT) (v76_5 : Int32) (v76_6 : Int32) (v89_7 : Int64) : Int32 × pT := (if ((f_X1_sizeOf u56 p1) : Int64) < v89_7 then (rec76 v76_5 (v76_6 + 1)) else (rec76 v76_6 (v76_6 + 1)))
def g_X1_root_89 (rec76 : Int32 → Int32 → (Int32 × pT)) (T : pT) (p0 : Int32) (p1 : Int32) (u56 : pT) (v76_5 : Int32) (v76_6 : Int32) : Nat → Int64 → Int32 → (Int32 × pT)
  | 0, _, _ => (0, T)
  | n + 1, v89_7, v89_9 => (if (p0 : Int32) ≤ v89_9 then (g_X1_root_116 rec76 p1 u56 v76_5 v76_6 v89_7) else (if ((f_X1_sizeOf u56 p1) : Int64) < v89_7 then (g_X1_root_116 rec76 p1 u56 v76_5 v76_6 v89_7) else (g_X1_root_89 rec76 T p0 p1 u56 v76_5 v76_6 n (v89_7 * ((v76_6 : Int32).toInt64)) (v89_9 + 1))))
def g_X1_root_76 (T : pT) (p0 : Int32) (p1 : Int32) (u56 : pT) : Nat → Int32 → Int32 → (Int32 × pT)
  | 0, _, _ => (0, T)
  | n + 1, v76_5, v76_6 => (if (64 : Int32) < v76_6 then (v76_5, u56) else (g_X1_root_89 (fun a0 a1 => g_X1_root_76 T p0 p1 u56 n a0 a1) T p0 p1 u56 v76_5 v76_6 (((p0 : Int32).toInt - (0 : Int32).toInt).toNat + 1) 1 0))
def g_X1_root_55 (T : pT) (p0 : Int32) (p1 : Int32) (u34 : pT) (w55_0 : Int32) : Int32 × pT := (match f_X1_no u34 w55_0 4 with | (r56, u56) => (if (r56 : Int32) = 0 then (g_X1_root_76 T p0 p1 u56 (((64 : Int32).toInt - (1 : Int32).toInt + 1).toNat + 1) 0 1) else (0, u56)))
def f_X1_root (T : pT) (p0 : Int32) (p1 : Int32) : Int32 × pT := (match f_X1_no T (f_X1_isSlot p1) 1 with | (r6, u6) => (if (r6 : Int32) = 0 then (match f_X1_no u6 (f_X1_isFrom p0 1 53) 2 with | (r21, u21) => (if (r21 : Int32) = 0 then (match f_X1_no u21 (f_X1_isNear u21 p1) 3 with | (r34, u34) => (if (r34 : Int32) = 0 then (if (((sgT u34) p1.toNatClampNeg) : Int32) < 0 then (g_X1_root_55 T p0 p1 u34 0) else (g_X1_root_55 T p0 p1 u34 1)) else (0, u34))) else (0, u21))) else (0, u6)))
set_option maxHeartbeats 4000000 in
set_option maxRecDepth 100000 in
theorem met_X1_root (l : Launch) (D : va_G) (cI cJ : ClassId) (bd : Nat → Nat) (A : Nat → Prop) (T : pT) (p0 : Int32) (p1 : Int32) : Met l yX1_root wsX1_root ({ frames := 2, cells := 0, slots := 0, locals := 45 } : Room) (va_Pc [.ref (bd 0), .int p0, .int p1] (fun U => b1R D cI cJ bd T U ∧ va_D A (mmW cI cJ bd T))) (va_Qi (fun (r : Int32) (u : pT) => f_X1_root T p0 p1 = (r, u)) (fun (u : pT) t => va_P D pCl (mmW cI cJ bd u) t.heap ∧ va_D A (mmW cI cJ bd u)) A) 0 0 A := by
  refine Met.ofW (cc := cX1_root) (maxL := 10) (ret := (some .int)) (by decide) rfl ?_
  intro p e s m args below meth c s₁ B hml hv
  obtain ⟨rfl, ⟨hP, hK⟩, hD⟩ := hv
  have hx := B.exec
  have hb := B.bytes
  have hr := B.returns
  have hts := atoms_spec (ws := wsX1_root) B.pre
  have hown : s.vm.findClass RX1 = some m.cls := findClass_of_methodNamed B.named
  have hlocks := B.notSynchronized
  have hS : va_S A s.heap s.heap [] := va_S.rf
  have hin : ∀ w ∈ wsX10, w ∈ wsX1_root := by decide +kernel
  have hf9 := hts (.fieldLink RX1 9 "PowermillModel" "sign" "[I") (by decide +kernel)
  have hl := lv_entry ([.ref (bd 0), .int p0, .int p1]) (n := 10) (Nat.le_of_ble_eq_true rfl)
  rw [lg_entry_eq]
  generalize (lg_sl ([.ref (bd 0), .int p0, .int p1]) ++ List.replicate (10 - (lg_sl ([.ref (bd 0), .int p0, .int p1])).length) Slot.unset).toArray = ls at hl ⊢
  have hl : lv_has ls 10 [(0, .ref (bd 0)), (1, .int p0), (2, .int p1)] := hl
  obtain ⟨Q, hQ⟩ : ∃ Q : State → Prop, Q = (MQ below (va_Qi (fun (r : Int32) (u : pT) => f_X1_root T p0 p1 = (r, u)) (fun (u : pT) t => va_P D pCl (mmW cI cJ bd u) t.heap ∧ va_D A (mmW cI cJ bd u)) A) ([.ref (bd 0), .int p0, .int p1] : List Value).toArray s 0 0 A) := ⟨_, rfl⟩
  rw [← hQ]
  have hR : f_X1_root T p0 p1 = f_X1_root T p0 p1 := rfl
  refine lv_aload_n hx hb dX1_root_0 rfl (lv_at hl 0 rfl) ?_
  refine lv_iload_n hx hb dX1_root_1 rfl (lv_at hl 2 rfl) ?_
  refine va_calli (va_runS (As := [.int p1]) (rest := [.ref (bd 0)]) ⟨hx, hb, hml, hown, hts⟩ (met_X1_isSlot l p1) (va_cwS 1 hts gX1_root_X1_isSlot rfl rfl rfl (by decide +kernel) ⟨Nat.le_of_ble_eq_true rfl, Nat.le_of_ble_eq_true rfl⟩) ⟨fun a U g mk q => q, fun U hU hW => ⟨rfl, trivial⟩⟩ rfl rfl hl.1 rfl (lv_room (Nat.le_of_ble_eq_true rfl)) dX1_root_2 ⟨Nat.le_of_ble_eq_true rfl, Nat.le_of_ble_eq_true rfl⟩) hS (fun q _ h => h.elim) (fun q h => h.elim) (fun r2 u2 t H locs ht hvm hw2 hB hz hk hS => ?_)
  obtain ⟨hw2, bz2⟩ := hw2
  subst hw2
  have hP := hP.kept (fun k q hk9 => hk _ (vx_lt hP hk9) (fun h => h))
  refine lv_iconst (v := 1) hx hb dX1_root_5 (by decide) ?_
  refine va_calli (va_runV (As := [.int (f_X1_isSlot p1), .int 1]) (rest := []) ⟨hx, hb, hml, hown, hts⟩ (met_X1_no l D cI cJ bd A T (f_X1_isSlot p1) 1) (cwV 2 hts gX1_root_X1_no rfl rfl rfl (by decide +kernel) ⟨Nat.le_of_ble_eq_true rfl, Nat.le_of_ble_eq_true rfl⟩) ⟨fun a U g mk q => ⟨q.1, b1R_calling q.2.1, q.2.2⟩, va_recv hK hP (ci := 1) (q0 := 0) rfl rfl, fun U hU hW => ⟨rfl, b1R_at hP hK hU hW, hD⟩⟩ rfl rfl hl.1 rfl (lv_room (Nat.le_of_ble_eq_true rfl)) dX1_root_6 ⟨Nat.le_of_ble_eq_true rfl, Nat.le_of_ble_eq_true rfl⟩) hS (fun q _ h => h) (fun q h => h) (fun r6 u6 t H locs ht hvm hw6 hB hz hk hS => ?_)
  obtain ⟨hw6, bz6⟩ := hw6
  obtain ⟨hP, hD⟩ := hB
  rw [ht] at hP
  refine lv_if_ne (tgt := 62) hx hb dX1_root_9 (by decide) (fun c9 => ?_) (fun c9 => ?_)
  · skip
    refine lv_iconst (v := 0) hx hb dX1_root_62 (by decide) ?_
    rw [hQ]
    exact W.iret (v := 0) hx hb hr (fun t ht hW => ⟨⟨0, u6, rfl, (hR.trans (by simp only [f_X1_root, hw6, if_neg c9])), by rw [ht]; exact hP, hD⟩, hS.F ht⟩) hS.2.2 dX1_root_63
  · skip
    have hi9 := isSlot_in (no_ok hw6 c9)
    refine lv_aload_n hx hb dX1_root_12 rfl (lv_at hl 0 rfl) ?_
    refine lv_iload_n hx hb dX1_root_13 rfl (lv_at hl 1 rfl) ?_
    refine lv_iconst (v := 1) hx hb dX1_root_14 (by decide) ?_
    refine lv_bipush (v := 53) hx hb dX1_root_15 (by decide) ?_
    refine va_calli (va_runS (As := [.int p0, .int 1, .int 53]) (rest := [.ref (bd 0)]) ⟨hx, hb, hml, hown, hts⟩ (met_X1_isFrom l p0 1 53) (va_cwS 3 hts gX1_root_X1_isFrom rfl rfl rfl (by decide +kernel) ⟨Nat.le_of_ble_eq_true rfl, Nat.le_of_ble_eq_true rfl⟩) ⟨fun a U g mk q => q, fun U hU hW => ⟨rfl, trivial⟩⟩ rfl rfl hl.1 rfl (lv_room (Nat.le_of_ble_eq_true rfl)) dX1_root_17 ⟨Nat.le_of_ble_eq_true rfl, Nat.le_of_ble_eq_true rfl⟩) hS (fun q _ h => h.elim) (fun q h => h.elim) (fun r17 u17 t H locs ht hvm hw17 hB hz hk hS => ?_)
    obtain ⟨hw17, bz17⟩ := hw17
    subst hw17
    have hP := hP.kept (fun k q hk9 => hk _ (vx_lt hP hk9) (fun h => h))
    refine lv_iconst (v := 2) hx hb dX1_root_20 (by decide) ?_
    refine va_calli (va_runV (As := [.int (f_X1_isFrom p0 1 53), .int 2]) (rest := []) ⟨hx, hb, hml, hown, hts⟩ (met_X1_no l D cI cJ bd A u6 (f_X1_isFrom p0 1 53) 2) (cwV 2 hts gX1_root_X1_no rfl rfl rfl (by decide +kernel) ⟨Nat.le_of_ble_eq_true rfl, Nat.le_of_ble_eq_true rfl⟩) ⟨fun a U g mk q => ⟨q.1, b1R_calling q.2.1, q.2.2⟩, va_recv hK hP (ci := 1) (q0 := 0) rfl rfl, fun U hU hW => ⟨rfl, b1R_at hP hK hU hW, hD⟩⟩ rfl rfl hl.1 rfl (lv_room (Nat.le_of_ble_eq_true rfl)) dX1_root_21 ⟨Nat.le_of_ble_eq_true rfl, Nat.le_of_ble_eq_true rfl⟩) hS (fun q _ h => h) (fun q h => h) (fun r21 u21 t H locs ht hvm hw21 hB hz hk hS => ?_)
    obtain ⟨hw21, bz21⟩ := hw21
    obtain ⟨hP, hD⟩ := hB
    rw [ht] at hP
    refine lv_if_ne (tgt := 62) hx hb dX1_root_24 (by decide) (fun c24 => ?_) (fun c24 => ?_)
    · skip
      refine lv_iconst (v := 0) hx hb dX1_root_62 (by decide) ?_
      rw [hQ]
      exact W.iret (v := 0) hx hb hr (fun t ht hW => ⟨⟨0, u21, rfl, (hR.trans (by simp only [f_X1_root, hw6, if_pos c9, hw21, if_neg c24])), by rw [ht]; exact hP, hD⟩, hS.F ht⟩) hS.2.2 dX1_root_63
    · skip
      refine lv_aload_n hx hb dX1_root_27 rfl (lv_at hl 0 rfl) ?_
      refine lv_aload_n hx hb dX1_root_28 rfl (lv_at hl 0 rfl) ?_
      refine lv_iload_n hx hb dX1_root_29 rfl (lv_at hl 2 rfl) ?_
      refine va_calli (va_runV (As := [.int p1]) (rest := [.ref (bd 0)]) ⟨hx, hb, hml, hown, hts⟩ (met_X1_isNear l D cI cJ bd u21 p1 (hi9)) (cwV 1 hts gX1_root_X1_isNear rfl rfl rfl (by decide +kernel) ⟨Nat.le_of_ble_eq_true rfl, Nat.le_of_ble_eq_true rfl⟩) ⟨fun a U g mk q => ⟨q.1, b1R_calling q.2⟩, va_recv hK hP (ci := 1) (q0 := 0) rfl rfl, fun U hU hW => ⟨rfl, b1R_at hP hK hU hW⟩⟩ rfl rfl hl.1 rfl (lv_room (Nat.le_of_ble_eq_true rfl)) dX1_root_30 ⟨Nat.le_of_ble_eq_true rfl, Nat.le_of_ble_eq_true rfl⟩) hS (fun q _ h => h.elim) (fun q h => h.elim) (fun r30 u30 t H locs ht hvm hw30 hB hz hk hS => ?_)
      obtain ⟨hw30, bz30⟩ := hw30
      subst hw30
      have hP := hP.kept (fun k q hk9 => hk _ (vx_lt hP hk9) (fun h => h))
      refine lv_iconst (v := 3) hx hb dX1_root_33 (by decide) ?_
      refine va_calli (va_runV (As := [.int (f_X1_isNear u21 p1), .int 3]) (rest := []) ⟨hx, hb, hml, hown, hts⟩ (met_X1_no l D cI cJ bd A u21 (f_X1_isNear u21 p1) 3) (cwV 2 hts gX1_root_X1_no rfl rfl rfl (by decide +kernel) ⟨Nat.le_of_ble_eq_true rfl, Nat.le_of_ble_eq_true rfl⟩) ⟨fun a U g mk q => ⟨q.1, b1R_calling q.2.1, q.2.2⟩, va_recv hK hP (ci := 1) (q0 := 0) rfl rfl, fun U hU hW => ⟨rfl, b1R_at hP hK hU hW, hD⟩⟩ rfl rfl hl.1 rfl (lv_room (Nat.le_of_ble_eq_true rfl)) dX1_root_34 ⟨Nat.le_of_ble_eq_true rfl, Nat.le_of_ble_eq_true rfl⟩) hS (fun q _ h => h) (fun q h => h) (fun r34 u34 t H locs ht hvm hw34 hB hz hk hS => ?_)
      obtain ⟨hw34, bz34⟩ := hw34
      obtain ⟨hP, hD⟩ := hB
      rw [ht] at hP
      refine lv_if_ne (tgt := 62) hx hb dX1_root_37 (by decide) (fun c37 => ?_) (fun c37 => ?_)
      · skip
        refine lv_iconst (v := 0) hx hb dX1_root_62 (by decide) ?_
        rw [hQ]
        exact W.iret (v := 0) hx hb hr (fun t ht hW => ⟨⟨0, u34, rfl, (hR.trans (by simp only [f_X1_root, hw6, if_pos c9, hw21, if_pos c24, hw34, if_neg c37])), by rw [ht]; exact hP, hD⟩, hS.F ht⟩) hS.2.2 dX1_root_63
      · skip
        refine lv_aload_n hx hb dX1_root_40 rfl (lv_at hl 0 rfl) ?_
        refine lv_aload_n hx hb dX1_root_41 rfl (lv_at hl 0 rfl) ?_
        refine va_get (D := D) (ci := 1) (v := .ref (bd 1)) (C := RX1) (T := TX1) (N := 12) hx hb hts hin hown hK hP 0 rfl rfl 0 (by decide) hf9 (fun _ h9 => h9) rfl dX1_root_42 ?_
        refine lv_iload_n hx hb dX1_root_45 rfl (lv_at hl 2 rfl) ?_
        refine va_iald hx hb hK hP 1 0 rfl rfl hi9 dX1_root_46 ?_
        have J55 : ∀ (w55_0 : Int32) (ls : Array Slot) (H : Heap) (locs : List Loc), lv_has ls 10 [(0, .ref (bd 0)), (1, .int p0), (2, .int p1)] → va_S A s.heap H locs → va_P D pCl (mmW cI cJ bd u34) H → va_D A (mmW cI cJ bd u34) → (w55_0 = 0 ∨ w55_0 = 1) → f_X1_root T p0 p1 = g_X1_root_55 T p0 p1 u34 w55_0 → W p l e (headSpec wsX1_root ({ frames := 2, cells := 0, slots := 0, locals := 45 } : Room)).room s m ([.ref (bd 0), .int p0, .int p1] : List Value).toArray below meth c H locs 0 0 Q (F0 m 55 ls [.int w55_0, .ref (bd 0)]) := by
          intro w55_0 ls H locs hl hS hP hD hb_w55_0 hR
          refine lv_iconst (v := 4) hx hb dX1_root_55 (by decide) ?_
          refine va_calli (va_runV (As := [.int w55_0, .int 4]) (rest := []) ⟨hx, hb, hml, hown, hts⟩ (met_X1_no l D cI cJ bd A u34 w55_0 4) (cwV 2 hts gX1_root_X1_no rfl rfl rfl (by decide +kernel) ⟨Nat.le_of_ble_eq_true rfl, Nat.le_of_ble_eq_true rfl⟩) ⟨fun a U g mk q => ⟨q.1, b1R_calling q.2.1, q.2.2⟩, va_recv hK hP (ci := 1) (q0 := 0) rfl rfl, fun U hU hW => ⟨rfl, b1R_at hP hK hU hW, hD⟩⟩ rfl rfl hl.1 rfl (lv_room (Nat.le_of_ble_eq_true rfl)) dX1_root_56 ⟨Nat.le_of_ble_eq_true rfl, Nat.le_of_ble_eq_true rfl⟩) hS (fun q _ h => h) (fun q h => h) (fun r56 u56 t H locs ht hvm hw56 hB hz hk hS => ?_)
          obtain ⟨hw56, bz56⟩ := hw56
          obtain ⟨hP, hD⟩ := hB
          rw [ht] at hP
          refine lv_if_eq (tgt := 64) hx hb dX1_root_59 (by decide) (fun c59 => ?_) (fun c59 => ?_)
          · skip
            refine lv_aload_n hx hb dX1_root_64 rfl (lv_at hl 0 rfl) ?_
            refine lv_iload_n hx hb dX1_root_65 rfl (lv_at hl 2 rfl) ?_
            refine va_calll (va_runV (As := [.int p1]) (rest := []) ⟨hx, hb, hml, hown, hts⟩ (met_X1_sizeOf l D cI cJ bd u56 p1 (hi9)) (cwV 1 hts gX1_root_X1_sizeOf rfl rfl rfl (by decide +kernel) ⟨Nat.le_of_ble_eq_true rfl, Nat.le_of_ble_eq_true rfl⟩) ⟨fun a U g mk q => ⟨q.1, b1R_calling q.2⟩, va_recv hK hP (ci := 1) (q0 := 0) rfl rfl, fun U hU hW => ⟨rfl, b1R_at hP hK hU hW⟩⟩ rfl rfl hl.1 rfl (lv_room (Nat.le_of_ble_eq_true rfl)) dX1_root_66 ⟨Nat.le_of_ble_eq_true rfl, Nat.le_of_ble_eq_true rfl⟩) hS (fun q _ h => h.elim) (fun q h => h.elim) (fun r66 u66 t H locs ht hvm hw66 hB hz hk hS => ?_)
            subst hw66
            have hP := hP.kept (fun k q hk9 => hk _ (vx_lt hP hk9) (fun h => h))
            refine lv_lstore_n (lv' := [(3, .long (f_X1_sizeOf u56 p1)), (0, .ref (bd 0)), (1, .int p0), (2, .int p1)]) hx hb dX1_root_69 rfl hl (by decide) rfl (fun ls hl => ?_)
            refine lv_iconst (v := 0) hx hb dX1_root_70 (by decide) ?_
            refine lv_istore (lv' := [(5, .int 0), (3, .long (f_X1_sizeOf u56 p1)), (0, .ref (bd 0)), (1, .int p0), (2, .int p1)]) hx hb dX1_root_71 hl (by decide) rfl (fun ls hl => ?_)
            refine lv_iconst (v := 1) hx hb dX1_root_73 (by decide) ?_
            refine lv_istore (lv' := [(6, .int 1), (5, .int 0), (3, .long (f_X1_sizeOf u56 p1)), (0, .ref (bd 0)), (1, .int p0), (2, .int p1)]) hx hb dX1_root_74 hl (by decide) rfl (fun ls hl => ?_)
            have J76 : ∀ (n76 : Nat) (v76_5 : Int32) (v76_6 : Int32) (ls : Array Slot) (H : Heap) (locs : List Loc), lv_has ls 10 [(0, .ref (bd 0)), (1, .int p0), (2, .int p1), (3, .long (f_X1_sizeOf u56 p1)), (5, .int v76_5), (6, .int v76_6)] → va_S A s.heap H locs → va_P D pCl (mmW cI cJ bd u56) H → va_D A (mmW cI cJ bd u56) → f_X1_root T p0 p1 = g_X1_root_76 T p0 p1 u56 n76 v76_5 v76_6 → ((64 : Int32).toInt - v76_6.toInt + 1).toNat < n76 → W p l e (headSpec wsX1_root ({ frames := 2, cells := 0, slots := 0, locals := 45 } : Room)).room s m ([.ref (bd 0), .int p0, .int p1] : List Value).toArray below meth c H locs 0 0 Q (F0 m 76 ls []) := by
              intro n76
              induction n76 with
              | zero => intro v76_5 v76_6 ls H locs hl hS hP hD hR hmu76; exact absurd hmu76 (Nat.not_lt_zero _)
              | succ n76 ih76 =>
                intro v76_5 v76_6 ls H locs hl hS hP hD hR hmu76
                refine lv_iload hx hb dX1_root_76 (lv_at hl 5 rfl) ?_
                refine lv_bipush (v := 64) hx hb dX1_root_78 (by decide) ?_
                refine lv_icmp_gt (tgt := 133) hx hb dX1_root_80 (by decide) (fun c80 => ?_) (fun c80 => ?_)
                · skip
                  refine lv_iload hx hb dX1_root_133 (lv_at hl 4 rfl) ?_
                  rw [hQ]
                  exact W.iret (v := v76_5) hx hb hr (fun t ht hW => ⟨⟨v76_5, u56, rfl, (hR.trans (by simp only [g_X1_root_76, if_pos c80])), by rw [ht]; exact hP, hD⟩, hS.F ht⟩) hS.2.2 dX1_root_135
                · skip
                  refine lv_lconst (v := 1) hx hb dX1_root_83 rfl ?_
                  refine lv_lstore (lv' := [(7, .long 1), (0, .ref (bd 0)), (1, .int p0), (2, .int p1), (3, .long (f_X1_sizeOf u56 p1)), (5, .int v76_5), (6, .int v76_6)]) hx hb dX1_root_84 hl (by decide) rfl (fun ls hl => ?_)
                  refine lv_iconst (v := 0) hx hb dX1_root_86 (by decide) ?_
                  refine lv_istore (lv' := [(9, .int 0), (7, .long 1), (0, .ref (bd 0)), (1, .int p0), (2, .int p1), (3, .long (f_X1_sizeOf u56 p1)), (5, .int v76_5), (6, .int v76_6)]) hx hb dX1_root_87 hl (by decide) rfl (fun ls hl => ?_)
                  have J89 : ∀ (n89 : Nat) (v89_7 : Int64) (v89_9 : Int32) (ls : Array Slot) (H : Heap) (locs : List Loc), lv_has ls 10 [(0, .ref (bd 0)), (1, .int p0), (2, .int p1), (3, .long (f_X1_sizeOf u56 p1)), (5, .int v76_5), (6, .int v76_6), (7, .long v89_7), (9, .int v89_9)] → va_S A s.heap H locs → va_P D pCl (mmW cI cJ bd u56) H → va_D A (mmW cI cJ bd u56) → f_X1_root T p0 p1 = g_X1_root_89 (fun a0 a1 => g_X1_root_76 T p0 p1 u56 n76 a0 a1) T p0 p1 u56 v76_5 v76_6 n89 v89_7 v89_9 → ((p0 : Int32).toInt - v89_9.toInt).toNat < n89 → W p l e (headSpec wsX1_root ({ frames := 2, cells := 0, slots := 0, locals := 45 } : Room)).room s m ([.ref (bd 0), .int p0, .int p1] : List Value).toArray below meth c H locs 0 0 Q (F0 m 89 ls []) := by
                    intro n89
                    induction n89 with
                    | zero => intro v89_7 v89_9 ls H locs hl hS hP hD hR hmu89; exact absurd hmu89 (Nat.not_lt_zero _)
                    | succ n89 ih89 =>
                      intro v89_7 v89_9 ls H locs hl hS hP hD hR hmu89
                      refine lv_iload hx hb dX1_root_89 (lv_at hl 7 rfl) ?_
                      refine lv_iload_n hx hb dX1_root_91 rfl (lv_at hl 1 rfl) ?_
                      have J116 : ∀ (ls : Array Slot) (H : Heap) (locs : List Loc), lv_has ls 10 [(0, .ref (bd 0)), (1, .int p0), (2, .int p1), (3, .long (f_X1_sizeOf u56 p1)), (5, .int v76_5), (6, .int v76_6), (7, .long v89_7), (9, .int v89_9)] → va_S A s.heap H locs → va_P D pCl (mmW cI cJ bd u56) H → va_D A (mmW cI cJ bd u56) → f_X1_root T p0 p1 = g_X1_root_116 (fun a0 a1 => g_X1_root_76 T p0 p1 u56 n76 a0 a1) p1 u56 v76_5 v76_6 v89_7 → W p l e (headSpec wsX1_root ({ frames := 2, cells := 0, slots := 0, locals := 45 } : Room)).room s m ([.ref (bd 0), .int p0, .int p1] : List Value).toArray below meth c H locs 0 0 Q (F0 m 116 ls []) := by
                        intro ls H locs hl hS hP hD hR
                        refine lv_lload hx hb dX1_root_116 (lv_at hl 6 rfl) ?_
                        refine lv_lload_n hx hb dX1_root_118 rfl (lv_at hl 3 rfl) ?_
                        refine W.lcmp hx hb dX1_root_119 ?_
                        refine lv_if_gt (tgt := 127) hx hb dX1_root_120 (by decide) (fun c119 => ?_) (fun c119 => ?_)
                        · skip
                          have c119 : ((f_X1_sizeOf u56 p1) : Int64) < v89_7 := (lg_cmp_gt _ _).mp c119
                          refine lv_iinc (v := (v76_6 + 1)) (lv' := [(6, .int (v76_6 + 1)), (0, .ref (bd 0)), (1, .int p0), (2, .int p1), (3, .long (f_X1_sizeOf u56 p1)), (5, .int v76_5), (7, .long v89_7), (9, .int v89_9)]) hx hb dX1_root_127 hl (k := 5) rfl (by rfl) (by decide) rfl (fun ls hl => ?_)
                          refine lv_goto (tgt := 76) hx hb dX1_root_130 (by decide) ?_
                          exact ih76 v76_5 (v76_6 + 1) ls _ _ (lv_sub hl [1, 2, 3, 4, 5, 0] rfl) hS hP hD (hR.trans (by simp only [g_X1_root_116, if_pos c119])) (mu_upE (by decide) c80 hmu76)
                        · skip
                          have c119 : ¬ (((f_X1_sizeOf u56 p1) : Int64) < v89_7) := fun h => c119 ((lg_cmp_gt _ _).mpr h)
                          refine lv_iload hx hb dX1_root_123 (lv_at hl 5 rfl) ?_
                          refine lv_istore (lv' := [(5, .int v76_6), (0, .ref (bd 0)), (1, .int p0), (2, .int p1), (3, .long (f_X1_sizeOf u56 p1)), (6, .int v76_6), (7, .long v89_7), (9, .int v89_9)]) hx hb dX1_root_125 hl (by decide) rfl (fun ls hl => ?_)
                          refine lv_iinc (v := (v76_6 + 1)) (lv' := [(6, .int (v76_6 + 1)), (5, .int v76_6), (0, .ref (bd 0)), (1, .int p0), (2, .int p1), (3, .long (f_X1_sizeOf u56 p1)), (7, .long v89_7), (9, .int v89_9)]) hx hb dX1_root_127 hl (k := 5) rfl (by rfl) (by decide) rfl (fun ls hl => ?_)
                          refine lv_goto (tgt := 76) hx hb dX1_root_130 (by decide) ?_
                          exact ih76 v76_6 (v76_6 + 1) ls _ _ (lv_sub hl [2, 3, 4, 5, 1, 0] rfl) hS hP hD (hR.trans (by simp only [g_X1_root_116, if_neg c119])) (mu_upE (by decide) c80 hmu76)
                      refine lv_icmp_ge (tgt := 116) hx hb dX1_root_92 (by decide) (fun c92 => ?_) (fun c92 => ?_)
                      · skip
                        exact J116 ls _ _ (lv_sub hl [0, 1, 2, 3, 4, 5, 6, 7] rfl) hS hP hD (hR.trans (by simp only [g_X1_root_89, if_pos c92]))
                      · skip
                        refine lv_lload hx hb dX1_root_95 (lv_at hl 6 rfl) ?_
                        refine lv_lload_n hx hb dX1_root_97 rfl (lv_at hl 3 rfl) ?_
                        refine W.lcmp hx hb dX1_root_98 ?_
                        refine lv_if_gt (tgt := 116) hx hb dX1_root_99 (by decide) (fun c98 => ?_) (fun c98 => ?_)
                        · skip
                          have c98 : ((f_X1_sizeOf u56 p1) : Int64) < v89_7 := (lg_cmp_gt _ _).mp c98
                          exact J116 ls _ _ (lv_sub hl [0, 1, 2, 3, 4, 5, 6, 7] rfl) hS hP hD (hR.trans (by simp only [g_X1_root_89, if_neg c92, if_pos c98]))
                        · skip
                          have c98 : ¬ (((f_X1_sizeOf u56 p1) : Int64) < v89_7) := fun h => c98 ((lg_cmp_gt _ _).mpr h)
                          refine lv_lload hx hb dX1_root_102 (lv_at hl 6 rfl) ?_
                          refine lv_iload hx hb dX1_root_104 (lv_at hl 5 rfl) ?_
                          refine lv_i2l hx hb dX1_root_106 rfl ?_
                          refine lv_lmul hx hb dX1_root_107 ?_
                          refine lv_lstore (lv' := [(7, .long (v89_7 * ((v76_6 : Int32).toInt64))), (0, .ref (bd 0)), (1, .int p0), (2, .int p1), (3, .long (f_X1_sizeOf u56 p1)), (5, .int v76_5), (6, .int v76_6), (9, .int v89_9)]) hx hb dX1_root_108 hl (by decide) rfl (fun ls hl => ?_)
                          refine lv_iinc (v := (v89_9 + 1)) (lv' := [(9, .int (v89_9 + 1)), (7, .long (v89_7 * ((v76_6 : Int32).toInt64))), (0, .ref (bd 0)), (1, .int p0), (2, .int p1), (3, .long (f_X1_sizeOf u56 p1)), (5, .int v76_5), (6, .int v76_6)]) hx hb dX1_root_110 hl (k := 7) rfl (by rfl) (by decide) rfl (fun ls hl => ?_)
                          refine lv_goto (tgt := 89) hx hb dX1_root_113 (by decide) ?_
                          exact ih89 (v89_7 * ((v76_6 : Int32).toInt64)) (v89_9 + 1) ls _ _ (lv_sub hl [2, 3, 4, 5, 6, 7, 1, 0] rfl) hS hP hD (hR.trans (by simp only [g_X1_root_89, if_neg c92, if_neg c98])) (mu_up c92 hmu89)
                  exact J89 (((p0 : Int32).toInt - (0 : Int32).toInt).toNat + 1) 1 0 ls _ _ (lv_sub hl [2, 3, 4, 5, 6, 7, 1, 0] rfl) hS hP hD (hR.trans (by simp only [g_X1_root_76, if_neg c80])) (Nat.lt_succ_self _)
            exact J76 (((64 : Int32).toInt - (1 : Int32).toInt + 1).toNat + 1) 0 1 ls _ _ (lv_sub hl [3, 4, 5, 2, 1, 0] rfl) hS hP hD (hR.trans (by simp only [g_X1_root_55, hw56, if_pos c59])) (Nat.lt_succ_self _)
          · skip
            refine lv_iconst (v := 0) hx hb dX1_root_62 (by decide) ?_
            rw [hQ]
            exact W.iret (v := 0) hx hb hr (fun t ht hW => ⟨⟨0, u56, rfl, (hR.trans (by simp only [g_X1_root_55, hw56, if_neg c59])), by rw [ht]; exact hP, hD⟩, hS.F ht⟩) hS.2.2 dX1_root_63
        refine lv_if_lt (tgt := 54) hx hb dX1_root_47 (by decide) (fun c47 => ?_) (fun c47 => ?_)
        · skip
          refine lv_iconst (v := 0) hx hb dX1_root_54 (by decide) ?_
          exact J55 0 ls _ _ (lv_sub hl [0, 1, 2] rfl) hS hP hD (Or.inl rfl) (hR.trans (by simp only [f_X1_root, hw6, if_pos c9, hw21, if_pos c24, hw34, if_pos c37, if_pos c47]))
        · skip
          refine lv_iconst (v := 1) hx hb dX1_root_50 (by decide) ?_
          refine lv_goto (tgt := 55) hx hb dX1_root_51 (by decide) ?_
          exact J55 1 ls _ _ (lv_sub hl [0, 1, 2] rfl) hS hP hD (Or.inr rfl) (hR.trans (by simp only [f_X1_root, hw6, if_pos c9, hw21, if_pos c24, hw34, if_pos c37, if_neg c47]))

def g_X1_sum_51 (T : pT) (p0 : Int32) (p1 : Int32) (u35 : pT) : Nat → Int64 → Int64 → Int32 → (Int64 × pT)
  | 0, _, _, _ => (0, T)
  | n + 1, v51_3, v51_5, v51_7 => (if (p1 : Int32) ≤ v51_7 then (v51_3, u35) else (g_X1_sum_51 T p0 p1 u35 n (v51_3 + v51_5) (v51_5 * ((p0 : Int32).toInt64)) (v51_7 + 1)))
def g_X1_sum_20 (T : pT) (p0 : Int32) (p1 : Int32) (w20_0 : Int32) : Int64 × pT := (match f_X1_no T w20_0 1 with | (r21, u21) => (if (r21 : Int32) = 0 then (match f_X1_isToldNear u21 p0 p1 with | (r31, u31) => (match f_X1_no u31 r31 2 with | (r35, u35) => (if (r35 : Int32) = 0 then (g_X1_sum_51 T p0 p1 u35 (((p1 : Int32).toInt - (0 : Int32).toInt).toNat + 1) 0 1 0) else (0, u35)))) else (0, u21)))
def g_X1_sum_19 (T : pT) (p0 : Int32) (p1 : Int32) : Int64 × pT := (g_X1_sum_20 T p0 p1 0)
def f_X1_sum (T : pT) (p0 : Int32) (p1 : Int32) : Int64 × pT := (if ((f_X1_isBase p0) : Int32) = 0 then (g_X1_sum_19 T p0 p1) else (if ((f_X1_isExponent p1) : Int32) = 0 then (g_X1_sum_19 T p0 p1) else (g_X1_sum_20 T p0 p1 1)))
set_option maxHeartbeats 4000000 in
set_option maxRecDepth 100000 in
theorem met_X1_sum (l : Launch) (D : va_G) (cI cJ : ClassId) (bd : Nat → Nat) (A : Nat → Prop) (T : pT) (p0 : Int32) (p1 : Int32) : Met l yX1_sum wsX1_sum ({ frames := 3, cells := 0, slots := 0, locals := 73 } : Room) (va_Pc [.ref (bd 0), .int p0, .int p1] (fun U => b1R D cI cJ bd T U ∧ va_D A (mmW cI cJ bd T))) (va_Ql (fun (r : Int64) (u : pT) => f_X1_sum T p0 p1 = (r, u)) (fun (u : pT) t => va_P D pCl (mmW cI cJ bd u) t.heap ∧ va_D A (mmW cI cJ bd u)) A) 0 0 A := by
  refine Met.ofW (cc := cX1_sum) (maxL := 8) (ret := (some .long)) (by decide) rfl ?_
  intro p e s m args below meth c s₁ B hml hv
  obtain ⟨rfl, ⟨hP, hK⟩, hD⟩ := hv
  have hx := B.exec
  have hb := B.bytes
  have hr := B.returns
  have hts := atoms_spec (ws := wsX1_sum) B.pre
  have hown : s.vm.findClass RX1 = some m.cls := findClass_of_methodNamed B.named
  have hlocks := B.notSynchronized
  have hS : va_S A s.heap s.heap [] := va_S.rf
  have hl := lv_entry ([.ref (bd 0), .int p0, .int p1]) (n := 8) (Nat.le_of_ble_eq_true rfl)
  rw [lg_entry_eq]
  generalize (lg_sl ([.ref (bd 0), .int p0, .int p1]) ++ List.replicate (8 - (lg_sl ([.ref (bd 0), .int p0, .int p1])).length) Slot.unset).toArray = ls at hl ⊢
  have hl : lv_has ls 8 [(0, .ref (bd 0)), (1, .int p0), (2, .int p1)] := hl
  obtain ⟨Q, hQ⟩ : ∃ Q : State → Prop, Q = (MQ below (va_Ql (fun (r : Int64) (u : pT) => f_X1_sum T p0 p1 = (r, u)) (fun (u : pT) t => va_P D pCl (mmW cI cJ bd u) t.heap ∧ va_D A (mmW cI cJ bd u)) A) ([.ref (bd 0), .int p0, .int p1] : List Value).toArray s 0 0 A) := ⟨_, rfl⟩
  rw [← hQ]
  have hR : f_X1_sum T p0 p1 = f_X1_sum T p0 p1 := rfl
  refine lv_aload_n hx hb dX1_sum_0 rfl (lv_at hl 0 rfl) ?_
  refine lv_iload_n hx hb dX1_sum_1 rfl (lv_at hl 1 rfl) ?_
  refine va_calli (va_runS (As := [.int p0]) (rest := [.ref (bd 0)]) ⟨hx, hb, hml, hown, hts⟩ (met_X1_isBase l p0) (va_cwS 1 hts gX1_sum_X1_isBase rfl rfl rfl (by decide +kernel) ⟨Nat.le_of_ble_eq_true rfl, Nat.le_of_ble_eq_true rfl⟩) ⟨fun a U g mk q => q, fun U hU hW => ⟨rfl, trivial⟩⟩ rfl rfl hl.1 rfl (lv_room (Nat.le_of_ble_eq_true rfl)) dX1_sum_2 ⟨Nat.le_of_ble_eq_true rfl, Nat.le_of_ble_eq_true rfl⟩) hS (fun q _ h => h.elim) (fun q h => h.elim) (fun r2 u2 t H locs ht hvm hw2 hB hz hk hS => ?_)
  obtain ⟨hw2, bz2⟩ := hw2
  subst hw2
  have hP := hP.kept (fun k q hk9 => hk _ (vx_lt hP hk9) (fun h => h))
  have J20 : ∀ (w20_0 : Int32) (ls : Array Slot) (H : Heap) (locs : List Loc), lv_has ls 8 [(0, .ref (bd 0)), (1, .int p0), (2, .int p1)] → va_S A s.heap H locs → va_P D pCl (mmW cI cJ bd T) H → va_D A (mmW cI cJ bd T) → (w20_0 = 0 ∨ w20_0 = 1) → f_X1_sum T p0 p1 = g_X1_sum_20 T p0 p1 w20_0 → W p l e (headSpec wsX1_sum ({ frames := 3, cells := 0, slots := 0, locals := 73 } : Room)).room s m ([.ref (bd 0), .int p0, .int p1] : List Value).toArray below meth c H locs 0 0 Q (F0 m 20 ls [.int w20_0, .ref (bd 0)]) := by
    intro w20_0 ls H locs hl hS hP hD hb_w20_0 hR
    refine lv_iconst (v := 1) hx hb dX1_sum_20 (by decide) ?_
    refine va_calli (va_runV (As := [.int w20_0, .int 1]) (rest := []) ⟨hx, hb, hml, hown, hts⟩ (met_X1_no l D cI cJ bd A T w20_0 1) (cwV 2 hts gX1_sum_X1_no rfl rfl rfl (by decide +kernel) ⟨Nat.le_of_ble_eq_true rfl, Nat.le_of_ble_eq_true rfl⟩) ⟨fun a U g mk q => ⟨q.1, b1R_calling q.2.1, q.2.2⟩, va_recv hK hP (ci := 1) (q0 := 0) rfl rfl, fun U hU hW => ⟨rfl, b1R_at hP hK hU hW, hD⟩⟩ rfl rfl hl.1 rfl (lv_room (Nat.le_of_ble_eq_true rfl)) dX1_sum_21 ⟨Nat.le_of_ble_eq_true rfl, Nat.le_of_ble_eq_true rfl⟩) hS (fun q _ h => h) (fun q h => h) (fun r21 u21 t H locs ht hvm hw21 hB hz hk hS => ?_)
    obtain ⟨hw21, bz21⟩ := hw21
    obtain ⟨hP, hD⟩ := hB
    rw [ht] at hP
    refine lv_if_ne (tgt := 41) hx hb dX1_sum_24 (by decide) (fun c24 => ?_) (fun c24 => ?_)
    · skip
      refine lv_lconst (v := 0) hx hb dX1_sum_41 rfl ?_
      rw [hQ]
      exact W.lret (v := 0) hx hb hr (fun t ht hW => ⟨⟨0, u21, rfl, (hR.trans (by simp only [g_X1_sum_20, hw21, if_neg c24])), by rw [ht]; exact hP, hD⟩, hS.F ht⟩) hS.2.2 dX1_sum_42
    · skip
      refine lv_aload_n hx hb dX1_sum_27 rfl (lv_at hl 0 rfl) ?_
      refine lv_aload_n hx hb dX1_sum_28 rfl (lv_at hl 0 rfl) ?_
      refine lv_iload_n hx hb dX1_sum_29 rfl (lv_at hl 1 rfl) ?_
      refine lv_iload_n hx hb dX1_sum_30 rfl (lv_at hl 2 rfl) ?_
      refine va_calli (va_runV (As := [.int p0, .int p1]) (rest := [.ref (bd 0)]) ⟨hx, hb, hml, hown, hts⟩ (met_X1_isToldNear l D cI cJ bd A u21 p0 p1) (cwV 2 hts gX1_sum_X1_isToldNear rfl rfl rfl (by decide +kernel) ⟨Nat.le_of_ble_eq_true rfl, Nat.le_of_ble_eq_true rfl⟩) ⟨fun a U g mk q => ⟨q.1, b1R_calling q.2.1, q.2.2⟩, va_recv hK hP (ci := 1) (q0 := 0) rfl rfl, fun U hU hW => ⟨rfl, b1R_at hP hK hU hW, hD⟩⟩ rfl rfl hl.1 rfl (lv_room (Nat.le_of_ble_eq_true rfl)) dX1_sum_31 ⟨Nat.le_of_ble_eq_true rfl, Nat.le_of_ble_eq_true rfl⟩) hS (fun q _ h => h) (fun q h => h) (fun r31 u31 t H locs ht hvm hw31 hB hz hk hS => ?_)
      obtain ⟨hw31, bz31⟩ := hw31
      obtain ⟨hP, hD⟩ := hB
      rw [ht] at hP
      refine lv_iconst (v := 2) hx hb dX1_sum_34 (by decide) ?_
      refine va_calli (va_runV (As := [.int r31, .int 2]) (rest := []) ⟨hx, hb, hml, hown, hts⟩ (met_X1_no l D cI cJ bd A u31 r31 2) (cwV 2 hts gX1_sum_X1_no rfl rfl rfl (by decide +kernel) ⟨Nat.le_of_ble_eq_true rfl, Nat.le_of_ble_eq_true rfl⟩) ⟨fun a U g mk q => ⟨q.1, b1R_calling q.2.1, q.2.2⟩, va_recv hK hP (ci := 1) (q0 := 0) rfl rfl, fun U hU hW => ⟨rfl, b1R_at hP hK hU hW, hD⟩⟩ rfl rfl hl.1 rfl (lv_room (Nat.le_of_ble_eq_true rfl)) dX1_sum_35 ⟨Nat.le_of_ble_eq_true rfl, Nat.le_of_ble_eq_true rfl⟩) hS (fun q _ h => h) (fun q h => h) (fun r35 u35 t H locs ht hvm hw35 hB hz hk hS => ?_)
      obtain ⟨hw35, bz35⟩ := hw35
      obtain ⟨hP, hD⟩ := hB
      rw [ht] at hP
      refine lv_if_eq (tgt := 43) hx hb dX1_sum_38 (by decide) (fun c38 => ?_) (fun c38 => ?_)
      · skip
        refine lv_lconst (v := 0) hx hb dX1_sum_43 rfl ?_
        refine lv_lstore_n (lv' := [(3, .long 0), (0, .ref (bd 0)), (1, .int p0), (2, .int p1)]) hx hb dX1_sum_44 rfl hl (by decide) rfl (fun ls hl => ?_)
        refine lv_lconst (v := 1) hx hb dX1_sum_45 rfl ?_
        refine lv_lstore (lv' := [(5, .long 1), (3, .long 0), (0, .ref (bd 0)), (1, .int p0), (2, .int p1)]) hx hb dX1_sum_46 hl (by decide) rfl (fun ls hl => ?_)
        refine lv_iconst (v := 0) hx hb dX1_sum_48 (by decide) ?_
        refine lv_istore (lv' := [(7, .int 0), (5, .long 1), (3, .long 0), (0, .ref (bd 0)), (1, .int p0), (2, .int p1)]) hx hb dX1_sum_49 hl (by decide) rfl (fun ls hl => ?_)
        have J51 : ∀ (n51 : Nat) (v51_3 : Int64) (v51_5 : Int64) (v51_7 : Int32) (ls : Array Slot) (H : Heap) (locs : List Loc), lv_has ls 8 [(0, .ref (bd 0)), (1, .int p0), (2, .int p1), (3, .long v51_3), (5, .long v51_5), (7, .int v51_7)] → va_S A s.heap H locs → va_P D pCl (mmW cI cJ bd u35) H → va_D A (mmW cI cJ bd u35) → f_X1_sum T p0 p1 = g_X1_sum_51 T p0 p1 u35 n51 v51_3 v51_5 v51_7 → ((p1 : Int32).toInt - v51_7.toInt).toNat < n51 → W p l e (headSpec wsX1_sum ({ frames := 3, cells := 0, slots := 0, locals := 73 } : Room)).room s m ([.ref (bd 0), .int p0, .int p1] : List Value).toArray below meth c H locs 0 0 Q (F0 m 51 ls []) := by
          intro n51
          induction n51 with
          | zero => intro v51_3 v51_5 v51_7 ls H locs hl hS hP hD hR hmu51; exact absurd hmu51 (Nat.not_lt_zero _)
          | succ n51 ih51 =>
            intro v51_3 v51_5 v51_7 ls H locs hl hS hP hD hR hmu51
            refine lv_iload hx hb dX1_sum_51 (lv_at hl 5 rfl) ?_
            refine lv_iload_n hx hb dX1_sum_53 rfl (lv_at hl 2 rfl) ?_
            refine lv_icmp_ge (tgt := 75) hx hb dX1_sum_54 (by decide) (fun c54 => ?_) (fun c54 => ?_)
            · skip
              refine lv_lload_n hx hb dX1_sum_75 rfl (lv_at hl 3 rfl) ?_
              rw [hQ]
              exact W.lret (v := v51_3) hx hb hr (fun t ht hW => ⟨⟨v51_3, u35, rfl, (hR.trans (by simp only [g_X1_sum_51, if_pos c54])), by rw [ht]; exact hP, hD⟩, hS.F ht⟩) hS.2.2 dX1_sum_76
            · skip
              refine lv_lload_n hx hb dX1_sum_57 rfl (lv_at hl 3 rfl) ?_
              refine lv_lload hx hb dX1_sum_58 (lv_at hl 4 rfl) ?_
              refine lv_ladd hx hb dX1_sum_60 ?_
              refine lv_lstore_n (lv' := [(3, .long (v51_3 + v51_5)), (0, .ref (bd 0)), (1, .int p0), (2, .int p1), (5, .long v51_5), (7, .int v51_7)]) hx hb dX1_sum_61 rfl hl (by decide) rfl (fun ls hl => ?_)
              refine lv_lload hx hb dX1_sum_62 (lv_at hl 4 rfl) ?_
              refine lv_iload_n hx hb dX1_sum_64 rfl (lv_at hl 2 rfl) ?_
              refine lv_i2l hx hb dX1_sum_65 rfl ?_
              refine lv_lmul hx hb dX1_sum_66 ?_
              refine lv_lstore (lv' := [(5, .long (v51_5 * ((p0 : Int32).toInt64))), (3, .long (v51_3 + v51_5)), (0, .ref (bd 0)), (1, .int p0), (2, .int p1), (7, .int v51_7)]) hx hb dX1_sum_67 hl (by decide) rfl (fun ls hl => ?_)
              refine lv_iinc (v := (v51_7 + 1)) (lv' := [(7, .int (v51_7 + 1)), (5, .long (v51_5 * ((p0 : Int32).toInt64))), (3, .long (v51_3 + v51_5)), (0, .ref (bd 0)), (1, .int p0), (2, .int p1)]) hx hb dX1_sum_69 hl (k := 5) rfl (by rfl) (by decide) rfl (fun ls hl => ?_)
              refine lv_goto (tgt := 51) hx hb dX1_sum_72 (by decide) ?_
              exact ih51 (v51_3 + v51_5) (v51_5 * ((p0 : Int32).toInt64)) (v51_7 + 1) ls _ _ (lv_sub hl [3, 4, 5, 2, 1, 0] rfl) hS hP hD (hR.trans (by simp only [g_X1_sum_51, if_neg c54])) (mu_up c54 hmu51)
        exact J51 (((p1 : Int32).toInt - (0 : Int32).toInt).toNat + 1) 0 1 0 ls _ _ (lv_sub hl [3, 4, 5, 2, 1, 0] rfl) hS hP hD (hR.trans (by simp only [g_X1_sum_20, hw21, if_pos c24, hw31, hw35, if_pos c38])) (Nat.lt_succ_self _)
      · skip
        refine lv_lconst (v := 0) hx hb dX1_sum_41 rfl ?_
        rw [hQ]
        exact W.lret (v := 0) hx hb hr (fun t ht hW => ⟨⟨0, u35, rfl, (hR.trans (by simp only [g_X1_sum_20, hw21, if_pos c24, hw31, hw35, if_neg c38])), by rw [ht]; exact hP, hD⟩, hS.F ht⟩) hS.2.2 dX1_sum_42
  have J19 : ∀ (ls : Array Slot) (H : Heap) (locs : List Loc), lv_has ls 8 [(0, .ref (bd 0)), (1, .int p0), (2, .int p1)] → va_S A s.heap H locs → va_P D pCl (mmW cI cJ bd T) H → va_D A (mmW cI cJ bd T) → f_X1_sum T p0 p1 = g_X1_sum_19 T p0 p1 → W p l e (headSpec wsX1_sum ({ frames := 3, cells := 0, slots := 0, locals := 73 } : Room)).room s m ([.ref (bd 0), .int p0, .int p1] : List Value).toArray below meth c H locs 0 0 Q (F0 m 19 ls [.ref (bd 0)]) := by
    intro ls H locs hl hS hP hD hR
    refine lv_iconst (v := 0) hx hb dX1_sum_19 (by decide) ?_
    exact J20 0 ls _ _ (lv_sub hl [0, 1, 2] rfl) hS hP hD (Or.inl rfl) (hR.trans (by simp only [g_X1_sum_19]))
  refine lv_if_eq (tgt := 19) hx hb dX1_sum_5 (by decide) (fun c5 => ?_) (fun c5 => ?_)
  · skip
    exact J19 ls _ _ (lv_sub hl [0, 1, 2] rfl) hS hP hD (hR.trans (by simp only [f_X1_sum, if_pos c5]))
  · skip
    refine lv_iload_n hx hb dX1_sum_8 rfl (lv_at hl 2 rfl) ?_
    refine va_calli (va_runS (As := [.int p1]) (rest := [.ref (bd 0)]) ⟨hx, hb, hml, hown, hts⟩ (met_X1_isExponent l p1) (va_cwS 1 hts gX1_sum_X1_isExponent rfl rfl rfl (by decide +kernel) ⟨Nat.le_of_ble_eq_true rfl, Nat.le_of_ble_eq_true rfl⟩) ⟨fun a U g mk q => q, fun U hU hW => ⟨rfl, trivial⟩⟩ rfl rfl hl.1 rfl (lv_room (Nat.le_of_ble_eq_true rfl)) dX1_sum_9 ⟨Nat.le_of_ble_eq_true rfl, Nat.le_of_ble_eq_true rfl⟩) hS (fun q _ h => h.elim) (fun q h => h.elim) (fun r9 u9 t H locs ht hvm hw9 hB hz hk hS => ?_)
    obtain ⟨hw9, bz9⟩ := hw9
    subst hw9
    have hP := hP.kept (fun k q hk9 => hk _ (vx_lt hP hk9) (fun h => h))
    refine lv_if_eq (tgt := 19) hx hb dX1_sum_12 (by decide) (fun c12 => ?_) (fun c12 => ?_)
    · skip
      exact J19 ls _ _ (lv_sub hl [0, 1, 2] rfl) hS hP hD (hR.trans (by simp only [f_X1_sum, if_neg c5, if_pos c12]))
    · skip
      refine lv_iconst (v := 1) hx hb dX1_sum_15 (by decide) ?_
      refine lv_goto (tgt := 20) hx hb dX1_sum_16 (by decide) ?_
      exact J20 1 ls _ _ (lv_sub hl [0, 1, 2] rfl) hS hP hD (Or.inr rfl) (hR.trans (by simp only [f_X1_sum, if_neg c5, if_neg c12]))

def g_X1_rest_61n (p2 : Int32) (u46 : pT) (x61 : Int64) : Int32 × pT := (if (0 : Int64) ≤ x61 then (((x61 : Int64).toInt32), u46) else ((((x61 + ((p2 : Int32).toInt64)) : Int64).toInt32), u46))
def f_X1_rest (T : pT) (p0 : Int32) (p1 : Int32) (p2 : Int32) : Int32 × pT := (if ((f_X1_isBase p0) : Int32) = 0 then (match f_X1_no T 0 1 with | (r32, u32) => (if (r32 : Int32) = 0 then (0, T) else (0, u32))) else (if ((f_X1_isExponent p1) : Int32) = 0 then (match f_X1_no T 0 1 with | (r32, u32) => (if (r32 : Int32) = 0 then (0, T) else (0, u32))) else (if ((f_X1_isFrom p2 1 1000) : Int32) = 0 then (match f_X1_no T 0 1 with | (r32, u32) => (if (r32 : Int32) = 0 then (0, T) else (0, u32))) else (match f_X1_no T 1 1 with | (r32, u32) => (if (r32 : Int32) = 0 then (match f_X1_isToldNear u32 p0 p1 with | (r42, u42) => (match f_X1_no u42 r42 2 with | (r46, u46) => (if (r46 : Int32) = 0 then (g_X1_rest_61n p2 u46 ((f_X1_powerWhole u46) - (f_X1_powerWhole u46) / ((p2 : Int32).toInt64) * ((p2 : Int32).toInt64))) else (0, u46)))) else (0, u32))))))
set_option maxHeartbeats 4000000 in
set_option maxRecDepth 100000 in
theorem met_X1_rest (l : Launch) (D : va_G) (cI cJ : ClassId) (bd : Nat → Nat) (A : Nat → Prop) (T : pT) (p0 : Int32) (p1 : Int32) (p2 : Int32) : Met l yX1_rest wsX1_rest ({ frames := 3, cells := 0, slots := 0, locals := 73 } : Room) (va_Pc [.ref (bd 0), .int p0, .int p1, .int p2] (fun U => b1R D cI cJ bd T U ∧ va_D A (mmW cI cJ bd T))) (va_Qi (fun (r : Int32) (u : pT) => f_X1_rest T p0 p1 p2 = (r, u)) (fun (u : pT) t => va_P D pCl (mmW cI cJ bd u) t.heap ∧ va_D A (mmW cI cJ bd u)) A) 0 0 A := by
  refine Met.ofW (cc := cX1_rest) (maxL := 6) (ret := (some .int)) (by decide) rfl ?_
  intro p e s m args below meth c s₁ B hml hv
  obtain ⟨rfl, ⟨hP, hK⟩, hD⟩ := hv
  have hx := B.exec
  have hb := B.bytes
  have hr := B.returns
  have hts := atoms_spec (ws := wsX1_rest) B.pre
  have hown : s.vm.findClass RX1 = some m.cls := findClass_of_methodNamed B.named
  have hlocks := B.notSynchronized
  have hS : va_S A s.heap s.heap [] := va_S.rf
  have hl := lv_entry ([.ref (bd 0), .int p0, .int p1, .int p2]) (n := 6) (Nat.le_of_ble_eq_true rfl)
  rw [lg_entry_eq]
  generalize (lg_sl ([.ref (bd 0), .int p0, .int p1, .int p2]) ++ List.replicate (6 - (lg_sl ([.ref (bd 0), .int p0, .int p1, .int p2])).length) Slot.unset).toArray = ls at hl ⊢
  have hl : lv_has ls 6 [(0, .ref (bd 0)), (1, .int p0), (2, .int p1), (3, .int p2)] := hl
  obtain ⟨Q, hQ⟩ : ∃ Q : State → Prop, Q = (MQ below (va_Qi (fun (r : Int32) (u : pT) => f_X1_rest T p0 p1 p2 = (r, u)) (fun (u : pT) t => va_P D pCl (mmW cI cJ bd u) t.heap ∧ va_D A (mmW cI cJ bd u)) A) ([.ref (bd 0), .int p0, .int p1, .int p2] : List Value).toArray s 0 0 A) := ⟨_, rfl⟩
  rw [← hQ]
  have hR : f_X1_rest T p0 p1 p2 = f_X1_rest T p0 p1 p2 := rfl
  refine lv_aload_n hx hb dX1_rest_0 rfl (lv_at hl 0 rfl) ?_
  refine lv_iload_n hx hb dX1_rest_1 rfl (lv_at hl 1 rfl) ?_
  refine va_calli (va_runS (As := [.int p0]) (rest := [.ref (bd 0)]) ⟨hx, hb, hml, hown, hts⟩ (met_X1_isBase l p0) (va_cwS 1 hts gX1_rest_X1_isBase rfl rfl rfl (by decide +kernel) ⟨Nat.le_of_ble_eq_true rfl, Nat.le_of_ble_eq_true rfl⟩) ⟨fun a U g mk q => q, fun U hU hW => ⟨rfl, trivial⟩⟩ rfl rfl hl.1 rfl (lv_room (Nat.le_of_ble_eq_true rfl)) dX1_rest_2 ⟨Nat.le_of_ble_eq_true rfl, Nat.le_of_ble_eq_true rfl⟩) hS (fun q _ h => h.elim) (fun q h => h.elim) (fun r2 u2 t H locs ht hvm hw2 hB hz hk hS => ?_)
  obtain ⟨hw2, bz2⟩ := hw2
  subst hw2
  have hP := hP.kept (fun k q hk9 => hk _ (vx_lt hP hk9) (fun h => h))
  refine lv_if_eq (tgt := 30) hx hb dX1_rest_5 (by decide) (fun c5 => ?_) (fun c5 => ?_)
  · skip
    refine lv_iconst (v := 0) hx hb dX1_rest_30 (by decide) ?_
    refine lv_iconst (v := 1) hx hb dX1_rest_31 (by decide) ?_
    refine va_calli (va_runV (As := [.int 0, .int 1]) (rest := []) ⟨hx, hb, hml, hown, hts⟩ (met_X1_no l D cI cJ bd A T 0 1) (cwV 2 hts gX1_rest_X1_no rfl rfl rfl (by decide +kernel) ⟨Nat.le_of_ble_eq_true rfl, Nat.le_of_ble_eq_true rfl⟩) ⟨fun a U g mk q => ⟨q.1, b1R_calling q.2.1, q.2.2⟩, va_recv hK hP (ci := 1) (q0 := 0) rfl rfl, fun U hU hW => ⟨rfl, b1R_at hP hK hU hW, hD⟩⟩ rfl rfl hl.1 rfl (lv_room (Nat.le_of_ble_eq_true rfl)) dX1_rest_32 ⟨Nat.le_of_ble_eq_true rfl, Nat.le_of_ble_eq_true rfl⟩) hS (fun q _ h => h) (fun q h => h) (fun r32 u32 t H locs ht hvm hw32 hB hz hk hS => ?_)
    obtain ⟨hw32, bz32⟩ := hw32
    obtain ⟨hP, hD⟩ := hB
    rw [ht] at hP
    refine lv_if_ne (tgt := 52) hx hb dX1_rest_35 (by decide) (fun c35 => ?_) (fun c35 => ?_)
    · skip
      refine lv_iconst (v := 0) hx hb dX1_rest_52 (by decide) ?_
      rw [hQ]
      exact W.iret (v := 0) hx hb hr (fun t ht hW => ⟨⟨0, u32, rfl, (hR.trans (by simp only [f_X1_rest, if_pos c5, hw32, if_neg c35])), by rw [ht]; exact hP, hD⟩, hS.F ht⟩) hS.2.2 dX1_rest_53
    · skip
      exact absurd rfl (no_ok hw32 c35)
  · skip
    refine lv_iload_n hx hb dX1_rest_8 rfl (lv_at hl 2 rfl) ?_
    refine va_calli (va_runS (As := [.int p1]) (rest := [.ref (bd 0)]) ⟨hx, hb, hml, hown, hts⟩ (met_X1_isExponent l p1) (va_cwS 1 hts gX1_rest_X1_isExponent rfl rfl rfl (by decide +kernel) ⟨Nat.le_of_ble_eq_true rfl, Nat.le_of_ble_eq_true rfl⟩) ⟨fun a U g mk q => q, fun U hU hW => ⟨rfl, trivial⟩⟩ rfl rfl hl.1 rfl (lv_room (Nat.le_of_ble_eq_true rfl)) dX1_rest_9 ⟨Nat.le_of_ble_eq_true rfl, Nat.le_of_ble_eq_true rfl⟩) hS (fun q _ h => h.elim) (fun q h => h.elim) (fun r9 u9 t H locs ht hvm hw9 hB hz hk hS => ?_)
    obtain ⟨hw9, bz9⟩ := hw9
    subst hw9
    have hP := hP.kept (fun k q hk9 => hk _ (vx_lt hP hk9) (fun h => h))
    refine lv_if_eq (tgt := 30) hx hb dX1_rest_12 (by decide) (fun c12 => ?_) (fun c12 => ?_)
    · skip
      refine lv_iconst (v := 0) hx hb dX1_rest_30 (by decide) ?_
      refine lv_iconst (v := 1) hx hb dX1_rest_31 (by decide) ?_
      refine va_calli (va_runV (As := [.int 0, .int 1]) (rest := []) ⟨hx, hb, hml, hown, hts⟩ (met_X1_no l D cI cJ bd A T 0 1) (cwV 2 hts gX1_rest_X1_no rfl rfl rfl (by decide +kernel) ⟨Nat.le_of_ble_eq_true rfl, Nat.le_of_ble_eq_true rfl⟩) ⟨fun a U g mk q => ⟨q.1, b1R_calling q.2.1, q.2.2⟩, va_recv hK hP (ci := 1) (q0 := 0) rfl rfl, fun U hU hW => ⟨rfl, b1R_at hP hK hU hW, hD⟩⟩ rfl rfl hl.1 rfl (lv_room (Nat.le_of_ble_eq_true rfl)) dX1_rest_32 ⟨Nat.le_of_ble_eq_true rfl, Nat.le_of_ble_eq_true rfl⟩) hS (fun q _ h => h) (fun q h => h) (fun r32 u32 t H locs ht hvm hw32 hB hz hk hS => ?_)
      obtain ⟨hw32, bz32⟩ := hw32
      obtain ⟨hP, hD⟩ := hB
      rw [ht] at hP
      refine lv_if_ne (tgt := 52) hx hb dX1_rest_35 (by decide) (fun c35 => ?_) (fun c35 => ?_)
      · skip
        refine lv_iconst (v := 0) hx hb dX1_rest_52 (by decide) ?_
        rw [hQ]
        exact W.iret (v := 0) hx hb hr (fun t ht hW => ⟨⟨0, u32, rfl, (hR.trans (by simp only [f_X1_rest, if_neg c5, if_pos c12, hw32, if_neg c35])), by rw [ht]; exact hP, hD⟩, hS.F ht⟩) hS.2.2 dX1_rest_53
      · skip
        exact absurd rfl (no_ok hw32 c35)
    · skip
      refine lv_iload_n hx hb dX1_rest_15 rfl (lv_at hl 3 rfl) ?_
      refine lv_iconst (v := 1) hx hb dX1_rest_16 (by decide) ?_
      refine lv_sipush (v := 1000) hx hb dX1_rest_17 (by decide) ?_
      refine va_calli (va_runS (As := [.int p2, .int 1, .int 1000]) (rest := [.ref (bd 0)]) ⟨hx, hb, hml, hown, hts⟩ (met_X1_isFrom l p2 1 1000) (va_cwS 3 hts gX1_rest_X1_isFrom rfl rfl rfl (by decide +kernel) ⟨Nat.le_of_ble_eq_true rfl, Nat.le_of_ble_eq_true rfl⟩) ⟨fun a U g mk q => q, fun U hU hW => ⟨rfl, trivial⟩⟩ rfl rfl hl.1 rfl (lv_room (Nat.le_of_ble_eq_true rfl)) dX1_rest_20 ⟨Nat.le_of_ble_eq_true rfl, Nat.le_of_ble_eq_true rfl⟩) hS (fun q _ h => h.elim) (fun q h => h.elim) (fun r20 u20 t H locs ht hvm hw20 hB hz hk hS => ?_)
      obtain ⟨hw20, bz20⟩ := hw20
      subst hw20
      have hP := hP.kept (fun k q hk9 => hk _ (vx_lt hP hk9) (fun h => h))
      refine lv_if_eq (tgt := 30) hx hb dX1_rest_23 (by decide) (fun c23 => ?_) (fun c23 => ?_)
      · skip
        refine lv_iconst (v := 0) hx hb dX1_rest_30 (by decide) ?_
        refine lv_iconst (v := 1) hx hb dX1_rest_31 (by decide) ?_
        refine va_calli (va_runV (As := [.int 0, .int 1]) (rest := []) ⟨hx, hb, hml, hown, hts⟩ (met_X1_no l D cI cJ bd A T 0 1) (cwV 2 hts gX1_rest_X1_no rfl rfl rfl (by decide +kernel) ⟨Nat.le_of_ble_eq_true rfl, Nat.le_of_ble_eq_true rfl⟩) ⟨fun a U g mk q => ⟨q.1, b1R_calling q.2.1, q.2.2⟩, va_recv hK hP (ci := 1) (q0 := 0) rfl rfl, fun U hU hW => ⟨rfl, b1R_at hP hK hU hW, hD⟩⟩ rfl rfl hl.1 rfl (lv_room (Nat.le_of_ble_eq_true rfl)) dX1_rest_32 ⟨Nat.le_of_ble_eq_true rfl, Nat.le_of_ble_eq_true rfl⟩) hS (fun q _ h => h) (fun q h => h) (fun r32 u32 t H locs ht hvm hw32 hB hz hk hS => ?_)
        obtain ⟨hw32, bz32⟩ := hw32
        obtain ⟨hP, hD⟩ := hB
        rw [ht] at hP
        refine lv_if_ne (tgt := 52) hx hb dX1_rest_35 (by decide) (fun c35 => ?_) (fun c35 => ?_)
        · skip
          refine lv_iconst (v := 0) hx hb dX1_rest_52 (by decide) ?_
          rw [hQ]
          exact W.iret (v := 0) hx hb hr (fun t ht hW => ⟨⟨0, u32, rfl, (hR.trans (by simp only [f_X1_rest, if_neg c5, if_neg c12, if_pos c23, hw32, if_neg c35])), by rw [ht]; exact hP, hD⟩, hS.F ht⟩) hS.2.2 dX1_rest_53
        · skip
          exact absurd rfl (no_ok hw32 c35)
      · skip
        have hz23 := isFrom1_nz c23
        refine lv_iconst (v := 1) hx hb dX1_rest_26 (by decide) ?_
        refine lv_goto (tgt := 31) hx hb dX1_rest_27 (by decide) ?_
        refine lv_iconst (v := 1) hx hb dX1_rest_31 (by decide) ?_
        refine va_calli (va_runV (As := [.int 1, .int 1]) (rest := []) ⟨hx, hb, hml, hown, hts⟩ (met_X1_no l D cI cJ bd A T 1 1) (cwV 2 hts gX1_rest_X1_no rfl rfl rfl (by decide +kernel) ⟨Nat.le_of_ble_eq_true rfl, Nat.le_of_ble_eq_true rfl⟩) ⟨fun a U g mk q => ⟨q.1, b1R_calling q.2.1, q.2.2⟩, va_recv hK hP (ci := 1) (q0 := 0) rfl rfl, fun U hU hW => ⟨rfl, b1R_at hP hK hU hW, hD⟩⟩ rfl rfl hl.1 rfl (lv_room (Nat.le_of_ble_eq_true rfl)) dX1_rest_32 ⟨Nat.le_of_ble_eq_true rfl, Nat.le_of_ble_eq_true rfl⟩) hS (fun q _ h => h) (fun q h => h) (fun r32 u32 t H locs ht hvm hw32 hB hz hk hS => ?_)
        obtain ⟨hw32, bz32⟩ := hw32
        obtain ⟨hP, hD⟩ := hB
        rw [ht] at hP
        refine lv_if_ne (tgt := 52) hx hb dX1_rest_35 (by decide) (fun c35 => ?_) (fun c35 => ?_)
        · skip
          refine lv_iconst (v := 0) hx hb dX1_rest_52 (by decide) ?_
          rw [hQ]
          exact W.iret (v := 0) hx hb hr (fun t ht hW => ⟨⟨0, u32, rfl, (hR.trans (by simp only [f_X1_rest, if_neg c5, if_neg c12, if_neg c23, hw32, if_neg c35])), by rw [ht]; exact hP, hD⟩, hS.F ht⟩) hS.2.2 dX1_rest_53
        · skip
          refine lv_aload_n hx hb dX1_rest_38 rfl (lv_at hl 0 rfl) ?_
          refine lv_aload_n hx hb dX1_rest_39 rfl (lv_at hl 0 rfl) ?_
          refine lv_iload_n hx hb dX1_rest_40 rfl (lv_at hl 1 rfl) ?_
          refine lv_iload_n hx hb dX1_rest_41 rfl (lv_at hl 2 rfl) ?_
          refine va_calli (va_runV (As := [.int p0, .int p1]) (rest := [.ref (bd 0)]) ⟨hx, hb, hml, hown, hts⟩ (met_X1_isToldNear l D cI cJ bd A u32 p0 p1) (cwV 2 hts gX1_rest_X1_isToldNear rfl rfl rfl (by decide +kernel) ⟨Nat.le_of_ble_eq_true rfl, Nat.le_of_ble_eq_true rfl⟩) ⟨fun a U g mk q => ⟨q.1, b1R_calling q.2.1, q.2.2⟩, va_recv hK hP (ci := 1) (q0 := 0) rfl rfl, fun U hU hW => ⟨rfl, b1R_at hP hK hU hW, hD⟩⟩ rfl rfl hl.1 rfl (lv_room (Nat.le_of_ble_eq_true rfl)) dX1_rest_42 ⟨Nat.le_of_ble_eq_true rfl, Nat.le_of_ble_eq_true rfl⟩) hS (fun q _ h => h) (fun q h => h) (fun r42 u42 t H locs ht hvm hw42 hB hz hk hS => ?_)
          obtain ⟨hw42, bz42⟩ := hw42
          obtain ⟨hP, hD⟩ := hB
          rw [ht] at hP
          refine lv_iconst (v := 2) hx hb dX1_rest_45 (by decide) ?_
          refine va_calli (va_runV (As := [.int r42, .int 2]) (rest := []) ⟨hx, hb, hml, hown, hts⟩ (met_X1_no l D cI cJ bd A u42 r42 2) (cwV 2 hts gX1_rest_X1_no rfl rfl rfl (by decide +kernel) ⟨Nat.le_of_ble_eq_true rfl, Nat.le_of_ble_eq_true rfl⟩) ⟨fun a U g mk q => ⟨q.1, b1R_calling q.2.1, q.2.2⟩, va_recv hK hP (ci := 1) (q0 := 0) rfl rfl, fun U hU hW => ⟨rfl, b1R_at hP hK hU hW, hD⟩⟩ rfl rfl hl.1 rfl (lv_room (Nat.le_of_ble_eq_true rfl)) dX1_rest_46 ⟨Nat.le_of_ble_eq_true rfl, Nat.le_of_ble_eq_true rfl⟩) hS (fun q _ h => h) (fun q h => h) (fun r46 u46 t H locs ht hvm hw46 hB hz hk hS => ?_)
          obtain ⟨hw46, bz46⟩ := hw46
          obtain ⟨hP, hD⟩ := hB
          rw [ht] at hP
          refine lv_if_eq (tgt := 54) hx hb dX1_rest_49 (by decide) (fun c49 => ?_) (fun c49 => ?_)
          · skip
            refine lv_aload_n hx hb dX1_rest_54 rfl (lv_at hl 0 rfl) ?_
            refine va_calll (va_runV (As := []) (rest := []) ⟨hx, hb, hml, hown, hts⟩ (met_X1_powerWhole l D cI cJ bd u46) (cwV 0 hts gX1_rest_X1_powerWhole rfl rfl rfl (by decide +kernel) ⟨Nat.le_of_ble_eq_true rfl, Nat.le_of_ble_eq_true rfl⟩) ⟨fun a U g mk q => ⟨q.1, b1R_calling q.2⟩, va_recv hK hP (ci := 1) (q0 := 0) rfl rfl, fun U hU hW => ⟨rfl, b1R_at hP hK hU hW⟩⟩ rfl rfl hl.1 rfl (lv_room (Nat.le_of_ble_eq_true rfl)) dX1_rest_55 ⟨Nat.le_of_ble_eq_true rfl, Nat.le_of_ble_eq_true rfl⟩) hS (fun q _ h => h.elim) (fun q h => h.elim) (fun r55 u55 t H locs ht hvm hw55 hB hz hk hS => ?_)
            subst hw55
            have hP := hP.kept (fun k q hk9 => hk _ (vx_lt hP hk9) (fun h => h))
            refine lv_iload_n hx hb dX1_rest_58 rfl (lv_at hl 3 rfl) ?_
            refine lv_i2l hx hb dX1_rest_59 rfl ?_
            refine lv_lrem hx hb dX1_rest_60 (hz23) ?_
            refine lv_topl (fun x61 ex61 => ?_)
            refine lv_lstore (lv' := [(4, .long x61), (0, .ref (bd 0)), (1, .int p0), (2, .int p1), (3, .int p2)]) hx hb dX1_rest_61 hl (by decide) rfl (fun ls hl => ?_)
            have hR : f_X1_rest T p0 p1 p2 = g_X1_rest_61n p2 u46 x61 := hR.trans (by simp only [f_X1_rest, if_neg c5, if_neg c12, if_neg c23, hw32, if_pos c35, hw42, hw46, if_pos c49, ex61])
            refine lv_lload hx hb dX1_rest_63 (lv_at hl 0 rfl) ?_
            refine lv_lconst (v := 0) hx hb dX1_rest_65 rfl ?_
            refine W.lcmp hx hb dX1_rest_66 ?_
            refine lv_if_ge (tgt := 78) hx hb dX1_rest_67 (by decide) (fun c66 => ?_) (fun c66 => ?_)
            · skip
              have c66 : (0 : Int64) ≤ x61 := (lg_cmp_ge _ _).mp c66
              refine lv_lload hx hb dX1_rest_78 (lv_at hl 0 rfl) ?_
              refine lv_l2i hx hb dX1_rest_80 rfl ?_
              rw [hQ]
              exact W.iret (v := ((x61 : Int64).toInt32)) hx hb hr (fun t ht hW => ⟨⟨((x61 : Int64).toInt32), u46, rfl, (hR.trans (by simp only [g_X1_rest_61n, if_pos c66])), by rw [ht]; exact hP, hD⟩, hS.F ht⟩) hS.2.2 dX1_rest_81
            · skip
              have c66 : ¬ ((0 : Int64) ≤ x61) := fun h => c66 ((lg_cmp_ge _ _).mpr h)
              refine lv_lload hx hb dX1_rest_70 (lv_at hl 0 rfl) ?_
              refine lv_iload_n hx hb dX1_rest_72 rfl (lv_at hl 4 rfl) ?_
              refine lv_i2l hx hb dX1_rest_73 rfl ?_
              refine lv_ladd hx hb dX1_rest_74 ?_
              refine lv_goto (tgt := 80) hx hb dX1_rest_75 (by decide) ?_
              refine lv_l2i hx hb dX1_rest_80 rfl ?_
              rw [hQ]
              exact W.iret (v := (((x61 + ((p2 : Int32).toInt64)) : Int64).toInt32)) hx hb hr (fun t ht hW => ⟨⟨(((x61 + ((p2 : Int32).toInt64)) : Int64).toInt32), u46, rfl, (hR.trans (by simp only [g_X1_rest_61n, if_neg c66])), by rw [ht]; exact hP, hD⟩, hS.F ht⟩) hS.2.2 dX1_rest_81
          · skip
            refine lv_iconst (v := 0) hx hb dX1_rest_52 (by decide) ?_
            rw [hQ]
            exact W.iret (v := 0) hx hb hr (fun t ht hW => ⟨⟨0, u46, rfl, (hR.trans (by simp only [f_X1_rest, if_neg c5, if_neg c12, if_neg c23, hw32, if_pos c35, hw42, hw46, if_neg c49])), by rw [ht]; exact hP, hD⟩, hS.F ht⟩) hS.2.2 dX1_rest_53

def f_X1_isFermat (T : pT) (p0 : Int32) (p1 : Int32) : Int32 × pT := (if ((f_X1_isBase p0) : Int32) = 0 then (match f_X1_no T 0 1 with | (r24, u24) => (if (r24 : Int32) = 0 then (0, T) else (0, u24))) else (if ((f_X1_isFrom p1 1 64) : Int32) = 0 then (match f_X1_no T 0 1 with | (r24, u24) => (if (r24 : Int32) = 0 then (0, T) else (0, u24))) else (match f_X1_no T 1 1 with | (r24, u24) => (if (r24 : Int32) = 0 then (match f_X1_isToldNear u24 p0 p1 with | (r34, u34) => (match f_X1_no u34 r34 2 with | (r38, u38) => (if (r38 : Int32) = 0 then (if ((((f_X1_powerWhole u38) - ((p0 : Int32).toInt64)) - ((f_X1_powerWhole u38) - ((p0 : Int32).toInt64)) / ((p1 : Int32).toInt64) * ((p1 : Int32).toInt64)) : Int64) = 0 then (1, u38) else (0, u38)) else (0, u38)))) else (0, u24)))))
set_option maxHeartbeats 4000000 in
set_option maxRecDepth 100000 in
theorem met_X1_isFermat (l : Launch) (D : va_G) (cI cJ : ClassId) (bd : Nat → Nat) (A : Nat → Prop) (T : pT) (p0 : Int32) (p1 : Int32) : Met l yX1_isFermat wsX1_isFermat ({ frames := 3, cells := 0, slots := 0, locals := 73 } : Room) (va_Pc [.ref (bd 0), .int p0, .int p1] (fun U => b1R D cI cJ bd T U ∧ va_D A (mmW cI cJ bd T))) (va_Qi (fun (r : Int32) (u : pT) => f_X1_isFermat T p0 p1 = (r, u) ∧ (r = 0 ∨ r = 1)) (fun (u : pT) t => va_P D pCl (mmW cI cJ bd u) t.heap ∧ va_D A (mmW cI cJ bd u)) A) 0 0 A := by
  refine Met.ofW (cc := cX1_isFermat) (maxL := 3) (ret := (some .boolean)) (by decide) rfl ?_
  intro p e s m args below meth c s₁ B hml hv
  obtain ⟨rfl, ⟨hP, hK⟩, hD⟩ := hv
  have hx := B.exec
  have hb := B.bytes
  have hr := B.returns
  have hts := atoms_spec (ws := wsX1_isFermat) B.pre
  have hown : s.vm.findClass RX1 = some m.cls := findClass_of_methodNamed B.named
  have hlocks := B.notSynchronized
  have hS : va_S A s.heap s.heap [] := va_S.rf
  have hl := lv_entry ([.ref (bd 0), .int p0, .int p1]) (n := 3) (Nat.le_of_ble_eq_true rfl)
  rw [lg_entry_eq]
  generalize (lg_sl ([.ref (bd 0), .int p0, .int p1]) ++ List.replicate (3 - (lg_sl ([.ref (bd 0), .int p0, .int p1])).length) Slot.unset).toArray = ls at hl ⊢
  have hl : lv_has ls 3 [(0, .ref (bd 0)), (1, .int p0), (2, .int p1)] := hl
  obtain ⟨Q, hQ⟩ : ∃ Q : State → Prop, Q = (MQ below (va_Qi (fun (r : Int32) (u : pT) => f_X1_isFermat T p0 p1 = (r, u) ∧ (r = 0 ∨ r = 1)) (fun (u : pT) t => va_P D pCl (mmW cI cJ bd u) t.heap ∧ va_D A (mmW cI cJ bd u)) A) ([.ref (bd 0), .int p0, .int p1] : List Value).toArray s 0 0 A) := ⟨_, rfl⟩
  rw [← hQ]
  have hR : f_X1_isFermat T p0 p1 = f_X1_isFermat T p0 p1 := rfl
  refine lv_aload_n hx hb dX1_isFermat_0 rfl (lv_at hl 0 rfl) ?_
  refine lv_iload_n hx hb dX1_isFermat_1 rfl (lv_at hl 1 rfl) ?_
  refine va_calli (va_runS (As := [.int p0]) (rest := [.ref (bd 0)]) ⟨hx, hb, hml, hown, hts⟩ (met_X1_isBase l p0) (va_cwS 1 hts gX1_isFermat_X1_isBase rfl rfl rfl (by decide +kernel) ⟨Nat.le_of_ble_eq_true rfl, Nat.le_of_ble_eq_true rfl⟩) ⟨fun a U g mk q => q, fun U hU hW => ⟨rfl, trivial⟩⟩ rfl rfl hl.1 rfl (lv_room (Nat.le_of_ble_eq_true rfl)) dX1_isFermat_2 ⟨Nat.le_of_ble_eq_true rfl, Nat.le_of_ble_eq_true rfl⟩) hS (fun q _ h => h.elim) (fun q h => h.elim) (fun r2 u2 t H locs ht hvm hw2 hB hz hk hS => ?_)
  obtain ⟨hw2, bz2⟩ := hw2
  subst hw2
  have hP := hP.kept (fun k q hk9 => hk _ (vx_lt hP hk9) (fun h => h))
  refine lv_if_eq (tgt := 22) hx hb dX1_isFermat_5 (by decide) (fun c5 => ?_) (fun c5 => ?_)
  · skip
    refine lv_iconst (v := 0) hx hb dX1_isFermat_22 (by decide) ?_
    refine lv_iconst (v := 1) hx hb dX1_isFermat_23 (by decide) ?_
    refine va_calli (va_runV (As := [.int 0, .int 1]) (rest := []) ⟨hx, hb, hml, hown, hts⟩ (met_X1_no l D cI cJ bd A T 0 1) (cwV 2 hts gX1_isFermat_X1_no rfl rfl rfl (by decide +kernel) ⟨Nat.le_of_ble_eq_true rfl, Nat.le_of_ble_eq_true rfl⟩) ⟨fun a U g mk q => ⟨q.1, b1R_calling q.2.1, q.2.2⟩, va_recv hK hP (ci := 1) (q0 := 0) rfl rfl, fun U hU hW => ⟨rfl, b1R_at hP hK hU hW, hD⟩⟩ rfl rfl hl.1 rfl (lv_room (Nat.le_of_ble_eq_true rfl)) dX1_isFermat_24 ⟨Nat.le_of_ble_eq_true rfl, Nat.le_of_ble_eq_true rfl⟩) hS (fun q _ h => h) (fun q h => h) (fun r24 u24 t H locs ht hvm hw24 hB hz hk hS => ?_)
    obtain ⟨hw24, bz24⟩ := hw24
    obtain ⟨hP, hD⟩ := hB
    rw [ht] at hP
    refine lv_if_ne (tgt := 44) hx hb dX1_isFermat_27 (by decide) (fun c27 => ?_) (fun c27 => ?_)
    · skip
      refine lv_iconst (v := 0) hx hb dX1_isFermat_44 (by decide) ?_
      rw [hQ]
      exact W.zret (ty := .boolean) (v := 0) hx hb hr (nbool (Or.inl rfl)) (fun t ht hW => ⟨⟨0, u24, rfl, ⟨(hR.trans (by simp only [f_X1_isFermat, if_pos c5, hw24, if_neg c27])), (Or.inl rfl)⟩, by rw [ht]; exact hP, hD⟩, hS.F ht⟩) hS.2.2 dX1_isFermat_45
    · skip
      exact absurd rfl (no_ok hw24 c27)
  · skip
    refine lv_iload_n hx hb dX1_isFermat_8 rfl (lv_at hl 2 rfl) ?_
    refine lv_iconst (v := 1) hx hb dX1_isFermat_9 (by decide) ?_
    refine lv_bipush (v := 64) hx hb dX1_isFermat_10 (by decide) ?_
    refine va_calli (va_runS (As := [.int p1, .int 1, .int 64]) (rest := [.ref (bd 0)]) ⟨hx, hb, hml, hown, hts⟩ (met_X1_isFrom l p1 1 64) (va_cwS 3 hts gX1_isFermat_X1_isFrom rfl rfl rfl (by decide +kernel) ⟨Nat.le_of_ble_eq_true rfl, Nat.le_of_ble_eq_true rfl⟩) ⟨fun a U g mk q => q, fun U hU hW => ⟨rfl, trivial⟩⟩ rfl rfl hl.1 rfl (lv_room (Nat.le_of_ble_eq_true rfl)) dX1_isFermat_12 ⟨Nat.le_of_ble_eq_true rfl, Nat.le_of_ble_eq_true rfl⟩) hS (fun q _ h => h.elim) (fun q h => h.elim) (fun r12 u12 t H locs ht hvm hw12 hB hz hk hS => ?_)
    obtain ⟨hw12, bz12⟩ := hw12
    subst hw12
    have hP := hP.kept (fun k q hk9 => hk _ (vx_lt hP hk9) (fun h => h))
    refine lv_if_eq (tgt := 22) hx hb dX1_isFermat_15 (by decide) (fun c15 => ?_) (fun c15 => ?_)
    · skip
      refine lv_iconst (v := 0) hx hb dX1_isFermat_22 (by decide) ?_
      refine lv_iconst (v := 1) hx hb dX1_isFermat_23 (by decide) ?_
      refine va_calli (va_runV (As := [.int 0, .int 1]) (rest := []) ⟨hx, hb, hml, hown, hts⟩ (met_X1_no l D cI cJ bd A T 0 1) (cwV 2 hts gX1_isFermat_X1_no rfl rfl rfl (by decide +kernel) ⟨Nat.le_of_ble_eq_true rfl, Nat.le_of_ble_eq_true rfl⟩) ⟨fun a U g mk q => ⟨q.1, b1R_calling q.2.1, q.2.2⟩, va_recv hK hP (ci := 1) (q0 := 0) rfl rfl, fun U hU hW => ⟨rfl, b1R_at hP hK hU hW, hD⟩⟩ rfl rfl hl.1 rfl (lv_room (Nat.le_of_ble_eq_true rfl)) dX1_isFermat_24 ⟨Nat.le_of_ble_eq_true rfl, Nat.le_of_ble_eq_true rfl⟩) hS (fun q _ h => h) (fun q h => h) (fun r24 u24 t H locs ht hvm hw24 hB hz hk hS => ?_)
      obtain ⟨hw24, bz24⟩ := hw24
      obtain ⟨hP, hD⟩ := hB
      rw [ht] at hP
      refine lv_if_ne (tgt := 44) hx hb dX1_isFermat_27 (by decide) (fun c27 => ?_) (fun c27 => ?_)
      · skip
        refine lv_iconst (v := 0) hx hb dX1_isFermat_44 (by decide) ?_
        rw [hQ]
        exact W.zret (ty := .boolean) (v := 0) hx hb hr (nbool (Or.inl rfl)) (fun t ht hW => ⟨⟨0, u24, rfl, ⟨(hR.trans (by simp only [f_X1_isFermat, if_neg c5, if_pos c15, hw24, if_neg c27])), (Or.inl rfl)⟩, by rw [ht]; exact hP, hD⟩, hS.F ht⟩) hS.2.2 dX1_isFermat_45
      · skip
        exact absurd rfl (no_ok hw24 c27)
    · skip
      have hz15 := isFrom1_nz c15
      refine lv_iconst (v := 1) hx hb dX1_isFermat_18 (by decide) ?_
      refine lv_goto (tgt := 23) hx hb dX1_isFermat_19 (by decide) ?_
      refine lv_iconst (v := 1) hx hb dX1_isFermat_23 (by decide) ?_
      refine va_calli (va_runV (As := [.int 1, .int 1]) (rest := []) ⟨hx, hb, hml, hown, hts⟩ (met_X1_no l D cI cJ bd A T 1 1) (cwV 2 hts gX1_isFermat_X1_no rfl rfl rfl (by decide +kernel) ⟨Nat.le_of_ble_eq_true rfl, Nat.le_of_ble_eq_true rfl⟩) ⟨fun a U g mk q => ⟨q.1, b1R_calling q.2.1, q.2.2⟩, va_recv hK hP (ci := 1) (q0 := 0) rfl rfl, fun U hU hW => ⟨rfl, b1R_at hP hK hU hW, hD⟩⟩ rfl rfl hl.1 rfl (lv_room (Nat.le_of_ble_eq_true rfl)) dX1_isFermat_24 ⟨Nat.le_of_ble_eq_true rfl, Nat.le_of_ble_eq_true rfl⟩) hS (fun q _ h => h) (fun q h => h) (fun r24 u24 t H locs ht hvm hw24 hB hz hk hS => ?_)
      obtain ⟨hw24, bz24⟩ := hw24
      obtain ⟨hP, hD⟩ := hB
      rw [ht] at hP
      refine lv_if_ne (tgt := 44) hx hb dX1_isFermat_27 (by decide) (fun c27 => ?_) (fun c27 => ?_)
      · skip
        refine lv_iconst (v := 0) hx hb dX1_isFermat_44 (by decide) ?_
        rw [hQ]
        exact W.zret (ty := .boolean) (v := 0) hx hb hr (nbool (Or.inl rfl)) (fun t ht hW => ⟨⟨0, u24, rfl, ⟨(hR.trans (by simp only [f_X1_isFermat, if_neg c5, if_neg c15, hw24, if_neg c27])), (Or.inl rfl)⟩, by rw [ht]; exact hP, hD⟩, hS.F ht⟩) hS.2.2 dX1_isFermat_45
      · skip
        refine lv_aload_n hx hb dX1_isFermat_30 rfl (lv_at hl 0 rfl) ?_
        refine lv_aload_n hx hb dX1_isFermat_31 rfl (lv_at hl 0 rfl) ?_
        refine lv_iload_n hx hb dX1_isFermat_32 rfl (lv_at hl 1 rfl) ?_
        refine lv_iload_n hx hb dX1_isFermat_33 rfl (lv_at hl 2 rfl) ?_
        refine va_calli (va_runV (As := [.int p0, .int p1]) (rest := [.ref (bd 0)]) ⟨hx, hb, hml, hown, hts⟩ (met_X1_isToldNear l D cI cJ bd A u24 p0 p1) (cwV 2 hts gX1_isFermat_X1_isToldNear rfl rfl rfl (by decide +kernel) ⟨Nat.le_of_ble_eq_true rfl, Nat.le_of_ble_eq_true rfl⟩) ⟨fun a U g mk q => ⟨q.1, b1R_calling q.2.1, q.2.2⟩, va_recv hK hP (ci := 1) (q0 := 0) rfl rfl, fun U hU hW => ⟨rfl, b1R_at hP hK hU hW, hD⟩⟩ rfl rfl hl.1 rfl (lv_room (Nat.le_of_ble_eq_true rfl)) dX1_isFermat_34 ⟨Nat.le_of_ble_eq_true rfl, Nat.le_of_ble_eq_true rfl⟩) hS (fun q _ h => h) (fun q h => h) (fun r34 u34 t H locs ht hvm hw34 hB hz hk hS => ?_)
        obtain ⟨hw34, bz34⟩ := hw34
        obtain ⟨hP, hD⟩ := hB
        rw [ht] at hP
        refine lv_iconst (v := 2) hx hb dX1_isFermat_37 (by decide) ?_
        refine va_calli (va_runV (As := [.int r34, .int 2]) (rest := []) ⟨hx, hb, hml, hown, hts⟩ (met_X1_no l D cI cJ bd A u34 r34 2) (cwV 2 hts gX1_isFermat_X1_no rfl rfl rfl (by decide +kernel) ⟨Nat.le_of_ble_eq_true rfl, Nat.le_of_ble_eq_true rfl⟩) ⟨fun a U g mk q => ⟨q.1, b1R_calling q.2.1, q.2.2⟩, va_recv hK hP (ci := 1) (q0 := 0) rfl rfl, fun U hU hW => ⟨rfl, b1R_at hP hK hU hW, hD⟩⟩ rfl rfl hl.1 rfl (lv_room (Nat.le_of_ble_eq_true rfl)) dX1_isFermat_38 ⟨Nat.le_of_ble_eq_true rfl, Nat.le_of_ble_eq_true rfl⟩) hS (fun q _ h => h) (fun q h => h) (fun r38 u38 t H locs ht hvm hw38 hB hz hk hS => ?_)
        obtain ⟨hw38, bz38⟩ := hw38
        obtain ⟨hP, hD⟩ := hB
        rw [ht] at hP
        refine lv_if_eq (tgt := 46) hx hb dX1_isFermat_41 (by decide) (fun c41 => ?_) (fun c41 => ?_)
        · skip
          refine lv_aload_n hx hb dX1_isFermat_46 rfl (lv_at hl 0 rfl) ?_
          refine va_calll (va_runV (As := []) (rest := []) ⟨hx, hb, hml, hown, hts⟩ (met_X1_powerWhole l D cI cJ bd u38) (cwV 0 hts gX1_isFermat_X1_powerWhole rfl rfl rfl (by decide +kernel) ⟨Nat.le_of_ble_eq_true rfl, Nat.le_of_ble_eq_true rfl⟩) ⟨fun a U g mk q => ⟨q.1, b1R_calling q.2⟩, va_recv hK hP (ci := 1) (q0 := 0) rfl rfl, fun U hU hW => ⟨rfl, b1R_at hP hK hU hW⟩⟩ rfl rfl hl.1 rfl (lv_room (Nat.le_of_ble_eq_true rfl)) dX1_isFermat_47 ⟨Nat.le_of_ble_eq_true rfl, Nat.le_of_ble_eq_true rfl⟩) hS (fun q _ h => h.elim) (fun q h => h.elim) (fun r47 u47 t H locs ht hvm hw47 hB hz hk hS => ?_)
          subst hw47
          have hP := hP.kept (fun k q hk9 => hk _ (vx_lt hP hk9) (fun h => h))
          refine lv_iload_n hx hb dX1_isFermat_50 rfl (lv_at hl 1 rfl) ?_
          refine lv_i2l hx hb dX1_isFermat_51 rfl ?_
          refine lv_lsub hx hb dX1_isFermat_52 ?_
          refine lv_iload_n hx hb dX1_isFermat_53 rfl (lv_at hl 2 rfl) ?_
          refine lv_i2l hx hb dX1_isFermat_54 rfl ?_
          refine lv_lrem hx hb dX1_isFermat_55 (hz15) ?_
          refine lv_lconst (v := 0) hx hb dX1_isFermat_56 rfl ?_
          refine W.lcmp hx hb dX1_isFermat_57 ?_
          refine lv_if_ne (tgt := 65) hx hb dX1_isFermat_58 (by decide) (fun c57 => ?_) (fun c57 => ?_)
          · skip
            have c57 : ¬ (((((f_X1_powerWhole u38) - ((p0 : Int32).toInt64)) - ((f_X1_powerWhole u38) - ((p0 : Int32).toInt64)) / ((p1 : Int32).toInt64) * ((p1 : Int32).toInt64)) : Int64) = 0) := fun h => c57 ((lg_cmp_eq _ _).mpr h)
            refine lv_iconst (v := 0) hx hb dX1_isFermat_65 (by decide) ?_
            rw [hQ]
            exact W.zret (ty := .boolean) (v := 0) hx hb hr (nbool (Or.inl rfl)) (fun t ht hW => ⟨⟨0, u38, rfl, ⟨(hR.trans (by simp only [f_X1_isFermat, if_neg c5, if_neg c15, hw24, if_pos c27, hw34, hw38, if_pos c41, if_neg c57])), (Or.inl rfl)⟩, by rw [ht]; exact hP, hD⟩, hS.F ht⟩) hS.2.2 dX1_isFermat_66
          · skip
            have c57 : ((((f_X1_powerWhole u38) - ((p0 : Int32).toInt64)) - ((f_X1_powerWhole u38) - ((p0 : Int32).toInt64)) / ((p1 : Int32).toInt64) * ((p1 : Int32).toInt64)) : Int64) = 0 := (lg_cmp_eq _ _).mp c57
            refine lv_iconst (v := 1) hx hb dX1_isFermat_61 (by decide) ?_
            refine lv_goto (tgt := 66) hx hb dX1_isFermat_62 (by decide) ?_
            rw [hQ]
            exact W.zret (ty := .boolean) (v := 1) hx hb hr (nbool (Or.inr rfl)) (fun t ht hW => ⟨⟨1, u38, rfl, ⟨(hR.trans (by simp only [f_X1_isFermat, if_neg c5, if_neg c15, hw24, if_pos c27, hw34, hw38, if_pos c41, if_pos c57])), (Or.inr rfl)⟩, by rw [ht]; exact hP, hD⟩, hS.F ht⟩) hS.2.2 dX1_isFermat_66
        · skip
          refine lv_iconst (v := 0) hx hb dX1_isFermat_44 (by decide) ?_
          rw [hQ]
          exact W.zret (ty := .boolean) (v := 0) hx hb hr (nbool (Or.inl rfl)) (fun t ht hW => ⟨⟨0, u38, rfl, ⟨(hR.trans (by simp only [f_X1_isFermat, if_neg c5, if_neg c15, hw24, if_pos c27, hw34, hw38, if_neg c41])), (Or.inl rfl)⟩, by rw [ht]; exact hP, hD⟩, hS.F ht⟩) hS.2.2 dX1_isFermat_45

def g_X1_isChain_20 (T : pT) (p0 : Int32) (p1 : Int32) (w20_0 : Int32) : Int32 × pT := (match f_X1_no T w20_0 1 with | (r21, u21) => (if (r21 : Int32) = 0 then (match f_X1_isTold_ u21 p0 p1 with | (r31, u31) => (match f_X1_no u31 r31 2 with | (r35, u35) => (if (r35 : Int32) = 0 then (1, u35) else (0, u35)))) else (0, u21)))
def g_X1_isChain_19 (T : pT) (p0 : Int32) (p1 : Int32) : Int32 × pT := (g_X1_isChain_20 T p0 p1 0)
def f_X1_isChain (T : pT) (p0 : Int32) (p1 : Int32) : Int32 × pT := (if ((f_X1_isBase p0) : Int32) = 0 then (g_X1_isChain_19 T p0 p1) else (if ((f_X1_isExponent p1) : Int32) = 0 then (g_X1_isChain_19 T p0 p1) else (g_X1_isChain_20 T p0 p1 1)))
set_option maxHeartbeats 4000000 in
set_option maxRecDepth 100000 in
theorem met_X1_isChain (l : Launch) (D : va_G) (cI cJ : ClassId) (bd : Nat → Nat) (A : Nat → Prop) (T : pT) (p0 : Int32) (p1 : Int32) : Met l yX1_isChain wsX1_isChain ({ frames := 2, cells := 0, slots := 0, locals := 51 } : Room) (va_Pc [.ref (bd 0), .int p0, .int p1] (fun U => b1R D cI cJ bd T U ∧ va_D A (mmW cI cJ bd T))) (va_Qi (fun (r : Int32) (u : pT) => f_X1_isChain T p0 p1 = (r, u) ∧ (r = 0 ∨ r = 1)) (fun (u : pT) t => va_P D pCl (mmW cI cJ bd u) t.heap ∧ va_D A (mmW cI cJ bd u)) A) 0 0 A := by
  refine Met.ofW (cc := cX1_isChain) (maxL := 3) (ret := (some .boolean)) (by decide) rfl ?_
  intro p e s m args below meth c s₁ B hml hv
  obtain ⟨rfl, ⟨hP, hK⟩, hD⟩ := hv
  have hx := B.exec
  have hb := B.bytes
  have hr := B.returns
  have hts := atoms_spec (ws := wsX1_isChain) B.pre
  have hown : s.vm.findClass RX1 = some m.cls := findClass_of_methodNamed B.named
  have hlocks := B.notSynchronized
  have hS : va_S A s.heap s.heap [] := va_S.rf
  have hl := lv_entry ([.ref (bd 0), .int p0, .int p1]) (n := 3) (Nat.le_of_ble_eq_true rfl)
  rw [lg_entry_eq]
  generalize (lg_sl ([.ref (bd 0), .int p0, .int p1]) ++ List.replicate (3 - (lg_sl ([.ref (bd 0), .int p0, .int p1])).length) Slot.unset).toArray = ls at hl ⊢
  have hl : lv_has ls 3 [(0, .ref (bd 0)), (1, .int p0), (2, .int p1)] := hl
  obtain ⟨Q, hQ⟩ : ∃ Q : State → Prop, Q = (MQ below (va_Qi (fun (r : Int32) (u : pT) => f_X1_isChain T p0 p1 = (r, u) ∧ (r = 0 ∨ r = 1)) (fun (u : pT) t => va_P D pCl (mmW cI cJ bd u) t.heap ∧ va_D A (mmW cI cJ bd u)) A) ([.ref (bd 0), .int p0, .int p1] : List Value).toArray s 0 0 A) := ⟨_, rfl⟩
  rw [← hQ]
  have hR : f_X1_isChain T p0 p1 = f_X1_isChain T p0 p1 := rfl
  refine lv_aload_n hx hb dX1_isChain_0 rfl (lv_at hl 0 rfl) ?_
  refine lv_iload_n hx hb dX1_isChain_1 rfl (lv_at hl 1 rfl) ?_
  refine va_calli (va_runS (As := [.int p0]) (rest := [.ref (bd 0)]) ⟨hx, hb, hml, hown, hts⟩ (met_X1_isBase l p0) (va_cwS 1 hts gX1_isChain_X1_isBase rfl rfl rfl (by decide +kernel) ⟨Nat.le_of_ble_eq_true rfl, Nat.le_of_ble_eq_true rfl⟩) ⟨fun a U g mk q => q, fun U hU hW => ⟨rfl, trivial⟩⟩ rfl rfl hl.1 rfl (lv_room (Nat.le_of_ble_eq_true rfl)) dX1_isChain_2 ⟨Nat.le_of_ble_eq_true rfl, Nat.le_of_ble_eq_true rfl⟩) hS (fun q _ h => h.elim) (fun q h => h.elim) (fun r2 u2 t H locs ht hvm hw2 hB hz hk hS => ?_)
  obtain ⟨hw2, bz2⟩ := hw2
  subst hw2
  have hP := hP.kept (fun k q hk9 => hk _ (vx_lt hP hk9) (fun h => h))
  have J20 : ∀ (w20_0 : Int32) (ls : Array Slot) (H : Heap) (locs : List Loc), lv_has ls 3 [(0, .ref (bd 0)), (1, .int p0), (2, .int p1)] → va_S A s.heap H locs → va_P D pCl (mmW cI cJ bd T) H → va_D A (mmW cI cJ bd T) → (w20_0 = 0 ∨ w20_0 = 1) → f_X1_isChain T p0 p1 = g_X1_isChain_20 T p0 p1 w20_0 → W p l e (headSpec wsX1_isChain ({ frames := 2, cells := 0, slots := 0, locals := 51 } : Room)).room s m ([.ref (bd 0), .int p0, .int p1] : List Value).toArray below meth c H locs 0 0 Q (F0 m 20 ls [.int w20_0, .ref (bd 0)]) := by
    intro w20_0 ls H locs hl hS hP hD hb_w20_0 hR
    refine lv_iconst (v := 1) hx hb dX1_isChain_20 (by decide) ?_
    refine va_calli (va_runV (As := [.int w20_0, .int 1]) (rest := []) ⟨hx, hb, hml, hown, hts⟩ (met_X1_no l D cI cJ bd A T w20_0 1) (cwV 2 hts gX1_isChain_X1_no rfl rfl rfl (by decide +kernel) ⟨Nat.le_of_ble_eq_true rfl, Nat.le_of_ble_eq_true rfl⟩) ⟨fun a U g mk q => ⟨q.1, b1R_calling q.2.1, q.2.2⟩, va_recv hK hP (ci := 1) (q0 := 0) rfl rfl, fun U hU hW => ⟨rfl, b1R_at hP hK hU hW, hD⟩⟩ rfl rfl hl.1 rfl (lv_room (Nat.le_of_ble_eq_true rfl)) dX1_isChain_21 ⟨Nat.le_of_ble_eq_true rfl, Nat.le_of_ble_eq_true rfl⟩) hS (fun q _ h => h) (fun q h => h) (fun r21 u21 t H locs ht hvm hw21 hB hz hk hS => ?_)
    obtain ⟨hw21, bz21⟩ := hw21
    obtain ⟨hP, hD⟩ := hB
    rw [ht] at hP
    refine lv_if_ne (tgt := 45) hx hb dX1_isChain_24 (by decide) (fun c24 => ?_) (fun c24 => ?_)
    · skip
      refine lv_iconst (v := 0) hx hb dX1_isChain_45 (by decide) ?_
      rw [hQ]
      exact W.zret (ty := .boolean) (v := 0) hx hb hr (nbool (Or.inl rfl)) (fun t ht hW => ⟨⟨0, u21, rfl, ⟨(hR.trans (by simp only [g_X1_isChain_20, hw21, if_neg c24])), (Or.inl rfl)⟩, by rw [ht]; exact hP, hD⟩, hS.F ht⟩) hS.2.2 dX1_isChain_46
    · skip
      refine lv_aload_n hx hb dX1_isChain_27 rfl (lv_at hl 0 rfl) ?_
      refine lv_aload_n hx hb dX1_isChain_28 rfl (lv_at hl 0 rfl) ?_
      refine lv_iload_n hx hb dX1_isChain_29 rfl (lv_at hl 1 rfl) ?_
      refine lv_iload_n hx hb dX1_isChain_30 rfl (lv_at hl 2 rfl) ?_
      refine va_calli (va_runV (As := [.int p0, .int p1]) (rest := [.ref (bd 0)]) ⟨hx, hb, hml, hown, hts⟩ (met_X1_isTold_ l D cI cJ bd A u21 p0 p1) (cwV 2 hts gX1_isChain_X1_isTold_ rfl rfl rfl (by decide +kernel) ⟨Nat.le_of_ble_eq_true rfl, Nat.le_of_ble_eq_true rfl⟩) ⟨fun a U g mk q => ⟨q.1, b1R_calling q.2.1, q.2.2⟩, va_recv hK hP (ci := 1) (q0 := 0) rfl rfl, fun U hU hW => ⟨rfl, b1R_at hP hK hU hW, hD⟩⟩ rfl rfl hl.1 rfl (lv_room (Nat.le_of_ble_eq_true rfl)) dX1_isChain_31 ⟨Nat.le_of_ble_eq_true rfl, Nat.le_of_ble_eq_true rfl⟩) hS (fun q _ h => h) (fun q h => h) (fun r31 u31 t H locs ht hvm hw31 hB hz hk hS => ?_)
      obtain ⟨hw31, bz31⟩ := hw31
      obtain ⟨hP, hD⟩ := hB
      rw [ht] at hP
      refine lv_iconst (v := 2) hx hb dX1_isChain_34 (by decide) ?_
      refine va_calli (va_runV (As := [.int r31, .int 2]) (rest := []) ⟨hx, hb, hml, hown, hts⟩ (met_X1_no l D cI cJ bd A u31 r31 2) (cwV 2 hts gX1_isChain_X1_no rfl rfl rfl (by decide +kernel) ⟨Nat.le_of_ble_eq_true rfl, Nat.le_of_ble_eq_true rfl⟩) ⟨fun a U g mk q => ⟨q.1, b1R_calling q.2.1, q.2.2⟩, va_recv hK hP (ci := 1) (q0 := 0) rfl rfl, fun U hU hW => ⟨rfl, b1R_at hP hK hU hW, hD⟩⟩ rfl rfl hl.1 rfl (lv_room (Nat.le_of_ble_eq_true rfl)) dX1_isChain_35 ⟨Nat.le_of_ble_eq_true rfl, Nat.le_of_ble_eq_true rfl⟩) hS (fun q _ h => h) (fun q h => h) (fun r35 u35 t H locs ht hvm hw35 hB hz hk hS => ?_)
      obtain ⟨hw35, bz35⟩ := hw35
      obtain ⟨hP, hD⟩ := hB
      rw [ht] at hP
      refine lv_if_ne (tgt := 45) hx hb dX1_isChain_38 (by decide) (fun c38 => ?_) (fun c38 => ?_)
      · skip
        refine lv_iconst (v := 0) hx hb dX1_isChain_45 (by decide) ?_
        rw [hQ]
        exact W.zret (ty := .boolean) (v := 0) hx hb hr (nbool (Or.inl rfl)) (fun t ht hW => ⟨⟨0, u35, rfl, ⟨(hR.trans (by simp only [g_X1_isChain_20, hw21, if_pos c24, hw31, hw35, if_neg c38])), (Or.inl rfl)⟩, by rw [ht]; exact hP, hD⟩, hS.F ht⟩) hS.2.2 dX1_isChain_46
      · skip
        refine lv_iconst (v := 1) hx hb dX1_isChain_41 (by decide) ?_
        refine lv_goto (tgt := 46) hx hb dX1_isChain_42 (by decide) ?_
        rw [hQ]
        exact W.zret (ty := .boolean) (v := 1) hx hb hr (nbool (Or.inr rfl)) (fun t ht hW => ⟨⟨1, u35, rfl, ⟨(hR.trans (by simp only [g_X1_isChain_20, hw21, if_pos c24, hw31, hw35, if_pos c38])), (Or.inr rfl)⟩, by rw [ht]; exact hP, hD⟩, hS.F ht⟩) hS.2.2 dX1_isChain_46
  have J19 : ∀ (ls : Array Slot) (H : Heap) (locs : List Loc), lv_has ls 3 [(0, .ref (bd 0)), (1, .int p0), (2, .int p1)] → va_S A s.heap H locs → va_P D pCl (mmW cI cJ bd T) H → va_D A (mmW cI cJ bd T) → f_X1_isChain T p0 p1 = g_X1_isChain_19 T p0 p1 → W p l e (headSpec wsX1_isChain ({ frames := 2, cells := 0, slots := 0, locals := 51 } : Room)).room s m ([.ref (bd 0), .int p0, .int p1] : List Value).toArray below meth c H locs 0 0 Q (F0 m 19 ls [.ref (bd 0)]) := by
    intro ls H locs hl hS hP hD hR
    refine lv_iconst (v := 0) hx hb dX1_isChain_19 (by decide) ?_
    exact J20 0 ls _ _ (lv_sub hl [0, 1, 2] rfl) hS hP hD (Or.inl rfl) (hR.trans (by simp only [g_X1_isChain_19]))
  refine lv_if_eq (tgt := 19) hx hb dX1_isChain_5 (by decide) (fun c5 => ?_) (fun c5 => ?_)
  · skip
    exact J19 ls _ _ (lv_sub hl [0, 1, 2] rfl) hS hP hD (hR.trans (by simp only [f_X1_isChain, if_pos c5]))
  · skip
    refine lv_iload_n hx hb dX1_isChain_8 rfl (lv_at hl 2 rfl) ?_
    refine va_calli (va_runS (As := [.int p1]) (rest := [.ref (bd 0)]) ⟨hx, hb, hml, hown, hts⟩ (met_X1_isExponent l p1) (va_cwS 1 hts gX1_isChain_X1_isExponent rfl rfl rfl (by decide +kernel) ⟨Nat.le_of_ble_eq_true rfl, Nat.le_of_ble_eq_true rfl⟩) ⟨fun a U g mk q => q, fun U hU hW => ⟨rfl, trivial⟩⟩ rfl rfl hl.1 rfl (lv_room (Nat.le_of_ble_eq_true rfl)) dX1_isChain_9 ⟨Nat.le_of_ble_eq_true rfl, Nat.le_of_ble_eq_true rfl⟩) hS (fun q _ h => h.elim) (fun q h => h.elim) (fun r9 u9 t H locs ht hvm hw9 hB hz hk hS => ?_)
    obtain ⟨hw9, bz9⟩ := hw9
    subst hw9
    have hP := hP.kept (fun k q hk9 => hk _ (vx_lt hP hk9) (fun h => h))
    refine lv_if_eq (tgt := 19) hx hb dX1_isChain_12 (by decide) (fun c12 => ?_) (fun c12 => ?_)
    · skip
      exact J19 ls _ _ (lv_sub hl [0, 1, 2] rfl) hS hP hD (hR.trans (by simp only [f_X1_isChain, if_neg c5, if_pos c12]))
    · skip
      refine lv_iconst (v := 1) hx hb dX1_isChain_15 (by decide) ?_
      refine lv_goto (tgt := 20) hx hb dX1_isChain_16 (by decide) ?_
      exact J20 1 ls _ _ (lv_sub hl [0, 1, 2] rfl) hS hP hD (Or.inr rfl) (hR.trans (by simp only [f_X1_isChain, if_neg c5, if_neg c12]))

def g_X1_addsUp_35 (T : pT) (p0 : Int32) (p1 : Int32) (p2 : Int32) (w35_0 : Int32) : Int32 × pT := (match f_X1_no T w35_0 1 with | (r41, u41) => (if (r41 : Int32) = 0 then (match f_X1_isTold_ u41 p0 (p1 + p2) with | (r53, u53) => (match f_X1_no u53 r53 2 with | (r57, u57) => (if (r57 : Int32) = 0 then (1, u57) else (0, u57)))) else (0, u41)))
def g_X1_addsUp_34 (T : pT) (p0 : Int32) (p1 : Int32) (p2 : Int32) : Int32 × pT := (g_X1_addsUp_35 T p0 p1 p2 0)
def f_X1_addsUp (T : pT) (p0 : Int32) (p1 : Int32) (p2 : Int32) : Int32 × pT := (if ((f_X1_isBase p0) : Int32) = 0 then (g_X1_addsUp_34 T p0 p1 p2) else (if ((f_X1_isExponent p1) : Int32) = 0 then (g_X1_addsUp_34 T p0 p1 p2) else (if ((f_X1_isExponent p2) : Int32) = 0 then (g_X1_addsUp_34 T p0 p1 p2) else (if ((f_X1_isExponent (p1 + p2)) : Int32) = 0 then (g_X1_addsUp_34 T p0 p1 p2) else (g_X1_addsUp_35 T p0 p1 p2 1)))))
set_option maxHeartbeats 4000000 in
set_option maxRecDepth 100000 in
theorem met_X1_addsUp (l : Launch) (D : va_G) (cI cJ : ClassId) (bd : Nat → Nat) (A : Nat → Prop) (T : pT) (p0 : Int32) (p1 : Int32) (p2 : Int32) : Met l yX1_addsUp wsX1_addsUp ({ frames := 2, cells := 0, slots := 0, locals := 51 } : Room) (va_Pc [.ref (bd 0), .int p0, .int p1, .int p2] (fun U => b1R D cI cJ bd T U ∧ va_D A (mmW cI cJ bd T))) (va_Qi (fun (r : Int32) (u : pT) => f_X1_addsUp T p0 p1 p2 = (r, u) ∧ (r = 0 ∨ r = 1)) (fun (u : pT) t => va_P D pCl (mmW cI cJ bd u) t.heap ∧ va_D A (mmW cI cJ bd u)) A) 0 0 A := by
  refine Met.ofW (cc := cX1_addsUp) (maxL := 5) (ret := (some .boolean)) (by decide) rfl ?_
  intro p e s m args below meth c s₁ B hml hv
  obtain ⟨rfl, ⟨hP, hK⟩, hD⟩ := hv
  have hx := B.exec
  have hb := B.bytes
  have hr := B.returns
  have hts := atoms_spec (ws := wsX1_addsUp) B.pre
  have hown : s.vm.findClass RX1 = some m.cls := findClass_of_methodNamed B.named
  have hlocks := B.notSynchronized
  have hS : va_S A s.heap s.heap [] := va_S.rf
  have hl := lv_entry ([.ref (bd 0), .int p0, .int p1, .int p2]) (n := 5) (Nat.le_of_ble_eq_true rfl)
  rw [lg_entry_eq]
  generalize (lg_sl ([.ref (bd 0), .int p0, .int p1, .int p2]) ++ List.replicate (5 - (lg_sl ([.ref (bd 0), .int p0, .int p1, .int p2])).length) Slot.unset).toArray = ls at hl ⊢
  have hl : lv_has ls 5 [(0, .ref (bd 0)), (1, .int p0), (2, .int p1), (3, .int p2)] := hl
  obtain ⟨Q, hQ⟩ : ∃ Q : State → Prop, Q = (MQ below (va_Qi (fun (r : Int32) (u : pT) => f_X1_addsUp T p0 p1 p2 = (r, u) ∧ (r = 0 ∨ r = 1)) (fun (u : pT) t => va_P D pCl (mmW cI cJ bd u) t.heap ∧ va_D A (mmW cI cJ bd u)) A) ([.ref (bd 0), .int p0, .int p1, .int p2] : List Value).toArray s 0 0 A) := ⟨_, rfl⟩
  rw [← hQ]
  have hR : f_X1_addsUp T p0 p1 p2 = f_X1_addsUp T p0 p1 p2 := rfl
  refine lv_iload_n hx hb dX1_addsUp_0 rfl (lv_at hl 1 rfl) ?_
  refine va_calli (va_runS (As := [.int p0]) (rest := []) ⟨hx, hb, hml, hown, hts⟩ (met_X1_isBase l p0) (va_cwS 1 hts gX1_addsUp_X1_isBase rfl rfl rfl (by decide +kernel) ⟨Nat.le_of_ble_eq_true rfl, Nat.le_of_ble_eq_true rfl⟩) ⟨fun a U g mk q => q, fun U hU hW => ⟨rfl, trivial⟩⟩ rfl rfl hl.1 rfl (lv_room (Nat.le_of_ble_eq_true rfl)) dX1_addsUp_1 ⟨Nat.le_of_ble_eq_true rfl, Nat.le_of_ble_eq_true rfl⟩) hS (fun q _ h => h.elim) (fun q h => h.elim) (fun r1 u1 t H locs ht hvm hw1 hB hz hk hS => ?_)
  obtain ⟨hw1, bz1⟩ := hw1
  subst hw1
  have hP := hP.kept (fun k q hk9 => hk _ (vx_lt hP hk9) (fun h => h))
  have J35 : ∀ (w35_0 : Int32) (ls : Array Slot) (H : Heap) (locs : List Loc), lv_has ls 5 [(0, .ref (bd 0)), (1, .int p0), (2, .int p1), (3, .int p2)] → va_S A s.heap H locs → va_P D pCl (mmW cI cJ bd T) H → va_D A (mmW cI cJ bd T) → (w35_0 = 0 ∨ w35_0 = 1) → f_X1_addsUp T p0 p1 p2 = g_X1_addsUp_35 T p0 p1 p2 w35_0 → W p l e (headSpec wsX1_addsUp ({ frames := 2, cells := 0, slots := 0, locals := 51 } : Room)).room s m ([.ref (bd 0), .int p0, .int p1, .int p2] : List Value).toArray below meth c H locs 0 0 Q (F0 m 35 ls [.int w35_0]) := by
    intro w35_0 ls H locs hl hS hP hD hb_w35_0 hR
    refine lv_istore (lv' := [(4, .int w35_0), (0, .ref (bd 0)), (1, .int p0), (2, .int p1), (3, .int p2)]) hx hb dX1_addsUp_35 hl (by decide) rfl (fun ls hl => ?_)
    refine lv_aload_n hx hb dX1_addsUp_37 rfl (lv_at hl 1 rfl) ?_
    refine lv_iload hx hb dX1_addsUp_38 (lv_at hl 0 rfl) ?_
    refine lv_iconst (v := 1) hx hb dX1_addsUp_40 (by decide) ?_
    refine va_calli (va_runV (As := [.int w35_0, .int 1]) (rest := []) ⟨hx, hb, hml, hown, hts⟩ (met_X1_no l D cI cJ bd A T w35_0 1) (cwV 2 hts gX1_addsUp_X1_no rfl rfl rfl (by decide +kernel) ⟨Nat.le_of_ble_eq_true rfl, Nat.le_of_ble_eq_true rfl⟩) ⟨fun a U g mk q => ⟨q.1, b1R_calling q.2.1, q.2.2⟩, va_recv hK hP (ci := 1) (q0 := 0) rfl rfl, fun U hU hW => ⟨rfl, b1R_at hP hK hU hW, hD⟩⟩ rfl rfl hl.1 rfl (lv_room (Nat.le_of_ble_eq_true rfl)) dX1_addsUp_41 ⟨Nat.le_of_ble_eq_true rfl, Nat.le_of_ble_eq_true rfl⟩) hS (fun q _ h => h) (fun q h => h) (fun r41 u41 t H locs ht hvm hw41 hB hz hk hS => ?_)
    obtain ⟨hw41, bz41⟩ := hw41
    obtain ⟨hP, hD⟩ := hB
    rw [ht] at hP
    refine lv_if_ne (tgt := 67) hx hb dX1_addsUp_44 (by decide) (fun c44 => ?_) (fun c44 => ?_)
    · skip
      refine lv_iconst (v := 0) hx hb dX1_addsUp_67 (by decide) ?_
      rw [hQ]
      exact W.zret (ty := .boolean) (v := 0) hx hb hr (nbool (Or.inl rfl)) (fun t ht hW => ⟨⟨0, u41, rfl, ⟨(hR.trans (by simp only [g_X1_addsUp_35, hw41, if_neg c44])), (Or.inl rfl)⟩, by rw [ht]; exact hP, hD⟩, hS.F ht⟩) hS.2.2 dX1_addsUp_68
    · skip
      refine lv_aload_n hx hb dX1_addsUp_47 rfl (lv_at hl 1 rfl) ?_
      refine lv_aload_n hx hb dX1_addsUp_48 rfl (lv_at hl 1 rfl) ?_
      refine lv_iload_n hx hb dX1_addsUp_49 rfl (lv_at hl 2 rfl) ?_
      refine lv_iload_n hx hb dX1_addsUp_50 rfl (lv_at hl 3 rfl) ?_
      refine lv_iload_n hx hb dX1_addsUp_51 rfl (lv_at hl 4 rfl) ?_
      refine lv_iadd hx hb dX1_addsUp_52 ?_
      refine va_calli (va_runV (As := [.int p0, .int (p1 + p2)]) (rest := [.ref (bd 0)]) ⟨hx, hb, hml, hown, hts⟩ (met_X1_isTold_ l D cI cJ bd A u41 p0 (p1 + p2)) (cwV 2 hts gX1_addsUp_X1_isTold_ rfl rfl rfl (by decide +kernel) ⟨Nat.le_of_ble_eq_true rfl, Nat.le_of_ble_eq_true rfl⟩) ⟨fun a U g mk q => ⟨q.1, b1R_calling q.2.1, q.2.2⟩, va_recv hK hP (ci := 1) (q0 := 0) rfl rfl, fun U hU hW => ⟨rfl, b1R_at hP hK hU hW, hD⟩⟩ rfl rfl hl.1 rfl (lv_room (Nat.le_of_ble_eq_true rfl)) dX1_addsUp_53 ⟨Nat.le_of_ble_eq_true rfl, Nat.le_of_ble_eq_true rfl⟩) hS (fun q _ h => h) (fun q h => h) (fun r53 u53 t H locs ht hvm hw53 hB hz hk hS => ?_)
      obtain ⟨hw53, bz53⟩ := hw53
      obtain ⟨hP, hD⟩ := hB
      rw [ht] at hP
      refine lv_iconst (v := 2) hx hb dX1_addsUp_56 (by decide) ?_
      refine va_calli (va_runV (As := [.int r53, .int 2]) (rest := []) ⟨hx, hb, hml, hown, hts⟩ (met_X1_no l D cI cJ bd A u53 r53 2) (cwV 2 hts gX1_addsUp_X1_no rfl rfl rfl (by decide +kernel) ⟨Nat.le_of_ble_eq_true rfl, Nat.le_of_ble_eq_true rfl⟩) ⟨fun a U g mk q => ⟨q.1, b1R_calling q.2.1, q.2.2⟩, va_recv hK hP (ci := 1) (q0 := 0) rfl rfl, fun U hU hW => ⟨rfl, b1R_at hP hK hU hW, hD⟩⟩ rfl rfl hl.1 rfl (lv_room (Nat.le_of_ble_eq_true rfl)) dX1_addsUp_57 ⟨Nat.le_of_ble_eq_true rfl, Nat.le_of_ble_eq_true rfl⟩) hS (fun q _ h => h) (fun q h => h) (fun r57 u57 t H locs ht hvm hw57 hB hz hk hS => ?_)
      obtain ⟨hw57, bz57⟩ := hw57
      obtain ⟨hP, hD⟩ := hB
      rw [ht] at hP
      refine lv_if_ne (tgt := 67) hx hb dX1_addsUp_60 (by decide) (fun c60 => ?_) (fun c60 => ?_)
      · skip
        refine lv_iconst (v := 0) hx hb dX1_addsUp_67 (by decide) ?_
        rw [hQ]
        exact W.zret (ty := .boolean) (v := 0) hx hb hr (nbool (Or.inl rfl)) (fun t ht hW => ⟨⟨0, u57, rfl, ⟨(hR.trans (by simp only [g_X1_addsUp_35, hw41, if_pos c44, hw53, hw57, if_neg c60])), (Or.inl rfl)⟩, by rw [ht]; exact hP, hD⟩, hS.F ht⟩) hS.2.2 dX1_addsUp_68
      · skip
        refine lv_iconst (v := 1) hx hb dX1_addsUp_63 (by decide) ?_
        refine lv_goto (tgt := 68) hx hb dX1_addsUp_64 (by decide) ?_
        rw [hQ]
        exact W.zret (ty := .boolean) (v := 1) hx hb hr (nbool (Or.inr rfl)) (fun t ht hW => ⟨⟨1, u57, rfl, ⟨(hR.trans (by simp only [g_X1_addsUp_35, hw41, if_pos c44, hw53, hw57, if_pos c60])), (Or.inr rfl)⟩, by rw [ht]; exact hP, hD⟩, hS.F ht⟩) hS.2.2 dX1_addsUp_68
  have J34 : ∀ (ls : Array Slot) (H : Heap) (locs : List Loc), lv_has ls 5 [(0, .ref (bd 0)), (1, .int p0), (2, .int p1), (3, .int p2)] → va_S A s.heap H locs → va_P D pCl (mmW cI cJ bd T) H → va_D A (mmW cI cJ bd T) → f_X1_addsUp T p0 p1 p2 = g_X1_addsUp_34 T p0 p1 p2 → W p l e (headSpec wsX1_addsUp ({ frames := 2, cells := 0, slots := 0, locals := 51 } : Room)).room s m ([.ref (bd 0), .int p0, .int p1, .int p2] : List Value).toArray below meth c H locs 0 0 Q (F0 m 34 ls []) := by
    intro ls H locs hl hS hP hD hR
    refine lv_iconst (v := 0) hx hb dX1_addsUp_34 (by decide) ?_
    exact J35 0 ls _ _ (lv_sub hl [0, 1, 2, 3] rfl) hS hP hD (Or.inl rfl) (hR.trans (by simp only [g_X1_addsUp_34]))
  refine lv_if_eq (tgt := 34) hx hb dX1_addsUp_4 (by decide) (fun c4 => ?_) (fun c4 => ?_)
  · skip
    exact J34 ls _ _ (lv_sub hl [0, 1, 2, 3] rfl) hS hP hD (hR.trans (by simp only [f_X1_addsUp, if_pos c4]))
  · skip
    refine lv_iload_n hx hb dX1_addsUp_7 rfl (lv_at hl 2 rfl) ?_
    refine va_calli (va_runS (As := [.int p1]) (rest := []) ⟨hx, hb, hml, hown, hts⟩ (met_X1_isExponent l p1) (va_cwS 1 hts gX1_addsUp_X1_isExponent rfl rfl rfl (by decide +kernel) ⟨Nat.le_of_ble_eq_true rfl, Nat.le_of_ble_eq_true rfl⟩) ⟨fun a U g mk q => q, fun U hU hW => ⟨rfl, trivial⟩⟩ rfl rfl hl.1 rfl (lv_room (Nat.le_of_ble_eq_true rfl)) dX1_addsUp_8 ⟨Nat.le_of_ble_eq_true rfl, Nat.le_of_ble_eq_true rfl⟩) hS (fun q _ h => h.elim) (fun q h => h.elim) (fun r8 u8 t H locs ht hvm hw8 hB hz hk hS => ?_)
    obtain ⟨hw8, bz8⟩ := hw8
    subst hw8
    have hP := hP.kept (fun k q hk9 => hk _ (vx_lt hP hk9) (fun h => h))
    refine lv_if_eq (tgt := 34) hx hb dX1_addsUp_11 (by decide) (fun c11 => ?_) (fun c11 => ?_)
    · skip
      exact J34 ls _ _ (lv_sub hl [0, 1, 2, 3] rfl) hS hP hD (hR.trans (by simp only [f_X1_addsUp, if_neg c4, if_pos c11]))
    · skip
      refine lv_iload_n hx hb dX1_addsUp_14 rfl (lv_at hl 3 rfl) ?_
      refine va_calli (va_runS (As := [.int p2]) (rest := []) ⟨hx, hb, hml, hown, hts⟩ (met_X1_isExponent l p2) (va_cwS 1 hts gX1_addsUp_X1_isExponent rfl rfl rfl (by decide +kernel) ⟨Nat.le_of_ble_eq_true rfl, Nat.le_of_ble_eq_true rfl⟩) ⟨fun a U g mk q => q, fun U hU hW => ⟨rfl, trivial⟩⟩ rfl rfl hl.1 rfl (lv_room (Nat.le_of_ble_eq_true rfl)) dX1_addsUp_15 ⟨Nat.le_of_ble_eq_true rfl, Nat.le_of_ble_eq_true rfl⟩) hS (fun q _ h => h.elim) (fun q h => h.elim) (fun r15 u15 t H locs ht hvm hw15 hB hz hk hS => ?_)
      obtain ⟨hw15, bz15⟩ := hw15
      subst hw15
      have hP := hP.kept (fun k q hk9 => hk _ (vx_lt hP hk9) (fun h => h))
      refine lv_if_eq (tgt := 34) hx hb dX1_addsUp_18 (by decide) (fun c18 => ?_) (fun c18 => ?_)
      · skip
        exact J34 ls _ _ (lv_sub hl [0, 1, 2, 3] rfl) hS hP hD (hR.trans (by simp only [f_X1_addsUp, if_neg c4, if_neg c11, if_pos c18]))
      · skip
        refine lv_iload_n hx hb dX1_addsUp_21 rfl (lv_at hl 2 rfl) ?_
        refine lv_iload_n hx hb dX1_addsUp_22 rfl (lv_at hl 3 rfl) ?_
        refine lv_iadd hx hb dX1_addsUp_23 ?_
        refine va_calli (va_runS (As := [.int (p1 + p2)]) (rest := []) ⟨hx, hb, hml, hown, hts⟩ (met_X1_isExponent l (p1 + p2)) (va_cwS 1 hts gX1_addsUp_X1_isExponent rfl rfl rfl (by decide +kernel) ⟨Nat.le_of_ble_eq_true rfl, Nat.le_of_ble_eq_true rfl⟩) ⟨fun a U g mk q => q, fun U hU hW => ⟨rfl, trivial⟩⟩ rfl rfl hl.1 rfl (lv_room (Nat.le_of_ble_eq_true rfl)) dX1_addsUp_24 ⟨Nat.le_of_ble_eq_true rfl, Nat.le_of_ble_eq_true rfl⟩) hS (fun q _ h => h.elim) (fun q h => h.elim) (fun r24 u24 t H locs ht hvm hw24 hB hz hk hS => ?_)
        obtain ⟨hw24, bz24⟩ := hw24
        subst hw24
        have hP := hP.kept (fun k q hk9 => hk _ (vx_lt hP hk9) (fun h => h))
        refine lv_if_eq (tgt := 34) hx hb dX1_addsUp_27 (by decide) (fun c27 => ?_) (fun c27 => ?_)
        · skip
          exact J34 ls _ _ (lv_sub hl [0, 1, 2, 3] rfl) hS hP hD (hR.trans (by simp only [f_X1_addsUp, if_neg c4, if_neg c11, if_neg c18, if_pos c27]))
        · skip
          refine lv_iconst (v := 1) hx hb dX1_addsUp_30 (by decide) ?_
          refine lv_goto (tgt := 35) hx hb dX1_addsUp_31 (by decide) ?_
          exact J35 1 ls _ _ (lv_sub hl [0, 1, 2, 3] rfl) hS hP hD (Or.inr rfl) (hR.trans (by simp only [f_X1_addsUp, if_neg c4, if_neg c11, if_neg c18, if_neg c27]))

def g_X1_isNested_73 (w73_0 : Int32) (q73_0 : Nat → Int32) (q73_1 : Nat → Int64) (q73_2 : Nat → Int32) (q73_3 : Nat → Int32) (q73_4 : Nat → Int32) (q73_5 : Nat → Int64) (q73_6 : Nat → Int32) (q73_7 : Int32) (q73_8 : Int32) (q73_9 : Int64) (q73_10 : Int32) (q73_11 : Int32) : Int32 × pT := (match f_X1_no (q73_0, q73_1, q73_2, q73_3, q73_4, q73_5, q73_6, q73_7, q73_8, q73_9, q73_10, q73_11) w73_0 2 with | (r74, u74) => (if (r74 : Int32) = 0 then (1, u74) else (0, u74)))
def g_X1_isNested_72 (q72_0 : Nat → Int32) (q72_1 : Nat → Int64) (q72_2 : Nat → Int32) (q72_3 : Nat → Int32) (q72_4 : Nat → Int32) (q72_5 : Nat → Int64) (q72_6 : Nat → Int32) (q72_7 : Int32) (q72_8 : Int32) (q72_9 : Int64) (q72_10 : Int32) (q72_11 : Int32) : Int32 × pT := (g_X1_isNested_73 0 q72_0 q72_1 q72_2 q72_3 q72_4 q72_5 q72_6 q72_7 q72_8 q72_9 q72_10 q72_11)
def g_X1_isNested_35 (T : pT) (p0 : Int32) (p1 : Int32) (p2 : Int32) (w35_0 : Int32) : Int32 × pT := (match f_X1_no T w35_0 1 with | (r41, u41) => (if (r41 : Int32) = 0 then (match f_X1_isTold_ u41 p0 p1 with | (r51, u51) => (if (r51 : Int32) = 0 then (g_X1_isNested_72 (sgT u51) (odT u51) (shT u51) (ksT u51) (kgT u51) (koT u51) (khT u51) (kpT u51) (psT u51) (poT u51) (phT u51) (thT u51)) else (match f_X1_isTold_ u51 p0 (p1 * p2) with | (r62, u62) => (if (r62 : Int32) = 0 then (g_X1_isNested_72 (sgT u62) (odT u62) (shT u62) (ksT u62) (kgT u62) (koT u62) (khT u62) (kpT u62) (psT u62) (poT u62) (phT u62) (thT u62)) else (g_X1_isNested_73 1 (sgT u62) (odT u62) (shT u62) (ksT u62) (kgT u62) (koT u62) (khT u62) (kpT u62) (psT u62) (poT u62) (phT u62) (thT u62)))))) else (0, u41)))
def g_X1_isNested_34 (T : pT) (p0 : Int32) (p1 : Int32) (p2 : Int32) : Int32 × pT := (g_X1_isNested_35 T p0 p1 p2 0)
def f_X1_isNested (T : pT) (p0 : Int32) (p1 : Int32) (p2 : Int32) : Int32 × pT := (if ((f_X1_isBase p0) : Int32) = 0 then (g_X1_isNested_34 T p0 p1 p2) else (if ((f_X1_isExponent p1) : Int32) = 0 then (g_X1_isNested_34 T p0 p1 p2) else (if ((f_X1_isExponent p2) : Int32) = 0 then (g_X1_isNested_34 T p0 p1 p2) else (if ((f_X1_isExponent (p1 * p2)) : Int32) = 0 then (g_X1_isNested_34 T p0 p1 p2) else (g_X1_isNested_35 T p0 p1 p2 1)))))
set_option maxHeartbeats 4000000 in
set_option maxRecDepth 100000 in
theorem met_X1_isNested (l : Launch) (D : va_G) (cI cJ : ClassId) (bd : Nat → Nat) (A : Nat → Prop) (T : pT) (p0 : Int32) (p1 : Int32) (p2 : Int32) : Met l yX1_isNested wsX1_isNested ({ frames := 2, cells := 0, slots := 0, locals := 51 } : Room) (va_Pc [.ref (bd 0), .int p0, .int p1, .int p2] (fun U => b1R D cI cJ bd T U ∧ va_D A (mmW cI cJ bd T))) (va_Qi (fun (r : Int32) (u : pT) => f_X1_isNested T p0 p1 p2 = (r, u) ∧ (r = 0 ∨ r = 1)) (fun (u : pT) t => va_P D pCl (mmW cI cJ bd u) t.heap ∧ va_D A (mmW cI cJ bd u)) A) 0 0 A := by
  refine Met.ofW (cc := cX1_isNested) (maxL := 5) (ret := (some .boolean)) (by decide) rfl ?_
  intro p e s m args below meth c s₁ B hml hv
  obtain ⟨rfl, ⟨hP, hK⟩, hD⟩ := hv
  have hx := B.exec
  have hb := B.bytes
  have hr := B.returns
  have hts := atoms_spec (ws := wsX1_isNested) B.pre
  have hown : s.vm.findClass RX1 = some m.cls := findClass_of_methodNamed B.named
  have hlocks := B.notSynchronized
  have hS : va_S A s.heap s.heap [] := va_S.rf
  have hl := lv_entry ([.ref (bd 0), .int p0, .int p1, .int p2]) (n := 5) (Nat.le_of_ble_eq_true rfl)
  rw [lg_entry_eq]
  generalize (lg_sl ([.ref (bd 0), .int p0, .int p1, .int p2]) ++ List.replicate (5 - (lg_sl ([.ref (bd 0), .int p0, .int p1, .int p2])).length) Slot.unset).toArray = ls at hl ⊢
  have hl : lv_has ls 5 [(0, .ref (bd 0)), (1, .int p0), (2, .int p1), (3, .int p2)] := hl
  obtain ⟨Q, hQ⟩ : ∃ Q : State → Prop, Q = (MQ below (va_Qi (fun (r : Int32) (u : pT) => f_X1_isNested T p0 p1 p2 = (r, u) ∧ (r = 0 ∨ r = 1)) (fun (u : pT) t => va_P D pCl (mmW cI cJ bd u) t.heap ∧ va_D A (mmW cI cJ bd u)) A) ([.ref (bd 0), .int p0, .int p1, .int p2] : List Value).toArray s 0 0 A) := ⟨_, rfl⟩
  rw [← hQ]
  have hR : f_X1_isNested T p0 p1 p2 = f_X1_isNested T p0 p1 p2 := rfl
  refine lv_iload_n hx hb dX1_isNested_0 rfl (lv_at hl 1 rfl) ?_
  refine va_calli (va_runS (As := [.int p0]) (rest := []) ⟨hx, hb, hml, hown, hts⟩ (met_X1_isBase l p0) (va_cwS 1 hts gX1_isNested_X1_isBase rfl rfl rfl (by decide +kernel) ⟨Nat.le_of_ble_eq_true rfl, Nat.le_of_ble_eq_true rfl⟩) ⟨fun a U g mk q => q, fun U hU hW => ⟨rfl, trivial⟩⟩ rfl rfl hl.1 rfl (lv_room (Nat.le_of_ble_eq_true rfl)) dX1_isNested_1 ⟨Nat.le_of_ble_eq_true rfl, Nat.le_of_ble_eq_true rfl⟩) hS (fun q _ h => h.elim) (fun q h => h.elim) (fun r1 u1 t H locs ht hvm hw1 hB hz hk hS => ?_)
  obtain ⟨hw1, bz1⟩ := hw1
  subst hw1
  have hP := hP.kept (fun k q hk9 => hk _ (vx_lt hP hk9) (fun h => h))
  have J35 : ∀ (w35_0 : Int32) (ls : Array Slot) (H : Heap) (locs : List Loc), lv_has ls 5 [(0, .ref (bd 0)), (1, .int p0), (2, .int p1), (3, .int p2)] → va_S A s.heap H locs → va_P D pCl (mmW cI cJ bd T) H → va_D A (mmW cI cJ bd T) → (w35_0 = 0 ∨ w35_0 = 1) → f_X1_isNested T p0 p1 p2 = g_X1_isNested_35 T p0 p1 p2 w35_0 → W p l e (headSpec wsX1_isNested ({ frames := 2, cells := 0, slots := 0, locals := 51 } : Room)).room s m ([.ref (bd 0), .int p0, .int p1, .int p2] : List Value).toArray below meth c H locs 0 0 Q (F0 m 35 ls [.int w35_0]) := by
    intro w35_0 ls H locs hl hS hP hD hb_w35_0 hR
    refine lv_istore (lv' := [(4, .int w35_0), (0, .ref (bd 0)), (1, .int p0), (2, .int p1), (3, .int p2)]) hx hb dX1_isNested_35 hl (by decide) rfl (fun ls hl => ?_)
    refine lv_aload_n hx hb dX1_isNested_37 rfl (lv_at hl 1 rfl) ?_
    refine lv_iload hx hb dX1_isNested_38 (lv_at hl 0 rfl) ?_
    refine lv_iconst (v := 1) hx hb dX1_isNested_40 (by decide) ?_
    refine va_calli (va_runV (As := [.int w35_0, .int 1]) (rest := []) ⟨hx, hb, hml, hown, hts⟩ (met_X1_no l D cI cJ bd A T w35_0 1) (cwV 2 hts gX1_isNested_X1_no rfl rfl rfl (by decide +kernel) ⟨Nat.le_of_ble_eq_true rfl, Nat.le_of_ble_eq_true rfl⟩) ⟨fun a U g mk q => ⟨q.1, b1R_calling q.2.1, q.2.2⟩, va_recv hK hP (ci := 1) (q0 := 0) rfl rfl, fun U hU hW => ⟨rfl, b1R_at hP hK hU hW, hD⟩⟩ rfl rfl hl.1 rfl (lv_room (Nat.le_of_ble_eq_true rfl)) dX1_isNested_41 ⟨Nat.le_of_ble_eq_true rfl, Nat.le_of_ble_eq_true rfl⟩) hS (fun q _ h => h) (fun q h => h) (fun r41 u41 t H locs ht hvm hw41 hB hz hk hS => ?_)
    obtain ⟨hw41, bz41⟩ := hw41
    obtain ⟨hP, hD⟩ := hB
    rw [ht] at hP
    refine lv_if_ne (tgt := 84) hx hb dX1_isNested_44 (by decide) (fun c44 => ?_) (fun c44 => ?_)
    · skip
      refine lv_iconst (v := 0) hx hb dX1_isNested_84 (by decide) ?_
      rw [hQ]
      exact W.zret (ty := .boolean) (v := 0) hx hb hr (nbool (Or.inl rfl)) (fun t ht hW => ⟨⟨0, u41, rfl, ⟨(hR.trans (by simp only [g_X1_isNested_35, hw41, if_neg c44])), (Or.inl rfl)⟩, by rw [ht]; exact hP, hD⟩, hS.F ht⟩) hS.2.2 dX1_isNested_85
    · skip
      refine lv_aload_n hx hb dX1_isNested_47 rfl (lv_at hl 1 rfl) ?_
      refine lv_aload_n hx hb dX1_isNested_48 rfl (lv_at hl 1 rfl) ?_
      refine lv_iload_n hx hb dX1_isNested_49 rfl (lv_at hl 2 rfl) ?_
      refine lv_iload_n hx hb dX1_isNested_50 rfl (lv_at hl 3 rfl) ?_
      refine va_calli (va_runV (As := [.int p0, .int p1]) (rest := [.ref (bd 0)]) ⟨hx, hb, hml, hown, hts⟩ (met_X1_isTold_ l D cI cJ bd A u41 p0 p1) (cwV 2 hts gX1_isNested_X1_isTold_ rfl rfl rfl (by decide +kernel) ⟨Nat.le_of_ble_eq_true rfl, Nat.le_of_ble_eq_true rfl⟩) ⟨fun a U g mk q => ⟨q.1, b1R_calling q.2.1, q.2.2⟩, va_recv hK hP (ci := 1) (q0 := 0) rfl rfl, fun U hU hW => ⟨rfl, b1R_at hP hK hU hW, hD⟩⟩ rfl rfl hl.1 rfl (lv_room (Nat.le_of_ble_eq_true rfl)) dX1_isNested_51 ⟨Nat.le_of_ble_eq_true rfl, Nat.le_of_ble_eq_true rfl⟩) hS (fun q _ h => h) (fun q h => h) (fun r51 u51 t H locs ht hvm hw51 hB hz hk hS => ?_)
      obtain ⟨hw51, bz51⟩ := hw51
      obtain ⟨hP, hD⟩ := hB
      rw [ht] at hP
      have J73 : ∀ (w73_0 : Int32) (q73_0 : Nat → Int32) (q73_1 : Nat → Int64) (q73_2 : Nat → Int32) (q73_3 : Nat → Int32) (q73_4 : Nat → Int32) (q73_5 : Nat → Int64) (q73_6 : Nat → Int32) (q73_7 : Int32) (q73_8 : Int32) (q73_9 : Int64) (q73_10 : Int32) (q73_11 : Int32) (ls : Array Slot) (H : Heap) (locs : List Loc), lv_has ls 5 [(0, .ref (bd 0)), (1, .int p0), (2, .int p1), (3, .int p2), (4, .int w35_0)] → va_S A s.heap H locs → va_P D pCl ([(bd 0, .inr (1, [.ref (bd 1), .ref (bd 2), .ref (bd 3), .ref (bd 4), .ref (bd 5), .ref (bd 6), .ref (bd 7), .int q73_7, .int q73_8, .long q73_9, .int q73_10, .int q73_11])), (bd 1, .inl (cI, 8, .inl q73_0)), (bd 2, .inl (cJ, 8, .inr (.inl q73_1))), (bd 3, .inl (cI, 8, .inl q73_2)), (bd 4, .inl (cI, 8, .inl q73_3)), (bd 5, .inl (cI, 8, .inl q73_4)), (bd 6, .inl (cJ, 8, .inr (.inl q73_5))), (bd 7, .inl (cI, 8, .inl q73_6))]) H → va_D A ([(bd 0, .inr (1, [.ref (bd 1), .ref (bd 2), .ref (bd 3), .ref (bd 4), .ref (bd 5), .ref (bd 6), .ref (bd 7), .int q73_7, .int q73_8, .long q73_9, .int q73_10, .int q73_11])), (bd 1, .inl (cI, 8, .inl q73_0)), (bd 2, .inl (cJ, 8, .inr (.inl q73_1))), (bd 3, .inl (cI, 8, .inl q73_2)), (bd 4, .inl (cI, 8, .inl q73_3)), (bd 5, .inl (cI, 8, .inl q73_4)), (bd 6, .inl (cJ, 8, .inr (.inl q73_5))), (bd 7, .inl (cI, 8, .inl q73_6))]) → (w73_0 = 0 ∨ w73_0 = 1) → f_X1_isNested T p0 p1 p2 = g_X1_isNested_73 w73_0 q73_0 q73_1 q73_2 q73_3 q73_4 q73_5 q73_6 q73_7 q73_8 q73_9 q73_10 q73_11 → W p l e (headSpec wsX1_isNested ({ frames := 2, cells := 0, slots := 0, locals := 51 } : Room)).room s m ([.ref (bd 0), .int p0, .int p1, .int p2] : List Value).toArray below meth c H locs 0 0 Q (F0 m 73 ls [.int w73_0, .ref (bd 0)]) := by
        intro w73_0 q73_0 q73_1 q73_2 q73_3 q73_4 q73_5 q73_6 q73_7 q73_8 q73_9 q73_10 q73_11 ls H locs hl hS hP hD hb_w73_0 hR
        refine lv_iconst (v := 2) hx hb dX1_isNested_73 (by decide) ?_
        refine va_calli (va_runV (As := [.int w73_0, .int 2]) (rest := []) ⟨hx, hb, hml, hown, hts⟩ (met_X1_no l D cI cJ bd A (q73_0, q73_1, q73_2, q73_3, q73_4, q73_5, q73_6, q73_7, q73_8, q73_9, q73_10, q73_11) w73_0 2) (cwV 2 hts gX1_isNested_X1_no rfl rfl rfl (by decide +kernel) ⟨Nat.le_of_ble_eq_true rfl, Nat.le_of_ble_eq_true rfl⟩) ⟨fun a U g mk q => ⟨q.1, b1R_calling q.2.1, q.2.2⟩, va_recv hK hP (ci := 1) (q0 := 0) rfl rfl, fun U hU hW => ⟨rfl, b1R_at hP hK hU hW, hD⟩⟩ rfl rfl hl.1 rfl (lv_room (Nat.le_of_ble_eq_true rfl)) dX1_isNested_74 ⟨Nat.le_of_ble_eq_true rfl, Nat.le_of_ble_eq_true rfl⟩) hS (fun q _ h => h) (fun q h => h) (fun r74 u74 t H locs ht hvm hw74 hB hz hk hS => ?_)
        obtain ⟨hw74, bz74⟩ := hw74
        obtain ⟨hP, hD⟩ := hB
        rw [ht] at hP
        refine lv_if_ne (tgt := 84) hx hb dX1_isNested_77 (by decide) (fun c77 => ?_) (fun c77 => ?_)
        · skip
          refine lv_iconst (v := 0) hx hb dX1_isNested_84 (by decide) ?_
          rw [hQ]
          exact W.zret (ty := .boolean) (v := 0) hx hb hr (nbool (Or.inl rfl)) (fun t ht hW => ⟨⟨0, u74, rfl, ⟨(hR.trans (by simp only [g_X1_isNested_73, hw74, if_neg c77])), (Or.inl rfl)⟩, by rw [ht]; exact hP, hD⟩, hS.F ht⟩) hS.2.2 dX1_isNested_85
        · skip
          refine lv_iconst (v := 1) hx hb dX1_isNested_80 (by decide) ?_
          refine lv_goto (tgt := 85) hx hb dX1_isNested_81 (by decide) ?_
          rw [hQ]
          exact W.zret (ty := .boolean) (v := 1) hx hb hr (nbool (Or.inr rfl)) (fun t ht hW => ⟨⟨1, u74, rfl, ⟨(hR.trans (by simp only [g_X1_isNested_73, hw74, if_pos c77])), (Or.inr rfl)⟩, by rw [ht]; exact hP, hD⟩, hS.F ht⟩) hS.2.2 dX1_isNested_85
      have J72 : ∀ (q72_0 : Nat → Int32) (q72_1 : Nat → Int64) (q72_2 : Nat → Int32) (q72_3 : Nat → Int32) (q72_4 : Nat → Int32) (q72_5 : Nat → Int64) (q72_6 : Nat → Int32) (q72_7 : Int32) (q72_8 : Int32) (q72_9 : Int64) (q72_10 : Int32) (q72_11 : Int32) (ls : Array Slot) (H : Heap) (locs : List Loc), lv_has ls 5 [(0, .ref (bd 0)), (1, .int p0), (2, .int p1), (3, .int p2), (4, .int w35_0)] → va_S A s.heap H locs → va_P D pCl ([(bd 0, .inr (1, [.ref (bd 1), .ref (bd 2), .ref (bd 3), .ref (bd 4), .ref (bd 5), .ref (bd 6), .ref (bd 7), .int q72_7, .int q72_8, .long q72_9, .int q72_10, .int q72_11])), (bd 1, .inl (cI, 8, .inl q72_0)), (bd 2, .inl (cJ, 8, .inr (.inl q72_1))), (bd 3, .inl (cI, 8, .inl q72_2)), (bd 4, .inl (cI, 8, .inl q72_3)), (bd 5, .inl (cI, 8, .inl q72_4)), (bd 6, .inl (cJ, 8, .inr (.inl q72_5))), (bd 7, .inl (cI, 8, .inl q72_6))]) H → va_D A ([(bd 0, .inr (1, [.ref (bd 1), .ref (bd 2), .ref (bd 3), .ref (bd 4), .ref (bd 5), .ref (bd 6), .ref (bd 7), .int q72_7, .int q72_8, .long q72_9, .int q72_10, .int q72_11])), (bd 1, .inl (cI, 8, .inl q72_0)), (bd 2, .inl (cJ, 8, .inr (.inl q72_1))), (bd 3, .inl (cI, 8, .inl q72_2)), (bd 4, .inl (cI, 8, .inl q72_3)), (bd 5, .inl (cI, 8, .inl q72_4)), (bd 6, .inl (cJ, 8, .inr (.inl q72_5))), (bd 7, .inl (cI, 8, .inl q72_6))]) → f_X1_isNested T p0 p1 p2 = g_X1_isNested_72 q72_0 q72_1 q72_2 q72_3 q72_4 q72_5 q72_6 q72_7 q72_8 q72_9 q72_10 q72_11 → W p l e (headSpec wsX1_isNested ({ frames := 2, cells := 0, slots := 0, locals := 51 } : Room)).room s m ([.ref (bd 0), .int p0, .int p1, .int p2] : List Value).toArray below meth c H locs 0 0 Q (F0 m 72 ls [.ref (bd 0)]) := by
        intro q72_0 q72_1 q72_2 q72_3 q72_4 q72_5 q72_6 q72_7 q72_8 q72_9 q72_10 q72_11 ls H locs hl hS hP hD hR
        refine lv_iconst (v := 0) hx hb dX1_isNested_72 (by decide) ?_
        exact J73 0 q72_0 q72_1 q72_2 q72_3 q72_4 q72_5 q72_6 q72_7 q72_8 q72_9 q72_10 q72_11 ls _ _ (lv_sub hl [0, 1, 2, 3, 4] rfl) hS hP hD (Or.inl rfl) (hR.trans (by simp only [g_X1_isNested_72]))
      refine lv_if_eq (tgt := 72) hx hb dX1_isNested_54 (by decide) (fun c54 => ?_) (fun c54 => ?_)
      · skip
        exact J72 (sgT u51) (odT u51) (shT u51) (ksT u51) (kgT u51) (koT u51) (khT u51) (kpT u51) (psT u51) (poT u51) (phT u51) (thT u51) ls _ _ (lv_sub hl [1, 2, 3, 4, 0] rfl) hS hP hD (hR.trans (by simp only [g_X1_isNested_35, hw41, if_pos c44, hw51, if_pos c54]))
      · skip
        refine lv_aload_n hx hb dX1_isNested_57 rfl (lv_at hl 1 rfl) ?_
        refine lv_iload_n hx hb dX1_isNested_58 rfl (lv_at hl 2 rfl) ?_
        refine lv_iload_n hx hb dX1_isNested_59 rfl (lv_at hl 3 rfl) ?_
        refine lv_iload_n hx hb dX1_isNested_60 rfl (lv_at hl 4 rfl) ?_
        refine lv_imul hx hb dX1_isNested_61 ?_
        refine va_calli (va_runV (As := [.int p0, .int (p1 * p2)]) (rest := [.ref (bd 0)]) ⟨hx, hb, hml, hown, hts⟩ (met_X1_isTold_ l D cI cJ bd A u51 p0 (p1 * p2)) (cwV 2 hts gX1_isNested_X1_isTold_ rfl rfl rfl (by decide +kernel) ⟨Nat.le_of_ble_eq_true rfl, Nat.le_of_ble_eq_true rfl⟩) ⟨fun a U g mk q => ⟨q.1, b1R_calling q.2.1, q.2.2⟩, va_recv hK hP (ci := 1) (q0 := 0) rfl rfl, fun U hU hW => ⟨rfl, b1R_at hP hK hU hW, hD⟩⟩ rfl rfl hl.1 rfl (lv_room (Nat.le_of_ble_eq_true rfl)) dX1_isNested_62 ⟨Nat.le_of_ble_eq_true rfl, Nat.le_of_ble_eq_true rfl⟩) hS (fun q _ h => h) (fun q h => h) (fun r62 u62 t H locs ht hvm hw62 hB hz hk hS => ?_)
        obtain ⟨hw62, bz62⟩ := hw62
        obtain ⟨hP, hD⟩ := hB
        rw [ht] at hP
        refine lv_if_eq (tgt := 72) hx hb dX1_isNested_65 (by decide) (fun c65 => ?_) (fun c65 => ?_)
        · skip
          exact J72 (sgT u62) (odT u62) (shT u62) (ksT u62) (kgT u62) (koT u62) (khT u62) (kpT u62) (psT u62) (poT u62) (phT u62) (thT u62) ls _ _ (lv_sub hl [1, 2, 3, 4, 0] rfl) hS hP hD (hR.trans (by simp only [g_X1_isNested_35, hw41, if_pos c44, hw51, if_neg c54, hw62, if_pos c65]))
        · skip
          refine lv_iconst (v := 1) hx hb dX1_isNested_68 (by decide) ?_
          refine lv_goto (tgt := 73) hx hb dX1_isNested_69 (by decide) ?_
          exact J73 1 (sgT u62) (odT u62) (shT u62) (ksT u62) (kgT u62) (koT u62) (khT u62) (kpT u62) (psT u62) (poT u62) (phT u62) (thT u62) ls _ _ (lv_sub hl [1, 2, 3, 4, 0] rfl) hS hP hD (Or.inr rfl) (hR.trans (by simp only [g_X1_isNested_35, hw41, if_pos c44, hw51, if_neg c54, hw62, if_neg c65]))
  have J34 : ∀ (ls : Array Slot) (H : Heap) (locs : List Loc), lv_has ls 5 [(0, .ref (bd 0)), (1, .int p0), (2, .int p1), (3, .int p2)] → va_S A s.heap H locs → va_P D pCl (mmW cI cJ bd T) H → va_D A (mmW cI cJ bd T) → f_X1_isNested T p0 p1 p2 = g_X1_isNested_34 T p0 p1 p2 → W p l e (headSpec wsX1_isNested ({ frames := 2, cells := 0, slots := 0, locals := 51 } : Room)).room s m ([.ref (bd 0), .int p0, .int p1, .int p2] : List Value).toArray below meth c H locs 0 0 Q (F0 m 34 ls []) := by
    intro ls H locs hl hS hP hD hR
    refine lv_iconst (v := 0) hx hb dX1_isNested_34 (by decide) ?_
    exact J35 0 ls _ _ (lv_sub hl [0, 1, 2, 3] rfl) hS hP hD (Or.inl rfl) (hR.trans (by simp only [g_X1_isNested_34]))
  refine lv_if_eq (tgt := 34) hx hb dX1_isNested_4 (by decide) (fun c4 => ?_) (fun c4 => ?_)
  · skip
    exact J34 ls _ _ (lv_sub hl [0, 1, 2, 3] rfl) hS hP hD (hR.trans (by simp only [f_X1_isNested, if_pos c4]))
  · skip
    refine lv_iload_n hx hb dX1_isNested_7 rfl (lv_at hl 2 rfl) ?_
    refine va_calli (va_runS (As := [.int p1]) (rest := []) ⟨hx, hb, hml, hown, hts⟩ (met_X1_isExponent l p1) (va_cwS 1 hts gX1_isNested_X1_isExponent rfl rfl rfl (by decide +kernel) ⟨Nat.le_of_ble_eq_true rfl, Nat.le_of_ble_eq_true rfl⟩) ⟨fun a U g mk q => q, fun U hU hW => ⟨rfl, trivial⟩⟩ rfl rfl hl.1 rfl (lv_room (Nat.le_of_ble_eq_true rfl)) dX1_isNested_8 ⟨Nat.le_of_ble_eq_true rfl, Nat.le_of_ble_eq_true rfl⟩) hS (fun q _ h => h.elim) (fun q h => h.elim) (fun r8 u8 t H locs ht hvm hw8 hB hz hk hS => ?_)
    obtain ⟨hw8, bz8⟩ := hw8
    subst hw8
    have hP := hP.kept (fun k q hk9 => hk _ (vx_lt hP hk9) (fun h => h))
    refine lv_if_eq (tgt := 34) hx hb dX1_isNested_11 (by decide) (fun c11 => ?_) (fun c11 => ?_)
    · skip
      exact J34 ls _ _ (lv_sub hl [0, 1, 2, 3] rfl) hS hP hD (hR.trans (by simp only [f_X1_isNested, if_neg c4, if_pos c11]))
    · skip
      refine lv_iload_n hx hb dX1_isNested_14 rfl (lv_at hl 3 rfl) ?_
      refine va_calli (va_runS (As := [.int p2]) (rest := []) ⟨hx, hb, hml, hown, hts⟩ (met_X1_isExponent l p2) (va_cwS 1 hts gX1_isNested_X1_isExponent rfl rfl rfl (by decide +kernel) ⟨Nat.le_of_ble_eq_true rfl, Nat.le_of_ble_eq_true rfl⟩) ⟨fun a U g mk q => q, fun U hU hW => ⟨rfl, trivial⟩⟩ rfl rfl hl.1 rfl (lv_room (Nat.le_of_ble_eq_true rfl)) dX1_isNested_15 ⟨Nat.le_of_ble_eq_true rfl, Nat.le_of_ble_eq_true rfl⟩) hS (fun q _ h => h.elim) (fun q h => h.elim) (fun r15 u15 t H locs ht hvm hw15 hB hz hk hS => ?_)
      obtain ⟨hw15, bz15⟩ := hw15
      subst hw15
      have hP := hP.kept (fun k q hk9 => hk _ (vx_lt hP hk9) (fun h => h))
      refine lv_if_eq (tgt := 34) hx hb dX1_isNested_18 (by decide) (fun c18 => ?_) (fun c18 => ?_)
      · skip
        exact J34 ls _ _ (lv_sub hl [0, 1, 2, 3] rfl) hS hP hD (hR.trans (by simp only [f_X1_isNested, if_neg c4, if_neg c11, if_pos c18]))
      · skip
        refine lv_iload_n hx hb dX1_isNested_21 rfl (lv_at hl 2 rfl) ?_
        refine lv_iload_n hx hb dX1_isNested_22 rfl (lv_at hl 3 rfl) ?_
        refine lv_imul hx hb dX1_isNested_23 ?_
        refine va_calli (va_runS (As := [.int (p1 * p2)]) (rest := []) ⟨hx, hb, hml, hown, hts⟩ (met_X1_isExponent l (p1 * p2)) (va_cwS 1 hts gX1_isNested_X1_isExponent rfl rfl rfl (by decide +kernel) ⟨Nat.le_of_ble_eq_true rfl, Nat.le_of_ble_eq_true rfl⟩) ⟨fun a U g mk q => q, fun U hU hW => ⟨rfl, trivial⟩⟩ rfl rfl hl.1 rfl (lv_room (Nat.le_of_ble_eq_true rfl)) dX1_isNested_24 ⟨Nat.le_of_ble_eq_true rfl, Nat.le_of_ble_eq_true rfl⟩) hS (fun q _ h => h.elim) (fun q h => h.elim) (fun r24 u24 t H locs ht hvm hw24 hB hz hk hS => ?_)
        obtain ⟨hw24, bz24⟩ := hw24
        subst hw24
        have hP := hP.kept (fun k q hk9 => hk _ (vx_lt hP hk9) (fun h => h))
        refine lv_if_eq (tgt := 34) hx hb dX1_isNested_27 (by decide) (fun c27 => ?_) (fun c27 => ?_)
        · skip
          exact J34 ls _ _ (lv_sub hl [0, 1, 2, 3] rfl) hS hP hD (hR.trans (by simp only [f_X1_isNested, if_neg c4, if_neg c11, if_neg c18, if_pos c27]))
        · skip
          refine lv_iconst (v := 1) hx hb dX1_isNested_30 (by decide) ?_
          refine lv_goto (tgt := 35) hx hb dX1_isNested_31 (by decide) ?_
          exact J35 1 ls _ _ (lv_sub hl [0, 1, 2, 3] rfl) hS hP hD (Or.inr rfl) (hR.trans (by simp only [f_X1_isNested, if_neg c4, if_neg c11, if_neg c18, if_neg c27]))

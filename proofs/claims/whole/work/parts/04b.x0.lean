def g_X0_countDigits_8 (p0 : Int32) : Nat → Int32 → Int64 → Int32
  | 0, _, _ => 0
  | n + 1, v8_3, v8_4 => (if (53 : Int32) ≤ v8_3 then v8_3 else (if (v8_4 : Int64) ≤ 0 then v8_3 else (g_X0_countDigits_8 p0 n (v8_3 + 1) (v8_4 / ((p0 : Int32).toInt64)))))
def f_X0_countDigits (p0 : Int32) (p1 : Int64) : Int32 := (g_X0_countDigits_8 p0 (((53 : Int32).toInt - (1 : Int32).toInt).toNat + 1) 1 (p1 / ((p0 : Int32).toInt64)))
set_option maxHeartbeats 4000000 in
set_option maxRecDepth 100000 in
theorem met_X0_countDigits (l : Launch) (p0 : Int32) (p1 : Int64) (z0 : ¬ ((p0 : Int32).toInt64) = 0) : Met l yX0_countDigits wsX0_countDigits ({ frames := 0, cells := 0, slots := 0, locals := 0 } : Room) (va_Pc [.int p0, .long p1] (fun U => True)) (va_Qi (fun (r : Int32) (u : Unit) => f_X0_countDigits p0 p1 = r) (fun _ _ => True) (fun _ => False)) 0 0 (fun _ => False) := by
  refine Met.ofW (cc := cX0_countDigits) (maxL := 6) (ret := (some .int)) (by decide) rfl ?_
  intro p e s m args below meth c s₁ B hml hv
  obtain ⟨rfl, -⟩ := hv
  have hx := B.exec
  have hb := B.bytes
  have hr := B.returns
  have hts := atoms_spec (ws := wsX0_countDigits) B.pre
  have hown : s.vm.findClass RX0 = some m.cls := findClass_of_methodNamed B.named
  have hlocks := B.notSynchronized
  have hS : va_S (fun _ => False) s.heap s.heap [] := va_S.rf
  have hl := lv_entry ([.int p0, .long p1]) (n := 6) (Nat.le_of_ble_eq_true rfl)
  rw [lg_entry_eq]
  generalize (lg_sl ([.int p0, .long p1]) ++ List.replicate (6 - (lg_sl ([.int p0, .long p1])).length) Slot.unset).toArray = ls at hl ⊢
  have hl : lv_has ls 6 [(0, .int p0), (1, .long p1)] := hl
  obtain ⟨Q, hQ⟩ : ∃ Q : State → Prop, Q = (MQ below (va_Qi (fun (r : Int32) (u : Unit) => f_X0_countDigits p0 p1 = r) (fun _ _ => True) (fun _ => False)) ([.int p0, .long p1] : List Value).toArray s 0 0 (fun _ => False)) := ⟨_, rfl⟩
  rw [← hQ]
  have hR : f_X0_countDigits p0 p1 = f_X0_countDigits p0 p1 := rfl
  refine lv_iconst (v := 1) hx hb dX0_countDigits_0 (by decide) ?_
  refine lv_istore_n (lv' := [(3, .int 1), (0, .int p0), (1, .long p1)]) hx hb dX0_countDigits_1 rfl hl (by decide) rfl (fun ls hl => ?_)
  refine lv_lload_n hx hb dX0_countDigits_2 rfl (lv_at hl 2 rfl) ?_
  refine lv_iload_n hx hb dX0_countDigits_3 rfl (lv_at hl 1 rfl) ?_
  refine lv_i2l hx hb dX0_countDigits_4 rfl ?_
  refine lv_ldiv hx hb dX0_countDigits_5 (z0) ?_
  refine lv_lstore (lv' := [(4, .long (p1 / ((p0 : Int32).toInt64))), (3, .int 1), (0, .int p0), (1, .long p1)]) hx hb dX0_countDigits_6 hl (by decide) rfl (fun ls hl => ?_)
  have J8 : ∀ (n8 : Nat) (v8_3 : Int32) (v8_4 : Int64) (ls : Array Slot) (H : Heap) (locs : List Loc), lv_has ls 6 [(0, .int p0), (1, .long p1), (3, .int v8_3), (4, .long v8_4)] → va_S (fun _ => False) s.heap H locs → f_X0_countDigits p0 p1 = g_X0_countDigits_8 p0 n8 v8_3 v8_4 → ((53 : Int32).toInt - v8_3.toInt).toNat < n8 → W p l e (headSpec wsX0_countDigits ({ frames := 0, cells := 0, slots := 0, locals := 0 } : Room)).room s m ([.int p0, .long p1] : List Value).toArray below meth c H locs 0 0 Q (F0 m 8 ls []) := by
    intro n8
    induction n8 with
    | zero => intro v8_3 v8_4 ls H locs hl hS hR hmu8; exact absurd hmu8 (Nat.not_lt_zero _)
    | succ n8 ih8 =>
      intro v8_3 v8_4 ls H locs hl hS hR hmu8
      refine lv_iload_n hx hb dX0_countDigits_8 rfl (lv_at hl 2 rfl) ?_
      refine lv_bipush (v := 53) hx hb dX0_countDigits_9 (by decide) ?_
      refine lv_icmp_ge (tgt := 34) hx hb dX0_countDigits_11 (by decide) (fun c11 => ?_) (fun c11 => ?_)
      · skip
        refine lv_iload_n hx hb dX0_countDigits_34 rfl (lv_at hl 2 rfl) ?_
        rw [hQ]
        exact W.iret (v := v8_3) hx hb hr (fun t ht hW => ⟨⟨v8_3, (), rfl, (hR.trans (by simp only [g_X0_countDigits_8, if_pos c11])), trivial⟩, hS.F ht⟩) hS.2.2 dX0_countDigits_35
      · skip
        refine lv_lload hx hb dX0_countDigits_14 (lv_at hl 3 rfl) ?_
        refine lv_lconst (v := 0) hx hb dX0_countDigits_16 rfl ?_
        refine W.lcmp hx hb dX0_countDigits_17 ?_
        refine lv_if_le (tgt := 34) hx hb dX0_countDigits_18 (by decide) (fun c17 => ?_) (fun c17 => ?_)
        · skip
          have c17 : (v8_4 : Int64) ≤ 0 := (lg_cmp_le _ _).mp c17
          refine lv_iload_n hx hb dX0_countDigits_34 rfl (lv_at hl 2 rfl) ?_
          rw [hQ]
          exact W.iret (v := v8_3) hx hb hr (fun t ht hW => ⟨⟨v8_3, (), rfl, (hR.trans (by simp only [g_X0_countDigits_8, if_neg c11, if_pos c17])), trivial⟩, hS.F ht⟩) hS.2.2 dX0_countDigits_35
        · skip
          have c17 : ¬ ((v8_4 : Int64) ≤ 0) := fun h => c17 ((lg_cmp_le _ _).mpr h)
          refine lv_lload hx hb dX0_countDigits_21 (lv_at hl 3 rfl) ?_
          refine lv_iload_n hx hb dX0_countDigits_23 rfl (lv_at hl 0 rfl) ?_
          refine lv_i2l hx hb dX0_countDigits_24 rfl ?_
          refine lv_ldiv hx hb dX0_countDigits_25 (z0) ?_
          refine lv_lstore (lv' := [(4, .long (v8_4 / ((p0 : Int32).toInt64))), (0, .int p0), (1, .long p1), (3, .int v8_3)]) hx hb dX0_countDigits_26 hl (by decide) rfl (fun ls hl => ?_)
          refine lv_iinc (v := (v8_3 + 1)) (lv' := [(3, .int (v8_3 + 1)), (4, .long (v8_4 / ((p0 : Int32).toInt64))), (0, .int p0), (1, .long p1)]) hx hb dX0_countDigits_28 hl (k := 3) rfl (by rfl) (by decide) rfl (fun ls hl => ?_)
          refine lv_goto (tgt := 8) hx hb dX0_countDigits_31 (by decide) ?_
          exact ih8 (v8_3 + 1) (v8_4 / ((p0 : Int32).toInt64)) ls _ _ (lv_sub hl [2, 3, 0, 1] rfl) hS (hR.trans (by simp only [g_X0_countDigits_8, if_neg c11, if_neg c17])) (mu_up c11 hmu8)
  exact J8 (((53 : Int32).toInt - (1 : Int32).toInt).toNat + 1) 1 (p1 / ((p0 : Int32).toInt64)) ls _ _ (lv_sub hl [2, 3, 1, 0] rfl) hS (hR.trans (by simp only [f_X0_countDigits])) (Nat.lt_succ_self _)

def g_X0_powerUpTo_31 (rec6 : Int64 → Int32 → Int64) (p0 : Int64) (v6_5 : Int64) (v6_7 : Int32) : Int64 := (rec6 (v6_5 * p0) (v6_7 + 1))
def g_X0_powerUpTo_6 (p0 : Int64) (p1 : Int32) (p2 : Int64) : Nat → Int64 → Int32 → Int64
  | 0, _, _ => 0
  | n + 1, v6_5, v6_7 => (if (p1 : Int32) ≤ v6_7 then v6_5 else (if (p0 : Int64) ≤ 0 then (g_X0_powerUpTo_31 (fun a0 a1 => g_X0_powerUpTo_6 p0 p1 p2 n a0 a1) p0 v6_5 v6_7) else (if (v6_5 : Int64) ≤ (p2 / p0) then (g_X0_powerUpTo_31 (fun a0 a1 => g_X0_powerUpTo_6 p0 p1 p2 n a0 a1) p0 v6_5 v6_7) else (-1))))
def f_X0_powerUpTo (p0 : Int64) (p1 : Int32) (p2 : Int64) : Int64 := (g_X0_powerUpTo_6 p0 p1 p2 (((p1 : Int32).toInt - (0 : Int32).toInt).toNat + 1) 1 0)
set_option maxHeartbeats 4000000 in
set_option maxRecDepth 100000 in
theorem met_X0_powerUpTo (l : Launch) (p0 : Int64) (p1 : Int32) (p2 : Int64) : Met l yX0_powerUpTo wsX0_powerUpTo ({ frames := 0, cells := 0, slots := 0, locals := 0 } : Room) (va_Pc [.long p0, .int p1, .long p2] (fun U => True)) (va_Ql (fun (r : Int64) (u : Unit) => f_X0_powerUpTo p0 p1 p2 = r) (fun _ _ => True) (fun _ => False)) 0 0 (fun _ => False) := by
  refine Met.ofW (cc := cX0_powerUpTo) (maxL := 8) (ret := (some .long)) (by decide) rfl ?_
  intro p e s m args below meth c s₁ B hml hv
  obtain ⟨rfl, -⟩ := hv
  have hx := B.exec
  have hb := B.bytes
  have hr := B.returns
  have hts := atoms_spec (ws := wsX0_powerUpTo) B.pre
  have hown : s.vm.findClass RX0 = some m.cls := findClass_of_methodNamed B.named
  have hlocks := B.notSynchronized
  have hS : va_S (fun _ => False) s.heap s.heap [] := va_S.rf
  have hl := lv_entry ([.long p0, .int p1, .long p2]) (n := 8) (Nat.le_of_ble_eq_true rfl)
  rw [lg_entry_eq]
  generalize (lg_sl ([.long p0, .int p1, .long p2]) ++ List.replicate (8 - (lg_sl ([.long p0, .int p1, .long p2])).length) Slot.unset).toArray = ls at hl ⊢
  have hl : lv_has ls 8 [(0, .long p0), (2, .int p1), (3, .long p2)] := hl
  obtain ⟨Q, hQ⟩ : ∃ Q : State → Prop, Q = (MQ below (va_Ql (fun (r : Int64) (u : Unit) => f_X0_powerUpTo p0 p1 p2 = r) (fun _ _ => True) (fun _ => False)) ([.long p0, .int p1, .long p2] : List Value).toArray s 0 0 (fun _ => False)) := ⟨_, rfl⟩
  rw [← hQ]
  have hR : f_X0_powerUpTo p0 p1 p2 = f_X0_powerUpTo p0 p1 p2 := rfl
  refine lv_lconst (v := 1) hx hb dX0_powerUpTo_0 rfl ?_
  refine lv_lstore (lv' := [(5, .long 1), (0, .long p0), (2, .int p1), (3, .long p2)]) hx hb dX0_powerUpTo_1 hl (by decide) rfl (fun ls hl => ?_)
  refine lv_iconst (v := 0) hx hb dX0_powerUpTo_3 (by decide) ?_
  refine lv_istore (lv' := [(7, .int 0), (5, .long 1), (0, .long p0), (2, .int p1), (3, .long p2)]) hx hb dX0_powerUpTo_4 hl (by decide) rfl (fun ls hl => ?_)
  have J6 : ∀ (n6 : Nat) (v6_5 : Int64) (v6_7 : Int32) (ls : Array Slot) (H : Heap) (locs : List Loc), lv_has ls 8 [(0, .long p0), (2, .int p1), (3, .long p2), (5, .long v6_5), (7, .int v6_7)] → va_S (fun _ => False) s.heap H locs → f_X0_powerUpTo p0 p1 p2 = g_X0_powerUpTo_6 p0 p1 p2 n6 v6_5 v6_7 → ((p1 : Int32).toInt - v6_7.toInt).toNat < n6 → W p l e (headSpec wsX0_powerUpTo ({ frames := 0, cells := 0, slots := 0, locals := 0 } : Room)).room s m ([.long p0, .int p1, .long p2] : List Value).toArray below meth c H locs 0 0 Q (F0 m 6 ls []) := by
    intro n6
    induction n6 with
    | zero => intro v6_5 v6_7 ls H locs hl hS hR hmu6; exact absurd hmu6 (Nat.not_lt_zero _)
    | succ n6 ih6 =>
      intro v6_5 v6_7 ls H locs hl hS hR hmu6
      refine lv_iload hx hb dX0_powerUpTo_6 (lv_at hl 4 rfl) ?_
      refine lv_iload_n hx hb dX0_powerUpTo_8 rfl (lv_at hl 1 rfl) ?_
      refine lv_icmp_ge (tgt := 43) hx hb dX0_powerUpTo_9 (by decide) (fun c9 => ?_) (fun c9 => ?_)
      · skip
        refine lv_lload hx hb dX0_powerUpTo_43 (lv_at hl 3 rfl) ?_
        rw [hQ]
        exact W.lret (v := v6_5) hx hb hr (fun t ht hW => ⟨⟨v6_5, (), rfl, (hR.trans (by simp only [g_X0_powerUpTo_6, if_pos c9])), trivial⟩, hS.F ht⟩) hS.2.2 dX0_powerUpTo_45
      · skip
        refine lv_lload_n hx hb dX0_powerUpTo_12 rfl (lv_at hl 0 rfl) ?_
        refine lv_lconst (v := 0) hx hb dX0_powerUpTo_13 rfl ?_
        have J31 : ∀ (ls : Array Slot) (H : Heap) (locs : List Loc), lv_has ls 8 [(0, .long p0), (2, .int p1), (3, .long p2), (5, .long v6_5), (7, .int v6_7)] → va_S (fun _ => False) s.heap H locs → f_X0_powerUpTo p0 p1 p2 = g_X0_powerUpTo_31 (fun a0 a1 => g_X0_powerUpTo_6 p0 p1 p2 n6 a0 a1) p0 v6_5 v6_7 → W p l e (headSpec wsX0_powerUpTo ({ frames := 0, cells := 0, slots := 0, locals := 0 } : Room)).room s m ([.long p0, .int p1, .long p2] : List Value).toArray below meth c H locs 0 0 Q (F0 m 31 ls []) := by
          intro ls H locs hl hS hR
          refine lv_lload hx hb dX0_powerUpTo_31 (lv_at hl 3 rfl) ?_
          refine lv_lload_n hx hb dX0_powerUpTo_33 rfl (lv_at hl 0 rfl) ?_
          refine lv_lmul hx hb dX0_powerUpTo_34 ?_
          refine lv_lstore (lv' := [(5, .long (v6_5 * p0)), (0, .long p0), (2, .int p1), (3, .long p2), (7, .int v6_7)]) hx hb dX0_powerUpTo_35 hl (by decide) rfl (fun ls hl => ?_)
          refine lv_iinc (v := (v6_7 + 1)) (lv' := [(7, .int (v6_7 + 1)), (5, .long (v6_5 * p0)), (0, .long p0), (2, .int p1), (3, .long p2)]) hx hb dX0_powerUpTo_37 hl (k := 4) rfl (by rfl) (by decide) rfl (fun ls hl => ?_)
          refine lv_goto (tgt := 6) hx hb dX0_powerUpTo_40 (by decide) ?_
          exact ih6 (v6_5 * p0) (v6_7 + 1) ls _ _ (lv_sub hl [2, 3, 4, 1, 0] rfl) hS (hR.trans (by simp only [g_X0_powerUpTo_31])) (mu_up c9 hmu6)
        refine W.lcmp hx hb dX0_powerUpTo_14 ?_
        refine lv_if_le (tgt := 31) hx hb dX0_powerUpTo_15 (by decide) (fun c14 => ?_) (fun c14 => ?_)
        · skip
          have c14 : (p0 : Int64) ≤ 0 := (lg_cmp_le _ _).mp c14
          exact J31 ls _ _ (lv_sub hl [0, 1, 2, 3, 4] rfl) hS (hR.trans (by simp only [g_X0_powerUpTo_6, if_neg c9, if_pos c14]))
        · skip
          have c14 : ¬ ((p0 : Int64) ≤ 0) := fun h => c14 ((lg_cmp_le _ _).mpr h)
          refine lv_lload hx hb dX0_powerUpTo_18 (lv_at hl 3 rfl) ?_
          refine lv_lload_n hx hb dX0_powerUpTo_20 rfl (lv_at hl 2 rfl) ?_
          refine lv_lload_n hx hb dX0_powerUpTo_21 rfl (lv_at hl 0 rfl) ?_
          refine lv_ldiv hx hb dX0_powerUpTo_22 (nz_pos c14) ?_
          refine W.lcmp hx hb dX0_powerUpTo_23 ?_
          refine lv_if_le (tgt := 31) hx hb dX0_powerUpTo_24 (by decide) (fun c23 => ?_) (fun c23 => ?_)
          · skip
            have c23 : (v6_5 : Int64) ≤ (p2 / p0) := (lg_cmp_le _ _).mp c23
            exact J31 ls _ _ (lv_sub hl [0, 1, 2, 3, 4] rfl) hS (hR.trans (by simp only [g_X0_powerUpTo_6, if_neg c9, if_neg c14, if_pos c23]))
          · skip
            have c23 : ¬ ((v6_5 : Int64) ≤ (p2 / p0)) := fun h => c23 ((lg_cmp_le _ _).mpr h)
            refine lv_ldc2 (v := (-1)) hx hb hown (hts (.constantLong RX0 138 (-1)) (by decide +kernel)) dX0_powerUpTo_27 ?_
            rw [hQ]
            exact W.lret (v := (-1)) hx hb hr (fun t ht hW => ⟨⟨(-1), (), rfl, (hR.trans (by simp only [g_X0_powerUpTo_6, if_neg c9, if_neg c14, if_neg c23])), trivial⟩, hS.F ht⟩) hS.2.2 dX0_powerUpTo_30
  exact J6 (((p1 : Int32).toInt - (0 : Int32).toInt).toNat + 1) 1 0 ls _ _ (lv_sub hl [2, 3, 4, 1, 0] rfl) hS (hR.trans (by simp only [f_X0_powerUpTo])) (Nat.lt_succ_self _)

def f_X0_powerSign (p0 : Int32) (p1 : Int32) : Int32 := (if (p1 : Int32) = 0 then 1 else (if ((p1 &&& 1) : Int32) = 0 then (p0 * p0) else p0))
set_option maxHeartbeats 4000000 in
set_option maxRecDepth 100000 in
theorem met_X0_powerSign (l : Launch) (p0 : Int32) (p1 : Int32) : Met l yX0_powerSign wsX0_powerSign ({ frames := 0, cells := 0, slots := 0, locals := 0 } : Room) (va_Pc [.int p0, .int p1] (fun U => True)) (va_Qi (fun (r : Int32) (u : Unit) => f_X0_powerSign p0 p1 = r) (fun _ _ => True) (fun _ => False)) 0 0 (fun _ => False) := by
  refine Met.ofW (cc := cX0_powerSign) (maxL := 2) (ret := (some .int)) (by decide) rfl ?_
  intro p e s m args below meth c s₁ B hml hv
  obtain ⟨rfl, -⟩ := hv
  have hx := B.exec
  have hb := B.bytes
  have hr := B.returns
  have hts := atoms_spec (ws := wsX0_powerSign) B.pre
  have hown : s.vm.findClass RX0 = some m.cls := findClass_of_methodNamed B.named
  have hlocks := B.notSynchronized
  have hS : va_S (fun _ => False) s.heap s.heap [] := va_S.rf
  have hl := lv_entry ([.int p0, .int p1]) (n := 2) (Nat.le_of_ble_eq_true rfl)
  rw [lg_entry_eq]
  generalize (lg_sl ([.int p0, .int p1]) ++ List.replicate (2 - (lg_sl ([.int p0, .int p1])).length) Slot.unset).toArray = ls at hl ⊢
  have hl : lv_has ls 2 [(0, .int p0), (1, .int p1)] := hl
  obtain ⟨Q, hQ⟩ : ∃ Q : State → Prop, Q = (MQ below (va_Qi (fun (r : Int32) (u : Unit) => f_X0_powerSign p0 p1 = r) (fun _ _ => True) (fun _ => False)) ([.int p0, .int p1] : List Value).toArray s 0 0 (fun _ => False)) := ⟨_, rfl⟩
  rw [← hQ]
  have hR : f_X0_powerSign p0 p1 = f_X0_powerSign p0 p1 := rfl
  refine lv_iload_n hx hb dX0_powerSign_0 rfl (lv_at hl 1 rfl) ?_
  refine lv_if_ne (tgt := 6) hx hb dX0_powerSign_1 (by decide) (fun c1 => ?_) (fun c1 => ?_)
  · skip
    refine lv_iload_n hx hb dX0_powerSign_6 rfl (lv_at hl 1 rfl) ?_
    refine lv_iconst (v := 1) hx hb dX0_powerSign_7 (by decide) ?_
    refine lv_iand hx hb dX0_powerSign_8 ?_
    refine lv_if_ne (tgt := 18) hx hb dX0_powerSign_9 (by decide) (fun c9 => ?_) (fun c9 => ?_)
    · skip
      refine lv_iload_n hx hb dX0_powerSign_18 rfl (lv_at hl 0 rfl) ?_
      rw [hQ]
      exact W.iret (v := p0) hx hb hr (fun t ht hW => ⟨⟨p0, (), rfl, (hR.trans (by simp only [f_X0_powerSign, if_neg c1, if_neg c9])), trivial⟩, hS.F ht⟩) hS.2.2 dX0_powerSign_19
    · skip
      refine lv_iload_n hx hb dX0_powerSign_12 rfl (lv_at hl 0 rfl) ?_
      refine lv_iload_n hx hb dX0_powerSign_13 rfl (lv_at hl 0 rfl) ?_
      refine lv_imul hx hb dX0_powerSign_14 ?_
      refine lv_goto (tgt := 19) hx hb dX0_powerSign_15 (by decide) ?_
      rw [hQ]
      exact W.iret (v := (p0 * p0)) hx hb hr (fun t ht hW => ⟨⟨(p0 * p0), (), rfl, (hR.trans (by simp only [f_X0_powerSign, if_neg c1, if_pos c9])), trivial⟩, hS.F ht⟩) hS.2.2 dX0_powerSign_19
  · skip
    refine lv_iconst (v := 1) hx hb dX0_powerSign_4 (by decide) ?_
    rw [hQ]
    exact W.iret (v := 1) hx hb hr (fun t ht hW => ⟨⟨1, (), rfl, (hR.trans (by simp only [f_X0_powerSign, if_pos c1])), trivial⟩, hS.F ht⟩) hS.2.2 dX0_powerSign_5

def f_X0_powerOdd (p0 : Int64) (p1 : Int32) : Int64 := (f_X0_powerUpTo p0 p1 9007199254740991)
set_option maxHeartbeats 4000000 in
set_option maxRecDepth 100000 in
theorem met_X0_powerOdd (l : Launch) (p0 : Int64) (p1 : Int32) : Met l yX0_powerOdd wsX0_powerOdd ({ frames := 1, cells := 0, slots := 0, locals := 27 } : Room) (va_Pc [.long p0, .int p1] (fun U => True)) (va_Ql (fun (r : Int64) (u : Unit) => f_X0_powerOdd p0 p1 = r) (fun _ _ => True) (fun _ => False)) 0 0 (fun _ => False) := by
  refine Met.ofW (cc := cX0_powerOdd) (maxL := 3) (ret := (some .long)) (by decide) rfl ?_
  intro p e s m args below meth c s₁ B hml hv
  obtain ⟨rfl, -⟩ := hv
  have hx := B.exec
  have hb := B.bytes
  have hr := B.returns
  have hts := atoms_spec (ws := wsX0_powerOdd) B.pre
  have hown : s.vm.findClass RX0 = some m.cls := findClass_of_methodNamed B.named
  have hlocks := B.notSynchronized
  have hS : va_S (fun _ => False) s.heap s.heap [] := va_S.rf
  have hl := lv_entry ([.long p0, .int p1]) (n := 3) (Nat.le_of_ble_eq_true rfl)
  rw [lg_entry_eq]
  generalize (lg_sl ([.long p0, .int p1]) ++ List.replicate (3 - (lg_sl ([.long p0, .int p1])).length) Slot.unset).toArray = ls at hl ⊢
  have hl : lv_has ls 3 [(0, .long p0), (2, .int p1)] := hl
  obtain ⟨Q, hQ⟩ : ∃ Q : State → Prop, Q = (MQ below (va_Ql (fun (r : Int64) (u : Unit) => f_X0_powerOdd p0 p1 = r) (fun _ _ => True) (fun _ => False)) ([.long p0, .int p1] : List Value).toArray s 0 0 (fun _ => False)) := ⟨_, rfl⟩
  rw [← hQ]
  have hR : f_X0_powerOdd p0 p1 = f_X0_powerOdd p0 p1 := rfl
  refine lv_lload_n hx hb dX0_powerOdd_0 rfl (lv_at hl 0 rfl) ?_
  refine lv_iload_n hx hb dX0_powerOdd_1 rfl (lv_at hl 1 rfl) ?_
  refine lv_ldc2 (v := 9007199254740991) hx hb hown (hts (.constantLong RX0 204 9007199254740991) (by decide +kernel)) dX0_powerOdd_2 ?_
  refine va_calll (va_runS (As := [.long p0, .int p1, .long 9007199254740991]) (rest := []) ⟨hx, hb, hml, hown, hts⟩ (met_X0_powerUpTo l p0 p1 9007199254740991) (va_cwS 3 hts gX0_powerOdd_X0_powerUpTo rfl rfl rfl (by decide +kernel) ⟨Nat.le_of_ble_eq_true rfl, Nat.le_of_ble_eq_true rfl⟩) ⟨fun a U g mk q => q, fun U hU hW => ⟨rfl, trivial⟩⟩ rfl rfl hl.1 rfl (lv_room (Nat.le_of_ble_eq_true rfl)) dX0_powerOdd_5 ⟨Nat.le_of_ble_eq_true rfl, Nat.le_of_ble_eq_true rfl⟩) hS (fun q _ h => h.elim) (fun q h => h.elim) (fun r5 u5 t H locs ht hvm hw5 hB hz hk hS => ?_)
  subst hw5
  rw [hQ]
  exact W.lret (v := (f_X0_powerUpTo p0 p1 9007199254740991)) hx hb hr (fun t ht hW => ⟨⟨(f_X0_powerUpTo p0 p1 9007199254740991), (), rfl, (hR.trans (by simp only [f_X0_powerOdd])), trivial⟩, hS.F ht⟩) hS.2.2 dX0_powerOdd_8

def g_X0_isTold_15 (p0 : Int64) (p1 : Int32) (p2 : Int32) : Int32 := (if ((f_X0_powerOdd p0 p2) : Int64) = (-1) then 0 else (if ((p1 * p2) : Int32) < (-1000) then 0 else (if (1000 : Int32) < (p1 * p2) then 0 else 1)))
def f_X0_isTold (p0 : Int64) (p1 : Int32) (p2 : Int32) : Int32 := (if (0 : Int32) ≤ p2 then (g_X0_isTold_15 p0 p1 p2) else (if (p0 : Int64) = 1 then (g_X0_isTold_15 p0 p1 p2) else 0))
set_option maxHeartbeats 4000000 in
set_option maxRecDepth 100000 in
theorem met_X0_isTold (l : Launch) (p0 : Int64) (p1 : Int32) (p2 : Int32) : Met l yX0_isTold wsX0_isTold ({ frames := 2, cells := 0, slots := 0, locals := 49 } : Room) (va_Pc [.long p0, .int p1, .int p2] (fun U => True)) (va_Qi (fun (r : Int32) (u : Unit) => f_X0_isTold p0 p1 p2 = r ∧ (r = 0 ∨ r = 1)) (fun _ _ => True) (fun _ => False)) 0 0 (fun _ => False) := by
  refine Met.ofW (cc := cX0_isTold) (maxL := 5) (ret := (some .boolean)) (by decide) rfl ?_
  intro p e s m args below meth c s₁ B hml hv
  obtain ⟨rfl, -⟩ := hv
  have hx := B.exec
  have hb := B.bytes
  have hr := B.returns
  have hts := atoms_spec (ws := wsX0_isTold) B.pre
  have hown : s.vm.findClass RX0 = some m.cls := findClass_of_methodNamed B.named
  have hlocks := B.notSynchronized
  have hS : va_S (fun _ => False) s.heap s.heap [] := va_S.rf
  have hl := lv_entry ([.long p0, .int p1, .int p2]) (n := 5) (Nat.le_of_ble_eq_true rfl)
  rw [lg_entry_eq]
  generalize (lg_sl ([.long p0, .int p1, .int p2]) ++ List.replicate (5 - (lg_sl ([.long p0, .int p1, .int p2])).length) Slot.unset).toArray = ls at hl ⊢
  have hl : lv_has ls 5 [(0, .long p0), (2, .int p1), (3, .int p2)] := hl
  obtain ⟨Q, hQ⟩ : ∃ Q : State → Prop, Q = (MQ below (va_Qi (fun (r : Int32) (u : Unit) => f_X0_isTold p0 p1 p2 = r ∧ (r = 0 ∨ r = 1)) (fun _ _ => True) (fun _ => False)) ([.long p0, .int p1, .int p2] : List Value).toArray s 0 0 (fun _ => False)) := ⟨_, rfl⟩
  rw [← hQ]
  have hR : f_X0_isTold p0 p1 p2 = f_X0_isTold p0 p1 p2 := rfl
  refine lv_iload_n hx hb dX0_isTold_0 rfl (lv_at hl 1 rfl) ?_
  refine lv_iload_n hx hb dX0_isTold_1 rfl (lv_at hl 2 rfl) ?_
  refine lv_imul hx hb dX0_isTold_2 ?_
  refine lv_istore (lv' := [(4, .int (p1 * p2)), (0, .long p0), (2, .int p1), (3, .int p2)]) hx hb dX0_isTold_3 hl (by decide) rfl (fun ls hl => ?_)
  refine lv_iload_n hx hb dX0_isTold_5 rfl (lv_at hl 3 rfl) ?_
  have J15 : ∀ (ls : Array Slot) (H : Heap) (locs : List Loc), lv_has ls 5 [(0, .long p0), (2, .int p1), (3, .int p2), (4, .int (p1 * p2))] → va_S (fun _ => False) s.heap H locs → f_X0_isTold p0 p1 p2 = g_X0_isTold_15 p0 p1 p2 → W p l e (headSpec wsX0_isTold ({ frames := 2, cells := 0, slots := 0, locals := 49 } : Room)).room s m ([.long p0, .int p1, .int p2] : List Value).toArray below meth c H locs 0 0 Q (F0 m 15 ls []) := by
    intro ls H locs hl hS hR
    refine lv_lload_n hx hb dX0_isTold_15 rfl (lv_at hl 0 rfl) ?_
    refine lv_iload_n hx hb dX0_isTold_16 rfl (lv_at hl 2 rfl) ?_
    refine va_calll (va_runS (As := [.long p0, .int p2]) (rest := []) ⟨hx, hb, hml, hown, hts⟩ (met_X0_powerOdd l p0 p2) (va_cwS 2 hts gX0_isTold_X0_powerOdd rfl rfl rfl (by decide +kernel) ⟨Nat.le_of_ble_eq_true rfl, Nat.le_of_ble_eq_true rfl⟩) ⟨fun a U g mk q => q, fun U hU hW => ⟨rfl, trivial⟩⟩ rfl rfl hl.1 rfl (lv_room (Nat.le_of_ble_eq_true rfl)) dX0_isTold_17 ⟨Nat.le_of_ble_eq_true rfl, Nat.le_of_ble_eq_true rfl⟩) hS (fun q _ h => h.elim) (fun q h => h.elim) (fun r17 u17 t H locs ht hvm hw17 hB hz hk hS => ?_)
    subst hw17
    refine lv_ldc2 (v := (-1)) hx hb hown (hts (.constantLong RX0 138 (-1)) (by decide +kernel)) dX0_isTold_20 ?_
    refine W.lcmp hx hb dX0_isTold_23 ?_
    refine lv_if_eq (tgt := 47) hx hb dX0_isTold_24 (by decide) (fun c23 => ?_) (fun c23 => ?_)
    · skip
      have c23 : ((f_X0_powerOdd p0 p2) : Int64) = (-1) := (lg_cmp_eq _ _).mp c23
      refine lv_iconst (v := 0) hx hb dX0_isTold_47 (by decide) ?_
      rw [hQ]
      exact W.zret (ty := .boolean) (v := 0) hx hb hr (nbool (Or.inl rfl)) (fun t ht hW => ⟨⟨0, (), rfl, ⟨(hR.trans (by simp only [g_X0_isTold_15, if_pos c23])), (Or.inl rfl)⟩, trivial⟩, hS.F ht⟩) hS.2.2 dX0_isTold_48
    · skip
      have c23 : ¬ (((f_X0_powerOdd p0 p2) : Int64) = (-1)) := fun h => c23 ((lg_cmp_eq _ _).mpr h)
      refine lv_iload hx hb dX0_isTold_27 (lv_at hl 3 rfl) ?_
      refine lv_sipush (v := (-1000)) hx hb dX0_isTold_29 (by decide) ?_
      refine lv_icmp_lt (tgt := 47) hx hb dX0_isTold_32 (by decide) (fun c32 => ?_) (fun c32 => ?_)
      · skip
        refine lv_iconst (v := 0) hx hb dX0_isTold_47 (by decide) ?_
        rw [hQ]
        exact W.zret (ty := .boolean) (v := 0) hx hb hr (nbool (Or.inl rfl)) (fun t ht hW => ⟨⟨0, (), rfl, ⟨(hR.trans (by simp only [g_X0_isTold_15, if_neg c23, if_pos c32])), (Or.inl rfl)⟩, trivial⟩, hS.F ht⟩) hS.2.2 dX0_isTold_48
      · skip
        refine lv_iload hx hb dX0_isTold_35 (lv_at hl 3 rfl) ?_
        refine lv_sipush (v := 1000) hx hb dX0_isTold_37 (by decide) ?_
        refine lv_icmp_gt (tgt := 47) hx hb dX0_isTold_40 (by decide) (fun c40 => ?_) (fun c40 => ?_)
        · skip
          refine lv_iconst (v := 0) hx hb dX0_isTold_47 (by decide) ?_
          rw [hQ]
          exact W.zret (ty := .boolean) (v := 0) hx hb hr (nbool (Or.inl rfl)) (fun t ht hW => ⟨⟨0, (), rfl, ⟨(hR.trans (by simp only [g_X0_isTold_15, if_neg c23, if_neg c32, if_pos c40])), (Or.inl rfl)⟩, trivial⟩, hS.F ht⟩) hS.2.2 dX0_isTold_48
        · skip
          refine lv_iconst (v := 1) hx hb dX0_isTold_43 (by decide) ?_
          refine lv_goto (tgt := 48) hx hb dX0_isTold_44 (by decide) ?_
          rw [hQ]
          exact W.zret (ty := .boolean) (v := 1) hx hb hr (nbool (Or.inr rfl)) (fun t ht hW => ⟨⟨1, (), rfl, ⟨(hR.trans (by simp only [g_X0_isTold_15, if_neg c23, if_neg c32, if_neg c40])), (Or.inr rfl)⟩, trivial⟩, hS.F ht⟩) hS.2.2 dX0_isTold_48
  refine lv_if_ge (tgt := 15) hx hb dX0_isTold_6 (by decide) (fun c6 => ?_) (fun c6 => ?_)
  · skip
    exact J15 ls _ _ (lv_sub hl [1, 2, 3, 0] rfl) hS (hR.trans (by simp only [f_X0_isTold, if_pos c6]))
  · skip
    refine lv_lload_n hx hb dX0_isTold_9 rfl (lv_at hl 1 rfl) ?_
    refine lv_lconst (v := 1) hx hb dX0_isTold_10 rfl ?_
    refine W.lcmp hx hb dX0_isTold_11 ?_
    refine lv_if_ne (tgt := 47) hx hb dX0_isTold_12 (by decide) (fun c11 => ?_) (fun c11 => ?_)
    · skip
      have c11 : ¬ ((p0 : Int64) = 1) := fun h => c11 ((lg_cmp_eq _ _).mpr h)
      refine lv_iconst (v := 0) hx hb dX0_isTold_47 (by decide) ?_
      rw [hQ]
      exact W.zret (ty := .boolean) (v := 0) hx hb hr (nbool (Or.inl rfl)) (fun t ht hW => ⟨⟨0, (), rfl, ⟨(hR.trans (by simp only [f_X0_isTold, if_neg c6, if_neg c11])), (Or.inl rfl)⟩, trivial⟩, hS.F ht⟩) hS.2.2 dX0_isTold_48
    · skip
      have c11 : (p0 : Int64) = 1 := (lg_cmp_eq _ _).mp c11
      exact J15 ls _ _ (lv_sub hl [1, 2, 3, 0] rfl) hS (hR.trans (by simp only [f_X0_isTold, if_neg c6, if_pos c11]))

def f_X0_checkTold (p0 : Int32) (p1 : Int32) : Except Nat Unit := (if ((f_X0_isTold (f_X0_oddOf p0) (f_X0_shiftOf p0) p1) : Int32) = 0 then (.error 5) else (.ok ()))
set_option maxHeartbeats 4000000 in
set_option maxRecDepth 100000 in
theorem met_X0_checkTold (l : Launch) (hfl : l.stackTraces = false) (p0 : Int32) (p1 : Int32) : vx_Met l yX0_checkTold wsX0_checkTold ({ frames := 6, cells := 1, slots := 6, locals := 84 } : Room) (va_Pc [.int p0, .int p1] (fun U => xE (fun _ => False) U U.heap)) (va_Qv (fun (u : Unit) => f_X0_checkTold p0 p1 = .ok u) (fun _ _ => True) (fun _ => False)) (vx_X (fun k : Nat => f_X0_checkTold p0 p1 = .error k) (fun E k _ => E = exN k) (fun _ => False)) 1 6 (fun _ => False) := by
  refine vx_ofW (cc := cX0_checkTold) (maxL := 2) (ret := none) (by decide) rfl ?_
  intro p e s m args below meth c s₁ B hml hno hv
  obtain ⟨rfl, hE⟩ := hv
  have hx := B.exec
  have hb := B.bytes
  have hr := B.returns
  have hts := atoms_spec (ws := wsX0_checkTold) B.pre
  have hown : s.vm.findClass RX0 = some m.cls := findClass_of_methodNamed B.named
  have hlocks := B.notSynchronized
  have hS : va_S (fun _ => False) s.heap s.heap [] := va_S.rf
  have hl := lv_entry ([.int p0, .int p1]) (n := 2) (Nat.le_of_ble_eq_true rfl)
  rw [lg_entry_eq]
  generalize (lg_sl ([.int p0, .int p1]) ++ List.replicate (2 - (lg_sl ([.int p0, .int p1])).length) Slot.unset).toArray = ls at hl ⊢
  have hl : lv_has ls 2 [(0, .int p0), (1, .int p1)] := hl
  obtain ⟨Q, hQ⟩ : ∃ Q : State → Prop, Q = (vx_MQ below (va_Qv (fun (u : Unit) => f_X0_checkTold p0 p1 = .ok u) (fun _ _ => True) (fun _ => False)) (vx_X (fun k : Nat => f_X0_checkTold p0 p1 = .error k) (fun E k _ => E = exN k) (fun _ => False)) ([.int p0, .int p1] : List Value).toArray s 1 6 (fun _ => False)) := ⟨_, rfl⟩
  rw [← hQ]
  have hR : f_X0_checkTold p0 p1 = f_X0_checkTold p0 p1 := rfl
  refine lv_iload_n hx hb dX0_checkTold_0 rfl (lv_at hl 0 rfl) ?_
  refine va_calll (va_runS (As := [.int p0]) (rest := []) ⟨hx, hb, hml, hown, hts⟩ (met_X0_oddOf l p0) (va_cwS 1 hts gX0_checkTold_X0_oddOf rfl rfl rfl (by decide +kernel) ⟨Nat.le_of_ble_eq_true rfl, Nat.le_of_ble_eq_true rfl⟩) ⟨fun a U g mk q => q, fun U hU hW => ⟨rfl, trivial⟩⟩ rfl rfl hl.1 rfl (lv_room (Nat.le_of_ble_eq_true rfl)) dX0_checkTold_1 ⟨Nat.le_of_ble_eq_true rfl, Nat.le_of_ble_eq_true rfl⟩) hS (fun q _ h => h.elim) (fun q h => h.elim) (fun r1 u1 t H locs ht hvm hw1 hB hz hk hS => ?_)
  subst hw1
  refine lv_iload_n hx hb dX0_checkTold_4 rfl (lv_at hl 0 rfl) ?_
  refine va_calli (va_runS (As := [.int p0]) (rest := [.long (f_X0_oddOf p0)]) ⟨hx, hb, hml, hown, hts⟩ (met_X0_shiftOf l p0) (va_cwS 1 hts gX0_checkTold_X0_shiftOf rfl rfl rfl (by decide +kernel) ⟨Nat.le_of_ble_eq_true rfl, Nat.le_of_ble_eq_true rfl⟩) ⟨fun a U g mk q => q, fun U hU hW => ⟨rfl, trivial⟩⟩ rfl rfl hl.1 rfl (lv_room (Nat.le_of_ble_eq_true rfl)) dX0_checkTold_5 ⟨Nat.le_of_ble_eq_true rfl, Nat.le_of_ble_eq_true rfl⟩) hS (fun q _ h => h.elim) (fun q h => h.elim) (fun r5 u5 t H locs ht hvm hw5 hB hz hk hS => ?_)
  subst hw5
  refine lv_iload_n hx hb dX0_checkTold_8 rfl (lv_at hl 1 rfl) ?_
  refine va_calli (va_runS (As := [.long (f_X0_oddOf p0), .int (f_X0_shiftOf p0), .int p1]) (rest := []) ⟨hx, hb, hml, hown, hts⟩ (met_X0_isTold l (f_X0_oddOf p0) (f_X0_shiftOf p0) p1) (va_cwS 3 hts gX0_checkTold_X0_isTold rfl rfl rfl (by decide +kernel) ⟨Nat.le_of_ble_eq_true rfl, Nat.le_of_ble_eq_true rfl⟩) ⟨fun a U g mk q => q, fun U hU hW => ⟨rfl, trivial⟩⟩ rfl rfl hl.1 rfl (lv_room (Nat.le_of_ble_eq_true rfl)) dX0_checkTold_9 ⟨Nat.le_of_ble_eq_true rfl, Nat.le_of_ble_eq_true rfl⟩) hS (fun q _ h => h.elim) (fun q h => h.elim) (fun r9 u9 t H locs ht hvm hw9 hB hz hk hS => ?_)
  obtain ⟨hw9, bz9⟩ := hw9
  subst hw9
  refine lv_if_ne (tgt := 25) hx hb dX0_checkTold_12 (by decide) (fun c12 => ?_) (fun c12 => ?_)
  · skip
    refine W.widen (k := 1) (n := 6) (Nat.le_of_ble_eq_true rfl) (Nat.le_of_ble_eq_true rfl) ?_
    rw [hQ]
    refine vx_ret ?_
    exact W.vret hx hb hr (fun t ht hW => ⟨⟨(), rfl, (hR.trans (by simp only [f_X0_checkTold, if_neg c12])), trivial⟩, hS.F ht⟩) hS.2.2 dX0_checkTold_25
  · skip
    obtain ⟨sa, hstr⟩ := hE.2.2.1 (95, "the power is not told") (by decide +kernel)
    rw [hQ]
    exact vx_throwS hx hb hfl (own := RX0) (cls := "java/lang/UnsupportedOperationException") (text := "the power is not told") (names := ["java/lang/RuntimeException", "java/lang/Exception"]) (ik := 93) (is := 95) (ic := 97) hown (by decide +kernel) (by decide +kernel) (hts _ (by decide +kernel)) (hts _ (by decide +kernel)) hstr (vx_hat (fun w h => hts w ((by decide +kernel : ∀ w ∈ (vx_atS RX0 97 "java/lang/UnsupportedOperationException" ["java/lang/RuntimeException", "java/lang/Exception"]).filter goodWord, w ∈ wsX0_checkTold) w h)) (by decide +kernel) (vx_c (va_Nw.use rfl (hE.2.2.2.1 "java/lang/UnsupportedOperationException" (by decide +kernel))) (vx_c (va_Nw.use rfl (hE.2.2.2.2 "java/lang/RuntimeException" (by decide +kernel))) (vx_c (va_Nw.use rfl (hE.2.2.2.2 "java/lang/Exception" (by decide +kernel))) (vx_c (va_Nw.use rfl (hE.2.2.2.2 "java/lang/Throwable" (by decide +kernel))) vx_n))))) (by decide +kernel) hE.1 hE.2.1 hS (by rw [hml]; exact hl.1) dX0_checkTold_15 dX0_checkTold_18 dX0_checkTold_19 dX0_checkTold_21 dX0_checkTold_24 (fun x hx => (hno x hx).elim) (Nat.le_of_ble_eq_true rfl) (Nat.le_of_ble_eq_true rfl) (Nat.le_of_ble_eq_true rfl) (Nat.le_of_ble_eq_true rfl) hlocks (fun t hvm hz hk => ⟨5, (hR.trans (by simp only [f_X0_checkTold, if_pos c12])), rfl, ⟨Nat.le_trans hS.1 hz, fun q h1 h2 => (hk q (Nat.lt_of_lt_of_le h1 hS.1)).trans (hS.2.1 q h1 h2)⟩⟩) hS.2.2 (Nat.le_of_ble_eq_true rfl) (Nat.le_of_ble_eq_true rfl)

def f_X0_checkPowerNear (p0 : Int32) (p1 : Int32) : Except Nat Unit := (if ((f_X0_powerUpTo (f_X0_sizeOf p0) p1 9007199254740991) : Int64) = (-1) then (.error 5) else (.ok ()))
set_option maxHeartbeats 4000000 in
set_option maxRecDepth 100000 in
theorem met_X0_checkPowerNear (l : Launch) (hfl : l.stackTraces = false) (p0 : Int32) (p1 : Int32) : vx_Met l yX0_checkPowerNear wsX0_checkPowerNear ({ frames := 6, cells := 1, slots := 6, locals := 84 } : Room) (va_Pc [.int p0, .int p1] (fun U => xE (fun _ => False) U U.heap)) (va_Qv (fun (u : Unit) => f_X0_checkPowerNear p0 p1 = .ok u) (fun _ _ => True) (fun _ => False)) (vx_X (fun k : Nat => f_X0_checkPowerNear p0 p1 = .error k) (fun E k _ => E = exN k) (fun _ => False)) 1 6 (fun _ => False) := by
  refine vx_ofW (cc := cX0_checkPowerNear) (maxL := 2) (ret := none) (by decide) rfl ?_
  intro p e s m args below meth c s₁ B hml hno hv
  obtain ⟨rfl, hE⟩ := hv
  have hx := B.exec
  have hb := B.bytes
  have hr := B.returns
  have hts := atoms_spec (ws := wsX0_checkPowerNear) B.pre
  have hown : s.vm.findClass RX0 = some m.cls := findClass_of_methodNamed B.named
  have hlocks := B.notSynchronized
  have hS : va_S (fun _ => False) s.heap s.heap [] := va_S.rf
  have hl := lv_entry ([.int p0, .int p1]) (n := 2) (Nat.le_of_ble_eq_true rfl)
  rw [lg_entry_eq]
  generalize (lg_sl ([.int p0, .int p1]) ++ List.replicate (2 - (lg_sl ([.int p0, .int p1])).length) Slot.unset).toArray = ls at hl ⊢
  have hl : lv_has ls 2 [(0, .int p0), (1, .int p1)] := hl
  obtain ⟨Q, hQ⟩ : ∃ Q : State → Prop, Q = (vx_MQ below (va_Qv (fun (u : Unit) => f_X0_checkPowerNear p0 p1 = .ok u) (fun _ _ => True) (fun _ => False)) (vx_X (fun k : Nat => f_X0_checkPowerNear p0 p1 = .error k) (fun E k _ => E = exN k) (fun _ => False)) ([.int p0, .int p1] : List Value).toArray s 1 6 (fun _ => False)) := ⟨_, rfl⟩
  rw [← hQ]
  have hR : f_X0_checkPowerNear p0 p1 = f_X0_checkPowerNear p0 p1 := rfl
  refine lv_iload_n hx hb dX0_checkPowerNear_0 rfl (lv_at hl 0 rfl) ?_
  refine va_calll (va_runS (As := [.int p0]) (rest := []) ⟨hx, hb, hml, hown, hts⟩ (met_X0_sizeOf l p0) (va_cwS 1 hts gX0_checkPowerNear_X0_sizeOf rfl rfl rfl (by decide +kernel) ⟨Nat.le_of_ble_eq_true rfl, Nat.le_of_ble_eq_true rfl⟩) ⟨fun a U g mk q => q, fun U hU hW => ⟨rfl, trivial⟩⟩ rfl rfl hl.1 rfl (lv_room (Nat.le_of_ble_eq_true rfl)) dX0_checkPowerNear_1 ⟨Nat.le_of_ble_eq_true rfl, Nat.le_of_ble_eq_true rfl⟩) hS (fun q _ h => h.elim) (fun q h => h.elim) (fun r1 u1 t H locs ht hvm hw1 hB hz hk hS => ?_)
  subst hw1
  refine lv_iload_n hx hb dX0_checkPowerNear_4 rfl (lv_at hl 1 rfl) ?_
  refine lv_ldc2 (v := 9007199254740991) hx hb hown (hts (.constantLong RX0 204 9007199254740991) (by decide +kernel)) dX0_checkPowerNear_5 ?_
  refine va_calll (va_runS (As := [.long (f_X0_sizeOf p0), .int p1, .long 9007199254740991]) (rest := []) ⟨hx, hb, hml, hown, hts⟩ (met_X0_powerUpTo l (f_X0_sizeOf p0) p1 9007199254740991) (va_cwS 3 hts gX0_checkPowerNear_X0_powerUpTo rfl rfl rfl (by decide +kernel) ⟨Nat.le_of_ble_eq_true rfl, Nat.le_of_ble_eq_true rfl⟩) ⟨fun a U g mk q => q, fun U hU hW => ⟨rfl, trivial⟩⟩ rfl rfl hl.1 rfl (lv_room (Nat.le_of_ble_eq_true rfl)) dX0_checkPowerNear_8 ⟨Nat.le_of_ble_eq_true rfl, Nat.le_of_ble_eq_true rfl⟩) hS (fun q _ h => h.elim) (fun q h => h.elim) (fun r8 u8 t H locs ht hvm hw8 hB hz hk hS => ?_)
  subst hw8
  refine lv_ldc2 (v := (-1)) hx hb hown (hts (.constantLong RX0 138 (-1)) (by decide +kernel)) dX0_checkPowerNear_11 ?_
  refine W.lcmp hx hb dX0_checkPowerNear_14 ?_
  refine lv_if_ne (tgt := 28) hx hb dX0_checkPowerNear_15 (by decide) (fun c14 => ?_) (fun c14 => ?_)
  · skip
    have c14 : ¬ (((f_X0_powerUpTo (f_X0_sizeOf p0) p1 9007199254740991) : Int64) = (-1)) := fun h => c14 ((lg_cmp_eq _ _).mpr h)
    refine W.widen (k := 1) (n := 6) (Nat.le_of_ble_eq_true rfl) (Nat.le_of_ble_eq_true rfl) ?_
    rw [hQ]
    refine vx_ret ?_
    exact W.vret hx hb hr (fun t ht hW => ⟨⟨(), rfl, (hR.trans (by simp only [f_X0_checkPowerNear, if_neg c14])), trivial⟩, hS.F ht⟩) hS.2.2 dX0_checkPowerNear_28
  · skip
    have c14 : ((f_X0_powerUpTo (f_X0_sizeOf p0) p1 9007199254740991) : Int64) = (-1) := (lg_cmp_eq _ _).mp c14
    obtain ⟨sa, hstr⟩ := hE.2.2.1 (206, "the power is not near") (by decide +kernel)
    rw [hQ]
    exact vx_throwS hx hb hfl (own := RX0) (cls := "java/lang/UnsupportedOperationException") (text := "the power is not near") (names := ["java/lang/RuntimeException", "java/lang/Exception"]) (ik := 93) (is := 206) (ic := 97) hown (by decide +kernel) (by decide +kernel) (hts _ (by decide +kernel)) (hts _ (by decide +kernel)) hstr (vx_hat (fun w h => hts w ((by decide +kernel : ∀ w ∈ (vx_atS RX0 97 "java/lang/UnsupportedOperationException" ["java/lang/RuntimeException", "java/lang/Exception"]).filter goodWord, w ∈ wsX0_checkPowerNear) w h)) (by decide +kernel) (vx_c (va_Nw.use rfl (hE.2.2.2.1 "java/lang/UnsupportedOperationException" (by decide +kernel))) (vx_c (va_Nw.use rfl (hE.2.2.2.2 "java/lang/RuntimeException" (by decide +kernel))) (vx_c (va_Nw.use rfl (hE.2.2.2.2 "java/lang/Exception" (by decide +kernel))) (vx_c (va_Nw.use rfl (hE.2.2.2.2 "java/lang/Throwable" (by decide +kernel))) vx_n))))) (by decide +kernel) hE.1 hE.2.1 hS (by rw [hml]; exact hl.1) dX0_checkPowerNear_18 dX0_checkPowerNear_21 dX0_checkPowerNear_22 dX0_checkPowerNear_24 dX0_checkPowerNear_27 (fun x hx => (hno x hx).elim) (Nat.le_of_ble_eq_true rfl) (Nat.le_of_ble_eq_true rfl) (Nat.le_of_ble_eq_true rfl) (Nat.le_of_ble_eq_true rfl) hlocks (fun t hvm hz hk => ⟨5, (hR.trans (by simp only [f_X0_checkPowerNear, if_pos c14])), rfl, ⟨Nat.le_trans hS.1 hz, fun q h1 h2 => (hk q (Nat.lt_of_lt_of_le h1 hS.1)).trans (hS.2.1 q h1 h2)⟩⟩) hS.2.2 (Nat.le_of_ble_eq_true rfl) (Nat.le_of_ble_eq_true rfl)

def f_X0_nearPower (p0 : Int32) (p1 : Int32) : Int64 := ((((f_X0_powerSign (f_X0_signOf p0) p1) : Int32).toInt64) * (f_X0_powerUpTo (f_X0_sizeOf p0) p1 9007199254740991))
set_option maxHeartbeats 4000000 in
set_option maxRecDepth 100000 in
theorem met_X0_nearPower (l : Launch) (p0 : Int32) (p1 : Int32) : Met l yX0_nearPower wsX0_nearPower ({ frames := 1, cells := 0, slots := 0, locals := 27 } : Room) (va_Pc [.int p0, .int p1] (fun U => True)) (va_Ql (fun (r : Int64) (u : Unit) => f_X0_nearPower p0 p1 = r) (fun _ _ => True) (fun _ => False)) 0 0 (fun _ => False) := by
  refine Met.ofW (cc := cX0_nearPower) (maxL := 2) (ret := (some .long)) (by decide) rfl ?_
  intro p e s m args below meth c s₁ B hml hv
  obtain ⟨rfl, -⟩ := hv
  have hx := B.exec
  have hb := B.bytes
  have hr := B.returns
  have hts := atoms_spec (ws := wsX0_nearPower) B.pre
  have hown : s.vm.findClass RX0 = some m.cls := findClass_of_methodNamed B.named
  have hlocks := B.notSynchronized
  have hS : va_S (fun _ => False) s.heap s.heap [] := va_S.rf
  have hl := lv_entry ([.int p0, .int p1]) (n := 2) (Nat.le_of_ble_eq_true rfl)
  rw [lg_entry_eq]
  generalize (lg_sl ([.int p0, .int p1]) ++ List.replicate (2 - (lg_sl ([.int p0, .int p1])).length) Slot.unset).toArray = ls at hl ⊢
  have hl : lv_has ls 2 [(0, .int p0), (1, .int p1)] := hl
  obtain ⟨Q, hQ⟩ : ∃ Q : State → Prop, Q = (MQ below (va_Ql (fun (r : Int64) (u : Unit) => f_X0_nearPower p0 p1 = r) (fun _ _ => True) (fun _ => False)) ([.int p0, .int p1] : List Value).toArray s 0 0 (fun _ => False)) := ⟨_, rfl⟩
  rw [← hQ]
  have hR : f_X0_nearPower p0 p1 = f_X0_nearPower p0 p1 := rfl
  refine lv_iload_n hx hb dX0_nearPower_0 rfl (lv_at hl 0 rfl) ?_
  refine va_calli (va_runS (As := [.int p0]) (rest := []) ⟨hx, hb, hml, hown, hts⟩ (met_X0_signOf l p0) (va_cwS 1 hts gX0_nearPower_X0_signOf rfl rfl rfl (by decide +kernel) ⟨Nat.le_of_ble_eq_true rfl, Nat.le_of_ble_eq_true rfl⟩) ⟨fun a U g mk q => q, fun U hU hW => ⟨rfl, trivial⟩⟩ rfl rfl hl.1 rfl (lv_room (Nat.le_of_ble_eq_true rfl)) dX0_nearPower_1 ⟨Nat.le_of_ble_eq_true rfl, Nat.le_of_ble_eq_true rfl⟩) hS (fun q _ h => h.elim) (fun q h => h.elim) (fun r1 u1 t H locs ht hvm hw1 hB hz hk hS => ?_)
  subst hw1
  refine lv_iload_n hx hb dX0_nearPower_4 rfl (lv_at hl 1 rfl) ?_
  refine va_calli (va_runS (As := [.int (f_X0_signOf p0), .int p1]) (rest := []) ⟨hx, hb, hml, hown, hts⟩ (met_X0_powerSign l (f_X0_signOf p0) p1) (va_cwS 2 hts gX0_nearPower_X0_powerSign rfl rfl rfl (by decide +kernel) ⟨Nat.le_of_ble_eq_true rfl, Nat.le_of_ble_eq_true rfl⟩) ⟨fun a U g mk q => q, fun U hU hW => ⟨rfl, trivial⟩⟩ rfl rfl hl.1 rfl (lv_room (Nat.le_of_ble_eq_true rfl)) dX0_nearPower_5 ⟨Nat.le_of_ble_eq_true rfl, Nat.le_of_ble_eq_true rfl⟩) hS (fun q _ h => h.elim) (fun q h => h.elim) (fun r5 u5 t H locs ht hvm hw5 hB hz hk hS => ?_)
  subst hw5
  refine lv_i2l hx hb dX0_nearPower_8 rfl ?_
  refine lv_iload_n hx hb dX0_nearPower_9 rfl (lv_at hl 0 rfl) ?_
  refine va_calll (va_runS (As := [.int p0]) (rest := [.long (((f_X0_powerSign (f_X0_signOf p0) p1) : Int32).toInt64)]) ⟨hx, hb, hml, hown, hts⟩ (met_X0_sizeOf l p0) (va_cwS 1 hts gX0_nearPower_X0_sizeOf rfl rfl rfl (by decide +kernel) ⟨Nat.le_of_ble_eq_true rfl, Nat.le_of_ble_eq_true rfl⟩) ⟨fun a U g mk q => q, fun U hU hW => ⟨rfl, trivial⟩⟩ rfl rfl hl.1 rfl (lv_room (Nat.le_of_ble_eq_true rfl)) dX0_nearPower_10 ⟨Nat.le_of_ble_eq_true rfl, Nat.le_of_ble_eq_true rfl⟩) hS (fun q _ h => h.elim) (fun q h => h.elim) (fun r10 u10 t H locs ht hvm hw10 hB hz hk hS => ?_)
  subst hw10
  refine lv_iload_n hx hb dX0_nearPower_13 rfl (lv_at hl 1 rfl) ?_
  refine lv_ldc2 (v := 9007199254740991) hx hb hown (hts (.constantLong RX0 204 9007199254740991) (by decide +kernel)) dX0_nearPower_14 ?_
  refine va_calll (va_runS (As := [.long (f_X0_sizeOf p0), .int p1, .long 9007199254740991]) (rest := [.long (((f_X0_powerSign (f_X0_signOf p0) p1) : Int32).toInt64)]) ⟨hx, hb, hml, hown, hts⟩ (met_X0_powerUpTo l (f_X0_sizeOf p0) p1 9007199254740991) (va_cwS 3 hts gX0_nearPower_X0_powerUpTo rfl rfl rfl (by decide +kernel) ⟨Nat.le_of_ble_eq_true rfl, Nat.le_of_ble_eq_true rfl⟩) ⟨fun a U g mk q => q, fun U hU hW => ⟨rfl, trivial⟩⟩ rfl rfl hl.1 rfl (lv_room (Nat.le_of_ble_eq_true rfl)) dX0_nearPower_17 ⟨Nat.le_of_ble_eq_true rfl, Nat.le_of_ble_eq_true rfl⟩) hS (fun q _ h => h.elim) (fun q h => h.elim) (fun r17 u17 t H locs ht hvm hw17 hB hz hk hS => ?_)
  subst hw17
  refine lv_lmul hx hb dX0_nearPower_20 ?_
  rw [hQ]
  exact W.lret (v := ((((f_X0_powerSign (f_X0_signOf p0) p1) : Int32).toInt64) * (f_X0_powerUpTo (f_X0_sizeOf p0) p1 9007199254740991))) hx hb hr (fun t ht hW => ⟨⟨((((f_X0_powerSign (f_X0_signOf p0) p1) : Int32).toInt64) * (f_X0_powerUpTo (f_X0_sizeOf p0) p1 9007199254740991)), (), rfl, (hR.trans (by simp only [f_X0_nearPower])), trivial⟩, hS.F ht⟩) hS.2.2 dX0_nearPower_21

def g_X0_doublings_26 (rec5 : Int32 → Int32 → Int32) (v5_3 : Int32) (v26_2 : Int32) : Int32 := (rec5 v26_2 (v5_3 >>> ((1 : Int32) &&& 31)))
def g_X0_doublings_5 (p0 : Int64) : Nat → Int32 → Int32 → Int32
  | 0, _, _ => 0
  | n + 1, v5_2, v5_3 => (if (v5_3 : Int32) ≤ 0 then v5_2 else (if (((1 : Int64) <<< (((53 - v5_3) : Int32).toInt64 &&& 63)) : Int64) ≤ (p0 <<< ((v5_2 : Int32).toInt64 &&& 63)) then (g_X0_doublings_26 (fun a0 a1 => g_X0_doublings_5 p0 n a0 a1) v5_3 v5_2) else (g_X0_doublings_26 (fun a0 a1 => g_X0_doublings_5 p0 n a0 a1) v5_3 (v5_2 + v5_3))))
def f_X0_doublings (p0 : Int64) : Int32 := (g_X0_doublings_5 p0 ((32 : Int32).toInt.toNat + 1) 0 32)
set_option maxHeartbeats 4000000 in
set_option maxRecDepth 100000 in
theorem met_X0_doublings (l : Launch) (p0 : Int64) : Met l yX0_doublings wsX0_doublings ({ frames := 0, cells := 0, slots := 0, locals := 0 } : Room) (va_Pc [.long p0] (fun U => True)) (va_Qi (fun (r : Int32) (u : Unit) => f_X0_doublings p0 = r) (fun _ _ => True) (fun _ => False)) 0 0 (fun _ => False) := by
  refine Met.ofW (cc := cX0_doublings) (maxL := 4) (ret := (some .int)) (by decide) rfl ?_
  intro p e s m args below meth c s₁ B hml hv
  obtain ⟨rfl, -⟩ := hv
  have hx := B.exec
  have hb := B.bytes
  have hr := B.returns
  have hts := atoms_spec (ws := wsX0_doublings) B.pre
  have hown : s.vm.findClass RX0 = some m.cls := findClass_of_methodNamed B.named
  have hlocks := B.notSynchronized
  have hS : va_S (fun _ => False) s.heap s.heap [] := va_S.rf
  have hl := lv_entry ([.long p0]) (n := 4) (Nat.le_of_ble_eq_true rfl)
  rw [lg_entry_eq]
  generalize (lg_sl ([.long p0]) ++ List.replicate (4 - (lg_sl ([.long p0])).length) Slot.unset).toArray = ls at hl ⊢
  have hl : lv_has ls 4 [(0, .long p0)] := hl
  obtain ⟨Q, hQ⟩ : ∃ Q : State → Prop, Q = (MQ below (va_Qi (fun (r : Int32) (u : Unit) => f_X0_doublings p0 = r) (fun _ _ => True) (fun _ => False)) ([.long p0] : List Value).toArray s 0 0 (fun _ => False)) := ⟨_, rfl⟩
  rw [← hQ]
  have hR : f_X0_doublings p0 = f_X0_doublings p0 := rfl
  refine lv_iconst (v := 0) hx hb dX0_doublings_0 (by decide) ?_
  refine lv_istore_n (lv' := [(2, .int 0), (0, .long p0)]) hx hb dX0_doublings_1 rfl hl (by decide) rfl (fun ls hl => ?_)
  refine lv_bipush (v := 32) hx hb dX0_doublings_2 (by decide) ?_
  refine lv_istore_n (lv' := [(3, .int 32), (2, .int 0), (0, .long p0)]) hx hb dX0_doublings_4 rfl hl (by decide) rfl (fun ls hl => ?_)
  have J5 : ∀ (n5 : Nat) (v5_2 : Int32) (v5_3 : Int32) (ls : Array Slot) (H : Heap) (locs : List Loc), lv_has ls 4 [(0, .long p0), (2, .int v5_2), (3, .int v5_3)] → va_S (fun _ => False) s.heap H locs → f_X0_doublings p0 = g_X0_doublings_5 p0 n5 v5_2 v5_3 → v5_3.toInt.toNat < n5 → W p l e (headSpec wsX0_doublings ({ frames := 0, cells := 0, slots := 0, locals := 0 } : Room)).room s m ([.long p0] : List Value).toArray below meth c H locs 0 0 Q (F0 m 5 ls []) := by
    intro n5
    induction n5 with
    | zero => intro v5_2 v5_3 ls H locs hl hS hR hmu5; exact absurd hmu5 (Nat.not_lt_zero _)
    | succ n5 ih5 =>
      intro v5_2 v5_3 ls H locs hl hS hR hmu5
      refine lv_iload_n hx hb dX0_doublings_5 rfl (lv_at hl 2 rfl) ?_
      refine lv_if_le (tgt := 33) hx hb dX0_doublings_6 (by decide) (fun c6 => ?_) (fun c6 => ?_)
      · skip
        refine lv_iload_n hx hb dX0_doublings_33 rfl (lv_at hl 1 rfl) ?_
        rw [hQ]
        exact W.iret (v := v5_2) hx hb hr (fun t ht hW => ⟨⟨v5_2, (), rfl, (hR.trans (by simp only [g_X0_doublings_5, if_pos c6])), trivial⟩, hS.F ht⟩) hS.2.2 dX0_doublings_34
      · skip
        refine lv_lload_n hx hb dX0_doublings_9 rfl (lv_at hl 0 rfl) ?_
        refine lv_iload_n hx hb dX0_doublings_10 rfl (lv_at hl 1 rfl) ?_
        refine lv_lshl hx hb dX0_doublings_11 rfl ?_
        refine lv_lconst (v := 1) hx hb dX0_doublings_12 rfl ?_
        refine lv_bipush (v := 53) hx hb dX0_doublings_13 (by decide) ?_
        refine lv_iload_n hx hb dX0_doublings_15 rfl (lv_at hl 2 rfl) ?_
        refine lv_isub hx hb dX0_doublings_16 ?_
        refine lv_lshl hx hb dX0_doublings_17 rfl ?_
        have J26 : ∀ (v26_2 : Int32) (ls : Array Slot) (H : Heap) (locs : List Loc), lv_has ls 4 [(0, .long p0), (2, .int v26_2), (3, .int v5_3)] → va_S (fun _ => False) s.heap H locs → f_X0_doublings p0 = g_X0_doublings_26 (fun a0 a1 => g_X0_doublings_5 p0 n5 a0 a1) v5_3 v26_2 → W p l e (headSpec wsX0_doublings ({ frames := 0, cells := 0, slots := 0, locals := 0 } : Room)).room s m ([.long p0] : List Value).toArray below meth c H locs 0 0 Q (F0 m 26 ls []) := by
          intro v26_2 ls H locs hl hS hR
          refine lv_iload_n hx hb dX0_doublings_26 rfl (lv_at hl 2 rfl) ?_
          refine lv_iconst (v := 1) hx hb dX0_doublings_27 (by decide) ?_
          refine lv_ishr hx hb dX0_doublings_28 ?_
          refine lv_istore_n (lv' := [(3, .int (v5_3 >>> ((1 : Int32) &&& 31))), (0, .long p0), (2, .int v26_2)]) hx hb dX0_doublings_29 rfl hl (by decide) rfl (fun ls hl => ?_)
          refine lv_goto (tgt := 5) hx hb dX0_doublings_30 (by decide) ?_
          exact ih5 v26_2 (v5_3 >>> ((1 : Int32) &&& 31)) ls _ _ (lv_sub hl [1, 2, 0] rfl) hS (hR.trans (by simp only [g_X0_doublings_26])) (mu_shr c6 hmu5)
        refine W.lcmp hx hb dX0_doublings_18 ?_
        refine lv_if_ge (tgt := 26) hx hb dX0_doublings_19 (by decide) (fun c18 => ?_) (fun c18 => ?_)
        · skip
          have c18 : (((1 : Int64) <<< (((53 - v5_3) : Int32).toInt64 &&& 63)) : Int64) ≤ (p0 <<< ((v5_2 : Int32).toInt64 &&& 63)) := (lg_cmp_ge _ _).mp c18
          exact J26 v5_2 ls _ _ (lv_sub hl [0, 1, 2] rfl) hS (hR.trans (by simp only [g_X0_doublings_5, if_neg c6, if_pos c18]))
        · skip
          have c18 : ¬ ((((1 : Int64) <<< (((53 - v5_3) : Int32).toInt64 &&& 63)) : Int64) ≤ (p0 <<< ((v5_2 : Int32).toInt64 &&& 63))) := fun h => c18 ((lg_cmp_ge _ _).mpr h)
          refine lv_iload_n hx hb dX0_doublings_22 rfl (lv_at hl 1 rfl) ?_
          refine lv_iload_n hx hb dX0_doublings_23 rfl (lv_at hl 2 rfl) ?_
          refine lv_iadd hx hb dX0_doublings_24 ?_
          refine lv_istore_n (lv' := [(2, .int (v5_2 + v5_3)), (0, .long p0), (3, .int v5_3)]) hx hb dX0_doublings_25 rfl hl (by decide) rfl (fun ls hl => ?_)
          exact J26 (v5_2 + v5_3) ls _ _ (lv_sub hl [1, 0, 2] rfl) hS (hR.trans (by simp only [g_X0_doublings_5, if_neg c6, if_neg c18]))
  exact J5 ((32 : Int32).toInt.toNat + 1) 0 32 ls _ _ (lv_sub hl [2, 1, 0] rfl) hS (hR.trans (by simp only [f_X0_doublings])) (Nat.lt_succ_self _)

def g_X0_pack_16n (p0 : Int32) (x16 : Int64) : Int64 := (if (p0 : Int32) = 0 then x16 else (x16 ||| (-9223372036854775808)))
def f_X0_pack (p0 : Int32) (p1 : Int64) (p2 : Int32) : Int64 := (g_X0_pack_16n p0 ((p1 - 4503599627370496) + ((((p2 : Int32).toInt64) + 1075) * 4503599627370496)))
set_option maxHeartbeats 4000000 in
set_option maxRecDepth 100000 in
theorem met_X0_pack (l : Launch) (p0 : Int32) (p1 : Int64) (p2 : Int32) : Met l yX0_pack wsX0_pack ({ frames := 0, cells := 0, slots := 0, locals := 0 } : Room) (va_Pc [.int p0, .long p1, .int p2] (fun U => True)) (va_Ql (fun (r : Int64) (u : Unit) => f_X0_pack p0 p1 p2 = r) (fun _ _ => True) (fun _ => False)) 0 0 (fun _ => False) := by
  refine Met.ofW (cc := cX0_pack) (maxL := 6) (ret := (some .long)) (by decide) rfl ?_
  intro p e s m args below meth c s₁ B hml hv
  obtain ⟨rfl, -⟩ := hv
  have hx := B.exec
  have hb := B.bytes
  have hr := B.returns
  have hts := atoms_spec (ws := wsX0_pack) B.pre
  have hown : s.vm.findClass RX0 = some m.cls := findClass_of_methodNamed B.named
  have hlocks := B.notSynchronized
  have hS : va_S (fun _ => False) s.heap s.heap [] := va_S.rf
  have hl := lv_entry ([.int p0, .long p1, .int p2]) (n := 6) (Nat.le_of_ble_eq_true rfl)
  rw [lg_entry_eq]
  generalize (lg_sl ([.int p0, .long p1, .int p2]) ++ List.replicate (6 - (lg_sl ([.int p0, .long p1, .int p2])).length) Slot.unset).toArray = ls at hl ⊢
  have hl : lv_has ls 6 [(0, .int p0), (1, .long p1), (3, .int p2)] := hl
  obtain ⟨Q, hQ⟩ : ∃ Q : State → Prop, Q = (MQ below (va_Ql (fun (r : Int64) (u : Unit) => f_X0_pack p0 p1 p2 = r) (fun _ _ => True) (fun _ => False)) ([.int p0, .long p1, .int p2] : List Value).toArray s 0 0 (fun _ => False)) := ⟨_, rfl⟩
  rw [← hQ]
  have hR : f_X0_pack p0 p1 p2 = f_X0_pack p0 p1 p2 := rfl
  refine lv_lload_n hx hb dX0_pack_0 rfl (lv_at hl 1 rfl) ?_
  refine lv_ldc2 (v := 4503599627370496) hx hb hown (hts (.constantLong RX0 218 4503599627370496) (by decide +kernel)) dX0_pack_1 ?_
  refine lv_lsub hx hb dX0_pack_4 ?_
  refine lv_iload_n hx hb dX0_pack_5 rfl (lv_at hl 2 rfl) ?_
  refine lv_i2l hx hb dX0_pack_6 rfl ?_
  refine lv_ldc2 (v := 1075) hx hb hown (hts (.constantLong RX0 220 1075) (by decide +kernel)) dX0_pack_7 ?_
  refine lv_ladd hx hb dX0_pack_10 ?_
  refine lv_ldc2 (v := 4503599627370496) hx hb hown (hts (.constantLong RX0 218 4503599627370496) (by decide +kernel)) dX0_pack_11 ?_
  refine lv_lmul hx hb dX0_pack_14 ?_
  refine lv_ladd hx hb dX0_pack_15 ?_
  refine lv_topl (fun x16 ex16 => ?_)
  refine lv_lstore (lv' := [(4, .long x16), (0, .int p0), (1, .long p1), (3, .int p2)]) hx hb dX0_pack_16 hl (by decide) rfl (fun ls hl => ?_)
  have hR : f_X0_pack p0 p1 p2 = g_X0_pack_16n p0 x16 := hR.trans (by simp only [f_X0_pack, ex16])
  refine lv_iload_n hx hb dX0_pack_18 rfl (lv_at hl 1 rfl) ?_
  refine lv_if_eq (tgt := 31) hx hb dX0_pack_19 (by decide) (fun c19 => ?_) (fun c19 => ?_)
  · skip
    refine lv_lload hx hb dX0_pack_31 (lv_at hl 0 rfl) ?_
    rw [hQ]
    exact W.lret (v := x16) hx hb hr (fun t ht hW => ⟨⟨x16, (), rfl, (hR.trans (by simp only [g_X0_pack_16n, if_pos c19])), trivial⟩, hS.F ht⟩) hS.2.2 dX0_pack_33
  · skip
    refine lv_lload hx hb dX0_pack_22 (lv_at hl 0 rfl) ?_
    refine lv_ldc2 (v := (-9223372036854775808)) hx hb hown (hts (.constantLong RX0 216 (-9223372036854775808)) (by decide +kernel)) dX0_pack_24 ?_
    refine lv_lor hx hb dX0_pack_27 ?_
    refine lv_goto (tgt := 33) hx hb dX0_pack_28 (by decide) ?_
    rw [hQ]
    exact W.lret (v := (x16 ||| (-9223372036854775808))) hx hb hr (fun t ht hW => ⟨⟨(x16 ||| (-9223372036854775808)), (), rfl, (hR.trans (by simp only [g_X0_pack_16n, if_neg c19])), trivial⟩, hS.F ht⟩) hS.2.2 dX0_pack_33

def g_X0_bitsOf_21 (p1 : Int64) (p2 : Int32) (w21_0 : Int32) : Int64 := (f_X0_pack w21_0 (p1 <<< (((f_X0_doublings p1) : Int32).toInt64 &&& 63)) (p2 - (f_X0_doublings p1)))
def f_X0_bitsOf (p0 : Int32) (p1 : Int64) (p2 : Int32) : Int64 := (if (p0 : Int32) = 0 then 0 else (if (0 : Int32) ≤ p0 then (g_X0_bitsOf_21 p1 p2 0) else (g_X0_bitsOf_21 p1 p2 1)))
set_option maxHeartbeats 4000000 in
set_option maxRecDepth 100000 in
theorem met_X0_bitsOf (l : Launch) (p0 : Int32) (p1 : Int64) (p2 : Int32) : Met l yX0_bitsOf wsX0_bitsOf ({ frames := 1, cells := 0, slots := 0, locals := 25 } : Room) (va_Pc [.int p0, .long p1, .int p2] (fun U => True)) (va_Ql (fun (r : Int64) (u : Unit) => f_X0_bitsOf p0 p1 p2 = r) (fun _ _ => True) (fun _ => False)) 0 0 (fun _ => False) := by
  refine Met.ofW (cc := cX0_bitsOf) (maxL := 5) (ret := (some .long)) (by decide) rfl ?_
  intro p e s m args below meth c s₁ B hml hv
  obtain ⟨rfl, -⟩ := hv
  have hx := B.exec
  have hb := B.bytes
  have hr := B.returns
  have hts := atoms_spec (ws := wsX0_bitsOf) B.pre
  have hown : s.vm.findClass RX0 = some m.cls := findClass_of_methodNamed B.named
  have hlocks := B.notSynchronized
  have hS : va_S (fun _ => False) s.heap s.heap [] := va_S.rf
  have hl := lv_entry ([.int p0, .long p1, .int p2]) (n := 5) (Nat.le_of_ble_eq_true rfl)
  rw [lg_entry_eq]
  generalize (lg_sl ([.int p0, .long p1, .int p2]) ++ List.replicate (5 - (lg_sl ([.int p0, .long p1, .int p2])).length) Slot.unset).toArray = ls at hl ⊢
  have hl : lv_has ls 5 [(0, .int p0), (1, .long p1), (3, .int p2)] := hl
  obtain ⟨Q, hQ⟩ : ∃ Q : State → Prop, Q = (MQ below (va_Ql (fun (r : Int64) (u : Unit) => f_X0_bitsOf p0 p1 p2 = r) (fun _ _ => True) (fun _ => False)) ([.int p0, .long p1, .int p2] : List Value).toArray s 0 0 (fun _ => False)) := ⟨_, rfl⟩
  rw [← hQ]
  have hR : f_X0_bitsOf p0 p1 p2 = f_X0_bitsOf p0 p1 p2 := rfl
  refine lv_iload_n hx hb dX0_bitsOf_0 rfl (lv_at hl 0 rfl) ?_
  refine lv_if_ne (tgt := 6) hx hb dX0_bitsOf_1 (by decide) (fun c1 => ?_) (fun c1 => ?_)
  · skip
    refine lv_lload_n hx hb dX0_bitsOf_6 rfl (lv_at hl 1 rfl) ?_
    refine va_calli (va_runS (As := [.long p1]) (rest := []) ⟨hx, hb, hml, hown, hts⟩ (met_X0_doublings l p1) (va_cwS 1 hts gX0_bitsOf_X0_doublings rfl rfl rfl (by decide +kernel) ⟨Nat.le_of_ble_eq_true rfl, Nat.le_of_ble_eq_true rfl⟩) ⟨fun a U g mk q => q, fun U hU hW => ⟨rfl, trivial⟩⟩ rfl rfl hl.1 rfl (lv_room (Nat.le_of_ble_eq_true rfl)) dX0_bitsOf_7 ⟨Nat.le_of_ble_eq_true rfl, Nat.le_of_ble_eq_true rfl⟩) hS (fun q _ h => h.elim) (fun q h => h.elim) (fun r7 u7 t H locs ht hvm hw7 hB hz hk hS => ?_)
    subst hw7
    refine lv_istore (lv' := [(4, .int (f_X0_doublings p1)), (0, .int p0), (1, .long p1), (3, .int p2)]) hx hb dX0_bitsOf_10 hl (by decide) rfl (fun ls hl => ?_)
    refine lv_iload_n hx hb dX0_bitsOf_12 rfl (lv_at hl 1 rfl) ?_
    have J21 : ∀ (w21_0 : Int32) (ls : Array Slot) (H : Heap) (locs : List Loc), lv_has ls 5 [(0, .int p0), (1, .long p1), (3, .int p2), (4, .int (f_X0_doublings p1))] → va_S (fun _ => False) s.heap H locs → (w21_0 = 0 ∨ w21_0 = 1) → f_X0_bitsOf p0 p1 p2 = g_X0_bitsOf_21 p1 p2 w21_0 → W p l e (headSpec wsX0_bitsOf ({ frames := 1, cells := 0, slots := 0, locals := 25 } : Room)).room s m ([.int p0, .long p1, .int p2] : List Value).toArray below meth c H locs 0 0 Q (F0 m 21 ls [.int w21_0]) := by
      intro w21_0 ls H locs hl hS hb_w21_0 hR
      refine lv_lload_n hx hb dX0_bitsOf_21 rfl (lv_at hl 1 rfl) ?_
      refine lv_iload hx hb dX0_bitsOf_22 (lv_at hl 3 rfl) ?_
      refine lv_lshl hx hb dX0_bitsOf_24 rfl ?_
      refine lv_iload_n hx hb dX0_bitsOf_25 rfl (lv_at hl 2 rfl) ?_
      refine lv_iload hx hb dX0_bitsOf_26 (lv_at hl 3 rfl) ?_
      refine lv_isub hx hb dX0_bitsOf_28 ?_
      refine va_calll (va_runS (As := [.int w21_0, .long (p1 <<< (((f_X0_doublings p1) : Int32).toInt64 &&& 63)), .int (p2 - (f_X0_doublings p1))]) (rest := []) ⟨hx, hb, hml, hown, hts⟩ (met_X0_pack l w21_0 (p1 <<< (((f_X0_doublings p1) : Int32).toInt64 &&& 63)) (p2 - (f_X0_doublings p1))) (va_cwS 3 hts gX0_bitsOf_X0_pack rfl rfl rfl (by decide +kernel) ⟨Nat.le_of_ble_eq_true rfl, Nat.le_of_ble_eq_true rfl⟩) ⟨fun a U g mk q => q, fun U hU hW => ⟨rfl, trivial⟩⟩ rfl rfl hl.1 rfl (lv_room (Nat.le_of_ble_eq_true rfl)) dX0_bitsOf_29 ⟨Nat.le_of_ble_eq_true rfl, Nat.le_of_ble_eq_true rfl⟩) hS (fun q _ h => h.elim) (fun q h => h.elim) (fun r29 u29 t H locs ht hvm hw29 hB hz hk hS => ?_)
      subst hw29
      rw [hQ]
      exact W.lret (v := (f_X0_pack w21_0 (p1 <<< (((f_X0_doublings p1) : Int32).toInt64 &&& 63)) (p2 - (f_X0_doublings p1)))) hx hb hr (fun t ht hW => ⟨⟨(f_X0_pack w21_0 (p1 <<< (((f_X0_doublings p1) : Int32).toInt64 &&& 63)) (p2 - (f_X0_doublings p1))), (), rfl, (hR.trans (by simp only [g_X0_bitsOf_21])), trivial⟩, hS.F ht⟩) hS.2.2 dX0_bitsOf_32
    refine lv_if_ge (tgt := 20) hx hb dX0_bitsOf_13 (by decide) (fun c13 => ?_) (fun c13 => ?_)
    · skip
      refine lv_iconst (v := 0) hx hb dX0_bitsOf_20 (by decide) ?_
      exact J21 0 ls _ _ (lv_sub hl [1, 2, 3, 0] rfl) hS (Or.inl rfl) (hR.trans (by simp only [f_X0_bitsOf, if_neg c1, if_pos c13]))
    · skip
      refine lv_iconst (v := 1) hx hb dX0_bitsOf_16 (by decide) ?_
      refine lv_goto (tgt := 21) hx hb dX0_bitsOf_17 (by decide) ?_
      exact J21 1 ls _ _ (lv_sub hl [1, 2, 3, 0] rfl) hS (Or.inr rfl) (hR.trans (by simp only [f_X0_bitsOf, if_neg c1, if_neg c13]))
  · skip
    refine lv_lconst (v := 0) hx hb dX0_bitsOf_4 rfl ?_
    rw [hQ]
    exact W.lret (v := 0) hx hb hr (fun t ht hW => ⟨⟨0, (), rfl, (hR.trans (by simp only [f_X0_bitsOf, if_pos c1])), trivial⟩, hS.F ht⟩) hS.2.2 dX0_bitsOf_5

def f_X0_powerBits (p0 : Int32) (p1 : Int32) : Int64 := (f_X0_bitsOf (f_X0_powerSign (f_X0_signOf p0) p1) (f_X0_powerOdd (f_X0_oddOf p0) p1) ((f_X0_shiftOf p0) * p1))
set_option maxHeartbeats 4000000 in
set_option maxRecDepth 100000 in
theorem met_X0_powerBits (l : Launch) (p0 : Int32) (p1 : Int32) : Met l yX0_powerBits wsX0_powerBits ({ frames := 2, cells := 0, slots := 0, locals := 49 } : Room) (va_Pc [.int p0, .int p1] (fun U => True)) (va_Ql (fun (r : Int64) (u : Unit) => f_X0_powerBits p0 p1 = r) (fun _ _ => True) (fun _ => False)) 0 0 (fun _ => False) := by
  refine Met.ofW (cc := cX0_powerBits) (maxL := 2) (ret := (some .long)) (by decide) rfl ?_
  intro p e s m args below meth c s₁ B hml hv
  obtain ⟨rfl, -⟩ := hv
  have hx := B.exec
  have hb := B.bytes
  have hr := B.returns
  have hts := atoms_spec (ws := wsX0_powerBits) B.pre
  have hown : s.vm.findClass RX0 = some m.cls := findClass_of_methodNamed B.named
  have hlocks := B.notSynchronized
  have hS : va_S (fun _ => False) s.heap s.heap [] := va_S.rf
  have hl := lv_entry ([.int p0, .int p1]) (n := 2) (Nat.le_of_ble_eq_true rfl)
  rw [lg_entry_eq]
  generalize (lg_sl ([.int p0, .int p1]) ++ List.replicate (2 - (lg_sl ([.int p0, .int p1])).length) Slot.unset).toArray = ls at hl ⊢
  have hl : lv_has ls 2 [(0, .int p0), (1, .int p1)] := hl
  obtain ⟨Q, hQ⟩ : ∃ Q : State → Prop, Q = (MQ below (va_Ql (fun (r : Int64) (u : Unit) => f_X0_powerBits p0 p1 = r) (fun _ _ => True) (fun _ => False)) ([.int p0, .int p1] : List Value).toArray s 0 0 (fun _ => False)) := ⟨_, rfl⟩
  rw [← hQ]
  have hR : f_X0_powerBits p0 p1 = f_X0_powerBits p0 p1 := rfl
  refine lv_iload_n hx hb dX0_powerBits_0 rfl (lv_at hl 0 rfl) ?_
  refine va_calli (va_runS (As := [.int p0]) (rest := []) ⟨hx, hb, hml, hown, hts⟩ (met_X0_signOf l p0) (va_cwS 1 hts gX0_powerBits_X0_signOf rfl rfl rfl (by decide +kernel) ⟨Nat.le_of_ble_eq_true rfl, Nat.le_of_ble_eq_true rfl⟩) ⟨fun a U g mk q => q, fun U hU hW => ⟨rfl, trivial⟩⟩ rfl rfl hl.1 rfl (lv_room (Nat.le_of_ble_eq_true rfl)) dX0_powerBits_1 ⟨Nat.le_of_ble_eq_true rfl, Nat.le_of_ble_eq_true rfl⟩) hS (fun q _ h => h.elim) (fun q h => h.elim) (fun r1 u1 t H locs ht hvm hw1 hB hz hk hS => ?_)
  subst hw1
  refine lv_iload_n hx hb dX0_powerBits_4 rfl (lv_at hl 1 rfl) ?_
  refine va_calli (va_runS (As := [.int (f_X0_signOf p0), .int p1]) (rest := []) ⟨hx, hb, hml, hown, hts⟩ (met_X0_powerSign l (f_X0_signOf p0) p1) (va_cwS 2 hts gX0_powerBits_X0_powerSign rfl rfl rfl (by decide +kernel) ⟨Nat.le_of_ble_eq_true rfl, Nat.le_of_ble_eq_true rfl⟩) ⟨fun a U g mk q => q, fun U hU hW => ⟨rfl, trivial⟩⟩ rfl rfl hl.1 rfl (lv_room (Nat.le_of_ble_eq_true rfl)) dX0_powerBits_5 ⟨Nat.le_of_ble_eq_true rfl, Nat.le_of_ble_eq_true rfl⟩) hS (fun q _ h => h.elim) (fun q h => h.elim) (fun r5 u5 t H locs ht hvm hw5 hB hz hk hS => ?_)
  subst hw5
  refine lv_iload_n hx hb dX0_powerBits_8 rfl (lv_at hl 0 rfl) ?_
  refine va_calll (va_runS (As := [.int p0]) (rest := [.int (f_X0_powerSign (f_X0_signOf p0) p1)]) ⟨hx, hb, hml, hown, hts⟩ (met_X0_oddOf l p0) (va_cwS 1 hts gX0_powerBits_X0_oddOf rfl rfl rfl (by decide +kernel) ⟨Nat.le_of_ble_eq_true rfl, Nat.le_of_ble_eq_true rfl⟩) ⟨fun a U g mk q => q, fun U hU hW => ⟨rfl, trivial⟩⟩ rfl rfl hl.1 rfl (lv_room (Nat.le_of_ble_eq_true rfl)) dX0_powerBits_9 ⟨Nat.le_of_ble_eq_true rfl, Nat.le_of_ble_eq_true rfl⟩) hS (fun q _ h => h.elim) (fun q h => h.elim) (fun r9 u9 t H locs ht hvm hw9 hB hz hk hS => ?_)
  subst hw9
  refine lv_iload_n hx hb dX0_powerBits_12 rfl (lv_at hl 1 rfl) ?_
  refine va_calll (va_runS (As := [.long (f_X0_oddOf p0), .int p1]) (rest := [.int (f_X0_powerSign (f_X0_signOf p0) p1)]) ⟨hx, hb, hml, hown, hts⟩ (met_X0_powerOdd l (f_X0_oddOf p0) p1) (va_cwS 2 hts gX0_powerBits_X0_powerOdd rfl rfl rfl (by decide +kernel) ⟨Nat.le_of_ble_eq_true rfl, Nat.le_of_ble_eq_true rfl⟩) ⟨fun a U g mk q => q, fun U hU hW => ⟨rfl, trivial⟩⟩ rfl rfl hl.1 rfl (lv_room (Nat.le_of_ble_eq_true rfl)) dX0_powerBits_13 ⟨Nat.le_of_ble_eq_true rfl, Nat.le_of_ble_eq_true rfl⟩) hS (fun q _ h => h.elim) (fun q h => h.elim) (fun r13 u13 t H locs ht hvm hw13 hB hz hk hS => ?_)
  subst hw13
  refine lv_iload_n hx hb dX0_powerBits_16 rfl (lv_at hl 0 rfl) ?_
  refine va_calli (va_runS (As := [.int p0]) (rest := [.long (f_X0_powerOdd (f_X0_oddOf p0) p1), .int (f_X0_powerSign (f_X0_signOf p0) p1)]) ⟨hx, hb, hml, hown, hts⟩ (met_X0_shiftOf l p0) (va_cwS 1 hts gX0_powerBits_X0_shiftOf rfl rfl rfl (by decide +kernel) ⟨Nat.le_of_ble_eq_true rfl, Nat.le_of_ble_eq_true rfl⟩) ⟨fun a U g mk q => q, fun U hU hW => ⟨rfl, trivial⟩⟩ rfl rfl hl.1 rfl (lv_room (Nat.le_of_ble_eq_true rfl)) dX0_powerBits_17 ⟨Nat.le_of_ble_eq_true rfl, Nat.le_of_ble_eq_true rfl⟩) hS (fun q _ h => h.elim) (fun q h => h.elim) (fun r17 u17 t H locs ht hvm hw17 hB hz hk hS => ?_)
  subst hw17
  refine lv_iload_n hx hb dX0_powerBits_20 rfl (lv_at hl 1 rfl) ?_
  refine lv_imul hx hb dX0_powerBits_21 ?_
  refine va_calll (va_runS (As := [.int (f_X0_powerSign (f_X0_signOf p0) p1), .long (f_X0_powerOdd (f_X0_oddOf p0) p1), .int ((f_X0_shiftOf p0) * p1)]) (rest := []) ⟨hx, hb, hml, hown, hts⟩ (met_X0_bitsOf l (f_X0_powerSign (f_X0_signOf p0) p1) (f_X0_powerOdd (f_X0_oddOf p0) p1) ((f_X0_shiftOf p0) * p1)) (va_cwS 3 hts gX0_powerBits_X0_bitsOf rfl rfl rfl (by decide +kernel) ⟨Nat.le_of_ble_eq_true rfl, Nat.le_of_ble_eq_true rfl⟩) ⟨fun a U g mk q => q, fun U hU hW => ⟨rfl, trivial⟩⟩ rfl rfl hl.1 rfl (lv_room (Nat.le_of_ble_eq_true rfl)) dX0_powerBits_22 ⟨Nat.le_of_ble_eq_true rfl, Nat.le_of_ble_eq_true rfl⟩) hS (fun q _ h => h.elim) (fun q h => h.elim) (fun r22 u22 t H locs ht hvm hw22 hB hz hk hS => ?_)
  subst hw22
  rw [hQ]
  exact W.lret (v := (f_X0_bitsOf (f_X0_powerSign (f_X0_signOf p0) p1) (f_X0_powerOdd (f_X0_oddOf p0) p1) ((f_X0_shiftOf p0) * p1))) hx hb hr (fun t ht hW => ⟨⟨(f_X0_bitsOf (f_X0_powerSign (f_X0_signOf p0) p1) (f_X0_powerOdd (f_X0_oddOf p0) p1) ((f_X0_shiftOf p0) * p1)), (), rfl, (hR.trans (by simp only [f_X0_powerBits])), trivial⟩, hS.F ht⟩) hS.2.2 dX0_powerBits_25

def g_X0_floorRoot_32 (rec8 : Int64 → Int64 → Int32 → Int64) (v8_2 : Int64) (v8_4 : Int64) (v8_6 : Int32) (w32_0 : Int32) : Int64 := (if (((v8_4 * 4) + ((w32_0 : Int32).toInt64)) : Int64) < ((v8_2 * 4) + 1) then (rec8 (v8_2 * 2) ((v8_4 * 4) + ((w32_0 : Int32).toInt64)) (v8_6 + (-1))) else (rec8 ((v8_2 * 2) + 1) (((v8_4 * 4) + ((w32_0 : Int32).toInt64)) - ((v8_2 * 4) + 1)) (v8_6 + (-1))))
def g_X0_floorRoot_8 (p0 : Int32) (p1 : Int32) : Nat → Int64 → Int64 → Int32 → Int64
  | 0, _, _, _ => 0
  | n + 1, v8_2, v8_4, v8_6 => (if (v8_6 : Int32) < (-p1) then v8_2 else (if (v8_6 : Int32) < 0 then (g_X0_floorRoot_32 (fun a0 a1 a2 => g_X0_floorRoot_8 p0 p1 n a0 a1 a2) v8_2 v8_4 v8_6 0) else (g_X0_floorRoot_32 (fun a0 a1 a2 => g_X0_floorRoot_8 p0 p1 n a0 a1 a2) v8_2 v8_4 v8_6 ((p0 >>> ((2 * v8_6) &&& 31)) &&& 3))))
def f_X0_floorRoot (p0 : Int32) (p1 : Int32) : Int64 := (g_X0_floorRoot_8 p0 p1 (((5 : Int32).toInt - (-p1 : Int32).toInt + 1).toNat + 1) 0 0 5)
set_option maxHeartbeats 4000000 in
set_option maxRecDepth 100000 in
theorem met_X0_floorRoot (l : Launch) (p0 : Int32) (p1 : Int32) (h1 : -2147483648 < (-p1 : Int32).toInt) : Met l yX0_floorRoot wsX0_floorRoot ({ frames := 0, cells := 0, slots := 0, locals := 0 } : Room) (va_Pc [.int p0, .int p1] (fun U => True)) (va_Ql (fun (r : Int64) (u : Unit) => f_X0_floorRoot p0 p1 = r) (fun _ _ => True) (fun _ => False)) 0 0 (fun _ => False) := by
  refine Met.ofW (cc := cX0_floorRoot) (maxL := 10) (ret := (some .long)) (by decide) rfl ?_
  intro p e s m args below meth c s₁ B hml hv
  obtain ⟨rfl, -⟩ := hv
  have hx := B.exec
  have hb := B.bytes
  have hr := B.returns
  have hts := atoms_spec (ws := wsX0_floorRoot) B.pre
  have hown : s.vm.findClass RX0 = some m.cls := findClass_of_methodNamed B.named
  have hlocks := B.notSynchronized
  have hS : va_S (fun _ => False) s.heap s.heap [] := va_S.rf
  have hl := lv_entry ([.int p0, .int p1]) (n := 10) (Nat.le_of_ble_eq_true rfl)
  rw [lg_entry_eq]
  generalize (lg_sl ([.int p0, .int p1]) ++ List.replicate (10 - (lg_sl ([.int p0, .int p1])).length) Slot.unset).toArray = ls at hl ⊢
  have hl : lv_has ls 10 [(0, .int p0), (1, .int p1)] := hl
  obtain ⟨Q, hQ⟩ : ∃ Q : State → Prop, Q = (MQ below (va_Ql (fun (r : Int64) (u : Unit) => f_X0_floorRoot p0 p1 = r) (fun _ _ => True) (fun _ => False)) ([.int p0, .int p1] : List Value).toArray s 0 0 (fun _ => False)) := ⟨_, rfl⟩
  rw [← hQ]
  have hR : f_X0_floorRoot p0 p1 = f_X0_floorRoot p0 p1 := rfl
  refine lv_lconst (v := 0) hx hb dX0_floorRoot_0 rfl ?_
  refine lv_lstore_n (lv' := [(2, .long 0), (0, .int p0), (1, .int p1)]) hx hb dX0_floorRoot_1 rfl hl (by decide) rfl (fun ls hl => ?_)
  refine lv_lconst (v := 0) hx hb dX0_floorRoot_2 rfl ?_
  refine lv_lstore (lv' := [(4, .long 0), (2, .long 0), (0, .int p0), (1, .int p1)]) hx hb dX0_floorRoot_3 hl (by decide) rfl (fun ls hl => ?_)
  refine lv_iconst (v := 5) hx hb dX0_floorRoot_5 (by decide) ?_
  refine lv_istore (lv' := [(6, .int 5), (4, .long 0), (2, .long 0), (0, .int p0), (1, .int p1)]) hx hb dX0_floorRoot_6 hl (by decide) rfl (fun ls hl => ?_)
  have J8 : ∀ (n8 : Nat) (v8_2 : Int64) (v8_4 : Int64) (v8_6 : Int32) (ls : Array Slot) (H : Heap) (locs : List Loc), lv_has ls 10 [(0, .int p0), (1, .int p1), (2, .long v8_2), (4, .long v8_4), (6, .int v8_6)] → va_S (fun _ => False) s.heap H locs → f_X0_floorRoot p0 p1 = g_X0_floorRoot_8 p0 p1 n8 v8_2 v8_4 v8_6 → (v8_6.toInt - (-p1 : Int32).toInt + 1).toNat < n8 → W p l e (headSpec wsX0_floorRoot ({ frames := 0, cells := 0, slots := 0, locals := 0 } : Room)).room s m ([.int p0, .int p1] : List Value).toArray below meth c H locs 0 0 Q (F0 m 8 ls []) := by
    intro n8
    induction n8 with
    | zero => intro v8_2 v8_4 v8_6 ls H locs hl hS hR hmu8; exact absurd hmu8 (Nat.not_lt_zero _)
    | succ n8 ih8 =>
      intro v8_2 v8_4 v8_6 ls H locs hl hS hR hmu8
      refine lv_iload hx hb dX0_floorRoot_8 (lv_at hl 4 rfl) ?_
      refine lv_iload_n hx hb dX0_floorRoot_10 rfl (lv_at hl 1 rfl) ?_
      refine lv_ineg hx hb dX0_floorRoot_11 ?_
      refine lv_icmp_lt (tgt := 86) hx hb dX0_floorRoot_12 (by decide) (fun c12 => ?_) (fun c12 => ?_)
      · skip
        refine lv_lload_n hx hb dX0_floorRoot_86 rfl (lv_at hl 2 rfl) ?_
        rw [hQ]
        exact W.lret (v := v8_2) hx hb hr (fun t ht hW => ⟨⟨v8_2, (), rfl, (hR.trans (by simp only [g_X0_floorRoot_8, if_pos c12])), trivial⟩, hS.F ht⟩) hS.2.2 dX0_floorRoot_87
      · skip
        refine lv_iload hx hb dX0_floorRoot_15 (lv_at hl 4 rfl) ?_
        have J32 : ∀ (w32_0 : Int32) (ls : Array Slot) (H : Heap) (locs : List Loc), lv_has ls 10 [(0, .int p0), (1, .int p1), (2, .long v8_2), (4, .long v8_4), (6, .int v8_6)] → va_S (fun _ => False) s.heap H locs → f_X0_floorRoot p0 p1 = g_X0_floorRoot_32 (fun a0 a1 a2 => g_X0_floorRoot_8 p0 p1 n8 a0 a1 a2) v8_2 v8_4 v8_6 w32_0 → W p l e (headSpec wsX0_floorRoot ({ frames := 0, cells := 0, slots := 0, locals := 0 } : Room)).room s m ([.int p0, .int p1] : List Value).toArray below meth c H locs 0 0 Q (F0 m 32 ls [.int w32_0]) := by
          intro w32_0 ls H locs hl hS hR
          refine lv_istore (lv' := [(7, .int w32_0), (0, .int p0), (1, .int p1), (2, .long v8_2), (4, .long v8_4), (6, .int v8_6)]) hx hb dX0_floorRoot_32 hl (by decide) rfl (fun ls hl => ?_)
          refine lv_lload hx hb dX0_floorRoot_34 (lv_at hl 4 rfl) ?_
          refine lv_ldc2 (v := 4) hx hb hown (hts (.constantLong RX0 244 4) (by decide +kernel)) dX0_floorRoot_36 ?_
          refine lv_lmul hx hb dX0_floorRoot_39 ?_
          refine lv_iload hx hb dX0_floorRoot_40 (lv_at hl 0 rfl) ?_
          refine lv_i2l hx hb dX0_floorRoot_42 rfl ?_
          refine lv_ladd hx hb dX0_floorRoot_43 ?_
          refine lv_lstore (lv' := [(4, .long ((v8_4 * 4) + ((w32_0 : Int32).toInt64))), (7, .int w32_0), (0, .int p0), (1, .int p1), (2, .long v8_2), (6, .int v8_6)]) hx hb dX0_floorRoot_44 hl (by decide) rfl (fun ls hl => ?_)
          refine lv_lload_n hx hb dX0_floorRoot_46 rfl (lv_at hl 4 rfl) ?_
          refine lv_ldc2 (v := 4) hx hb hown (hts (.constantLong RX0 244 4) (by decide +kernel)) dX0_floorRoot_47 ?_
          refine lv_lmul hx hb dX0_floorRoot_50 ?_
          refine lv_lconst (v := 1) hx hb dX0_floorRoot_51 rfl ?_
          refine lv_ladd hx hb dX0_floorRoot_52 ?_
          refine lv_lstore (lv' := [(8, .long ((v8_2 * 4) + 1)), (4, .long ((v8_4 * 4) + ((w32_0 : Int32).toInt64))), (7, .int w32_0), (0, .int p0), (1, .int p1), (2, .long v8_2), (6, .int v8_6)]) hx hb dX0_floorRoot_53 hl (by decide) rfl (fun ls hl => ?_)
          refine lv_lload_n hx hb dX0_floorRoot_55 rfl (lv_at hl 5 rfl) ?_
          refine lv_ldc2 (v := 2) hx hb hown (hts (.constantLong RX0 246 2) (by decide +kernel)) dX0_floorRoot_56 ?_
          refine lv_lmul hx hb dX0_floorRoot_59 ?_
          refine lv_lstore_n (lv' := [(2, .long (v8_2 * 2)), (8, .long ((v8_2 * 4) + 1)), (4, .long ((v8_4 * 4) + ((w32_0 : Int32).toInt64))), (7, .int w32_0), (0, .int p0), (1, .int p1), (6, .int v8_6)]) hx hb dX0_floorRoot_60 rfl hl (by decide) rfl (fun ls hl => ?_)
          refine lv_lload hx hb dX0_floorRoot_61 (lv_at hl 2 rfl) ?_
          refine lv_lload hx hb dX0_floorRoot_63 (lv_at hl 1 rfl) ?_
          refine W.lcmp hx hb dX0_floorRoot_65 ?_
          refine lv_if_lt (tgt := 80) hx hb dX0_floorRoot_66 (by decide) (fun c65 => ?_) (fun c65 => ?_)
          · skip
            have c65 : (((v8_4 * 4) + ((w32_0 : Int32).toInt64)) : Int64) < ((v8_2 * 4) + 1) := (lg_cmp_lt _ _).mp c65
            refine lv_iinc (v := (v8_6 + (-1))) (lv' := [(6, .int (v8_6 + (-1))), (2, .long (v8_2 * 2)), (8, .long ((v8_2 * 4) + 1)), (4, .long ((v8_4 * 4) + ((w32_0 : Int32).toInt64))), (7, .int w32_0), (0, .int p0), (1, .int p1)]) hx hb dX0_floorRoot_80 hl (k := 6) rfl (by rfl) (by decide) rfl (fun ls hl => ?_)
            refine lv_goto (tgt := 8) hx hb dX0_floorRoot_83 (by decide) ?_
            exact ih8 (v8_2 * 2) ((v8_4 * 4) + ((w32_0 : Int32).toInt64)) (v8_6 + (-1)) ls _ _ (lv_sub hl [5, 6, 1, 3, 0] rfl) hS (hR.trans (by simp only [g_X0_floorRoot_32, if_pos c65])) (mu_dn h1 c12 hmu8)
          · skip
            have c65 : ¬ ((((v8_4 * 4) + ((w32_0 : Int32).toInt64)) : Int64) < ((v8_2 * 4) + 1)) := fun h => c65 ((lg_cmp_lt _ _).mpr h)
            refine lv_lload hx hb dX0_floorRoot_69 (lv_at hl 2 rfl) ?_
            refine lv_lload hx hb dX0_floorRoot_71 (lv_at hl 1 rfl) ?_
            refine lv_lsub hx hb dX0_floorRoot_73 ?_
            refine lv_lstore (lv' := [(4, .long (((v8_4 * 4) + ((w32_0 : Int32).toInt64)) - ((v8_2 * 4) + 1))), (2, .long (v8_2 * 2)), (8, .long ((v8_2 * 4) + 1)), (7, .int w32_0), (0, .int p0), (1, .int p1), (6, .int v8_6)]) hx hb dX0_floorRoot_74 hl (by decide) rfl (fun ls hl => ?_)
            refine lv_lload_n hx hb dX0_floorRoot_76 rfl (lv_at hl 1 rfl) ?_
            refine lv_lconst (v := 1) hx hb dX0_floorRoot_77 rfl ?_
            refine lv_ladd hx hb dX0_floorRoot_78 ?_
            refine lv_lstore_n (lv' := [(2, .long ((v8_2 * 2) + 1)), (4, .long (((v8_4 * 4) + ((w32_0 : Int32).toInt64)) - ((v8_2 * 4) + 1))), (8, .long ((v8_2 * 4) + 1)), (7, .int w32_0), (0, .int p0), (1, .int p1), (6, .int v8_6)]) hx hb dX0_floorRoot_79 rfl hl (by decide) rfl (fun ls hl => ?_)
            refine lv_iinc (v := (v8_6 + (-1))) (lv' := [(6, .int (v8_6 + (-1))), (2, .long ((v8_2 * 2) + 1)), (4, .long (((v8_4 * 4) + ((w32_0 : Int32).toInt64)) - ((v8_2 * 4) + 1))), (8, .long ((v8_2 * 4) + 1)), (7, .int w32_0), (0, .int p0), (1, .int p1)]) hx hb dX0_floorRoot_80 hl (k := 6) rfl (by rfl) (by decide) rfl (fun ls hl => ?_)
            refine lv_goto (tgt := 8) hx hb dX0_floorRoot_83 (by decide) ?_
            exact ih8 ((v8_2 * 2) + 1) (((v8_4 * 4) + ((w32_0 : Int32).toInt64)) - ((v8_2 * 4) + 1)) (v8_6 + (-1)) ls _ _ (lv_sub hl [5, 6, 1, 2, 0] rfl) hS (hR.trans (by simp only [g_X0_floorRoot_32, if_neg c65])) (mu_dn h1 c12 hmu8)
        refine lv_if_lt (tgt := 31) hx hb dX0_floorRoot_17 (by decide) (fun c17 => ?_) (fun c17 => ?_)
        · skip
          refine lv_iconst (v := 0) hx hb dX0_floorRoot_31 (by decide) ?_
          exact J32 0 ls _ _ (lv_sub hl [0, 1, 2, 3, 4] rfl) hS (hR.trans (by simp only [g_X0_floorRoot_8, if_neg c12, if_pos c17]))
        · skip
          refine lv_iload_n hx hb dX0_floorRoot_20 rfl (lv_at hl 0 rfl) ?_
          refine lv_iconst (v := 2) hx hb dX0_floorRoot_21 (by decide) ?_
          refine lv_iload hx hb dX0_floorRoot_22 (lv_at hl 4 rfl) ?_
          refine lv_imul hx hb dX0_floorRoot_24 ?_
          refine lv_ishr hx hb dX0_floorRoot_25 ?_
          refine lv_iconst (v := 3) hx hb dX0_floorRoot_26 (by decide) ?_
          refine lv_iand hx hb dX0_floorRoot_27 ?_
          refine lv_goto (tgt := 32) hx hb dX0_floorRoot_28 (by decide) ?_
          exact J32 ((p0 >>> ((2 * v8_6) &&& 31)) &&& 3) ls _ _ (lv_sub hl [0, 1, 2, 3, 4] rfl) hS (hR.trans (by simp only [g_X0_floorRoot_8, if_neg c12, if_neg c17]))
  exact J8 (((5 : Int32).toInt - (-p1 : Int32).toInt + 1).toNat + 1) 0 0 5 ls _ _ (lv_sub hl [3, 4, 2, 1, 0] rfl) hS (hR.trans (by simp only [f_X0_floorRoot])) (Nat.lt_succ_self _)

def g_X0_rootLength_2 (p0 : Int32) : Nat → Int32 → Int32
  | 0, _ => 0
  | n + 1, v2_1 => (if (6 : Int32) ≤ v2_1 then v2_1 else (if ((p0 >>> ((2 * v2_1) &&& 31)) : Int32) ≤ 0 then v2_1 else (g_X0_rootLength_2 p0 n (v2_1 + 1))))
def f_X0_rootLength (p0 : Int32) : Int32 := (g_X0_rootLength_2 p0 (((6 : Int32).toInt - (0 : Int32).toInt).toNat + 1) 0)
set_option maxHeartbeats 4000000 in
set_option maxRecDepth 100000 in
theorem met_X0_rootLength (l : Launch) (p0 : Int32) : Met l yX0_rootLength wsX0_rootLength ({ frames := 0, cells := 0, slots := 0, locals := 0 } : Room) (va_Pc [.int p0] (fun U => True)) (va_Qi (fun (r : Int32) (u : Unit) => f_X0_rootLength p0 = r) (fun _ _ => True) (fun _ => False)) 0 0 (fun _ => False) := by
  refine Met.ofW (cc := cX0_rootLength) (maxL := 2) (ret := (some .int)) (by decide) rfl ?_
  intro p e s m args below meth c s₁ B hml hv
  obtain ⟨rfl, -⟩ := hv
  have hx := B.exec
  have hb := B.bytes
  have hr := B.returns
  have hts := atoms_spec (ws := wsX0_rootLength) B.pre
  have hown : s.vm.findClass RX0 = some m.cls := findClass_of_methodNamed B.named
  have hlocks := B.notSynchronized
  have hS : va_S (fun _ => False) s.heap s.heap [] := va_S.rf
  have hl := lv_entry ([.int p0]) (n := 2) (Nat.le_of_ble_eq_true rfl)
  rw [lg_entry_eq]
  generalize (lg_sl ([.int p0]) ++ List.replicate (2 - (lg_sl ([.int p0])).length) Slot.unset).toArray = ls at hl ⊢
  have hl : lv_has ls 2 [(0, .int p0)] := hl
  obtain ⟨Q, hQ⟩ : ∃ Q : State → Prop, Q = (MQ below (va_Qi (fun (r : Int32) (u : Unit) => f_X0_rootLength p0 = r) (fun _ _ => True) (fun _ => False)) ([.int p0] : List Value).toArray s 0 0 (fun _ => False)) := ⟨_, rfl⟩
  rw [← hQ]
  have hR : f_X0_rootLength p0 = f_X0_rootLength p0 := rfl
  refine lv_iconst (v := 0) hx hb dX0_rootLength_0 (by decide) ?_
  refine lv_istore_n (lv' := [(1, .int 0), (0, .int p0)]) hx hb dX0_rootLength_1 rfl hl (by decide) rfl (fun ls hl => ?_)
  have J2 : ∀ (n2 : Nat) (v2_1 : Int32) (ls : Array Slot) (H : Heap) (locs : List Loc), lv_has ls 2 [(0, .int p0), (1, .int v2_1)] → va_S (fun _ => False) s.heap H locs → f_X0_rootLength p0 = g_X0_rootLength_2 p0 n2 v2_1 → ((6 : Int32).toInt - v2_1.toInt).toNat < n2 → W p l e (headSpec wsX0_rootLength ({ frames := 0, cells := 0, slots := 0, locals := 0 } : Room)).room s m ([.int p0] : List Value).toArray below meth c H locs 0 0 Q (F0 m 2 ls []) := by
    intro n2
    induction n2 with
    | zero => intro v2_1 ls H locs hl hS hR hmu2; exact absurd hmu2 (Nat.not_lt_zero _)
    | succ n2 ih2 =>
      intro v2_1 ls H locs hl hS hR hmu2
      refine lv_iload_n hx hb dX0_rootLength_2 rfl (lv_at hl 1 rfl) ?_
      refine lv_bipush (v := 6) hx hb dX0_rootLength_3 (by decide) ?_
      refine lv_icmp_ge (tgt := 22) hx hb dX0_rootLength_5 (by decide) (fun c5 => ?_) (fun c5 => ?_)
      · skip
        refine lv_iload_n hx hb dX0_rootLength_22 rfl (lv_at hl 1 rfl) ?_
        rw [hQ]
        exact W.iret (v := v2_1) hx hb hr (fun t ht hW => ⟨⟨v2_1, (), rfl, (hR.trans (by simp only [g_X0_rootLength_2, if_pos c5])), trivial⟩, hS.F ht⟩) hS.2.2 dX0_rootLength_23
      · skip
        refine lv_iload_n hx hb dX0_rootLength_8 rfl (lv_at hl 0 rfl) ?_
        refine lv_iconst (v := 2) hx hb dX0_rootLength_9 (by decide) ?_
        refine lv_iload_n hx hb dX0_rootLength_10 rfl (lv_at hl 1 rfl) ?_
        refine lv_imul hx hb dX0_rootLength_11 ?_
        refine lv_ishr hx hb dX0_rootLength_12 ?_
        refine lv_if_le (tgt := 22) hx hb dX0_rootLength_13 (by decide) (fun c13 => ?_) (fun c13 => ?_)
        · skip
          refine lv_iload_n hx hb dX0_rootLength_22 rfl (lv_at hl 1 rfl) ?_
          rw [hQ]
          exact W.iret (v := v2_1) hx hb hr (fun t ht hW => ⟨⟨v2_1, (), rfl, (hR.trans (by simp only [g_X0_rootLength_2, if_neg c5, if_pos c13])), trivial⟩, hS.F ht⟩) hS.2.2 dX0_rootLength_23
        · skip
          refine lv_iinc (v := (v2_1 + 1)) (lv' := [(1, .int (v2_1 + 1)), (0, .int p0)]) hx hb dX0_rootLength_16 hl (k := 1) rfl (by rfl) (by decide) rfl (fun ls hl => ?_)
          refine lv_goto (tgt := 2) hx hb dX0_rootLength_19 (by decide) ?_
          exact ih2 (v2_1 + 1) ls _ _ (lv_sub hl [1, 0] rfl) hS (hR.trans (by simp only [g_X0_rootLength_2, if_neg c5, if_neg c13])) (mu_up c5 hmu2)
  exact J2 (((6 : Int32).toInt - (0 : Int32).toInt).toNat + 1) 0 ls _ _ (lv_sub hl [1, 0] rfl) hS (hR.trans (by simp only [f_X0_rootLength])) (Nat.lt_succ_self _)

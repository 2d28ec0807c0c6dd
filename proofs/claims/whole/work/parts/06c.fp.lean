theorem two_go {p w : Int32} (hp : pOk p) (hl : w = lft p) : ∀ (n : Nat) (v1 v3 : UInt64) (v6 : Int32), twI p v1 v3 v6 → ((10 : Int32).toInt - v6.toInt).toNat < n → g_X0_twoAsDouble_31 w n v1 v3 v6 = tw p.toInt := by
  intro n
  induction n with
  | zero => intro v1 v3 v6 _ h; exact absurd h (Nat.not_lt_zero _)
  | succ n ih =>
    intro v1 v3 v6 hi h
    rw [g_X0_twoAsDouble_31]
    by_cases c : (10 : Int32) ≤ v6
    · rw [if_pos c]
      exact tw_out hp hi c
    · rw [if_neg c]
      by_cases hb : ((w >>> (v6 &&& 31)) &&& 1) = 1
      · rw [if_pos hb]
        unfold g_X0_twoAsDouble_53
        by_cases c9 : (9 : Int32) ≤ v6
        · rw [if_pos c9]
          exact ih _ _ _ (tw_next0 (tw_bit1 hp hi c hl hb).2 c9) (mu_up c h)
        · rw [if_neg c9]
          exact ih _ _ _ (tw_next1 (tw_bit1 hp hi c hl hb).2 hi c9) (mu_up c h)
      · rw [if_neg hb]
        unfold g_X0_twoAsDouble_53
        by_cases c9 : (9 : Int32) ≤ v6
        · rw [if_pos c9]
          exact ih _ _ _ (tw_next0 (tw_bit0 hp hi c hl hb) c9) (mu_up c h)
        · rw [if_neg c9]
          exact ih _ _ _ (tw_next1 (tw_bit0 hp hi c hl hb) hi c9) (mu_up c h)
theorem twoAsDouble_eq {p : Int32} (hp : pOk p) : f_X0_twoAsDouble p = tw p.toInt := by
  unfold f_X0_twoAsDouble g_X0_twoAsDouble_15 g_X0_twoAsDouble_26
  by_cases c : (0 : Int32) ≤ p
  · rw [if_pos c, if_pos c]
    exact two_go hp (by unfold lft; rw [if_pos c]) _ _ _ _ (twI_0 (by unfold fct; rw [if_pos c])) (Nat.lt_succ_self _)
  · rw [if_neg c, if_neg c]
    exact two_go hp (by unfold lft; rw [if_neg c]) _ _ _ _ (twI_0 (by unfold fct; rw [if_neg c])) (Nat.lt_succ_self _)
theorem td_fc {p : Int32} (hp : pOk p) : ∃ s c q, FP.Core.val64 (f_X0_twoAsDouble p) = .fin s c q ∧ c ≠ 0 := by
  rw [twoAsDouble_eq hp]
  exact tw_fc (by have := hp.1; omega) (by have := hp.2; omega)
theorem l2d_fin64 (a : Int64) : fin64 (FP.l2d a) := by
  obtain ⟨c, q, h⟩ := FP.Core.l2d_shape a
  exact ⟨_, c, q, h⟩
theorem c52_fc : ∃ s c q, FP.Core.val64 (4841369599423283200 : UInt64) = .fin s c q ∧ c ≠ 0 := by
  rw [tw_52]
  exact tw_fc (by decide) (by decide)
theorem dneg_nn {x : UInt64} (h : FP.Core.val64 x ≠ .nan) : FP.Core.val64 (FP.dneg x) ≠ .nan := by
  rw [FP.val64_dneg]
  intro e
  apply h
  cases hx : FP.Core.val64 x with
  | nan => rfl
  | inf s => rw [hx] at e; cases e
  | fin s c q => rw [hx] at e; cases e
def exI (w a : Int32) : Prop := -1000 ≤ w.toInt ∧ w.toInt ≤ 1000 ∧ -1000 ≤ a.toInt ∧ a.toInt ≤ 1001
theorem ex_0 : exI (-1000) 1001 := by unfold exI; decide
theorem ex_mid_toInt {w a : Int32} (h : exI w a) : ((w + a) >>> ((1 : Int32) &&& 31)).toInt = (w.toInt + a.toInt) / 2 := by
  obtain ⟨h1, h2, h3, h4⟩ := h
  rw [pk_shr (w + a) ((1 : Int32) &&& 31) 1 (by decide), Int.shiftRight_eq_div_pow, fb_addI (by omega) (by omega)]
  rfl
theorem ex_mid {w a : Int32} (h : exI w a) : pOk ((w + a) >>> ((1 : Int32) &&& 31)) := by
  have e := ex_mid_toInt h
  obtain ⟨h1, h2, h3, h4⟩ := h
  unfold pOk
  rw [e]
  omega
theorem ex_w {w a : Int32} (h : exI w a) : exI ((w + a) >>> ((1 : Int32) &&& 31)) a := ⟨(ex_mid h).1, (ex_mid h).2, h.2.2.1, h.2.2.2⟩
theorem ex_a {w a : Int32} (h : exI w a) : exI w ((w + a) >>> ((1 : Int32) &&& 31)) := ⟨h.1, h.2.1, (ex_mid h).1, by have := (ex_mid h).2; omega⟩

def f_X0_asDouble (p0 : Int32) (p1 : Int64) (p2 : Int32) : UInt64 := (FP.dmul (FP.dmul (FP.i2d p0) (FP.l2d p1)) (f_X0_twoAsDouble p2))
set_option maxHeartbeats 4000000 in
set_option maxRecDepth 100000 in
theorem met_X0_asDouble (l : Launch) (p0 : Int32) (p1 : Int64) (p2 : Int32) (h2 : pOk p2) : Met l yX0_asDouble wsX0_asDouble ({ frames := 1, cells := 0, slots := 0, locals := 26 } : Room) (va_Pc [.int p0, .long p1, .int p2] (fun U => True)) (va_Qd (fun (r : UInt64) (u : Unit) => f_X0_asDouble p0 p1 p2 = r) (fun _ _ => True) (fun _ => False)) 0 0 (fun _ => False) := by
  refine Met.ofW (cc := cX0_asDouble) (maxL := 4) (ret := (some .double)) (by decide) rfl ?_
  intro p e s m args below meth c s₁ B hml hv
  obtain ⟨rfl, -⟩ := hv
  have hx := B.exec
  have hb := B.bytes
  have hr := B.returns
  have hts := atoms_spec (ws := wsX0_asDouble) B.pre
  have hown : s.vm.findClass RX0 = some m.cls := findClass_of_methodNamed B.named
  have hlocks := B.notSynchronized
  have hS : va_S (fun _ => False) s.heap s.heap [] := va_S.rf
  have hl := lv_entry ([.int p0, .long p1, .int p2]) (n := 4) (Nat.le_of_ble_eq_true rfl)
  rw [lg_entry_eq]
  generalize (lg_sl ([.int p0, .long p1, .int p2]) ++ List.replicate (4 - (lg_sl ([.int p0, .long p1, .int p2])).length) Slot.unset).toArray = ls at hl ⊢
  have hl : lv_has ls 4 [(0, .int p0), (1, .long p1), (3, .int p2)] := hl
  obtain ⟨Q, hQ⟩ : ∃ Q : State → Prop, Q = (MQ below (va_Qd (fun (r : UInt64) (u : Unit) => f_X0_asDouble p0 p1 p2 = r) (fun _ _ => True) (fun _ => False)) ([.int p0, .long p1, .int p2] : List Value).toArray s 0 0 (fun _ => False)) := ⟨_, rfl⟩
  rw [← hQ]
  have hR : f_X0_asDouble p0 p1 p2 = f_X0_asDouble p0 p1 p2 := rfl
  refine lv_iload_n hx hb dX0_asDouble_0 rfl (lv_at hl 0 rfl) ?_
  refine lv_i2d hx hb dX0_asDouble_1 ?_
  refine lv_lload_n hx hb dX0_asDouble_2 rfl (lv_at hl 1 rfl) ?_
  refine lv_l2d hx hb dX0_asDouble_3 ?_
  refine lv_dmul hx hb dX0_asDouble_4 (n64_of_val (mul_nn_fin (i2d_fin _) (l2d_fin64 _))) ?_
  refine lv_iload_n hx hb dX0_asDouble_5 rfl (lv_at hl 2 rfl) ?_
  refine va_calld (va_runS (As := [.int p2]) (rest := [.double (FP.dmul (FP.i2d p0) (FP.l2d p1))]) ⟨hx, hb, hml, hown, hts⟩ (met_X0_twoAsDouble l p2 (h2)) (va_cwS 1 hts gX0_asDouble_X0_twoAsDouble rfl rfl rfl (by decide +kernel) ⟨Nat.le_of_ble_eq_true rfl, Nat.le_of_ble_eq_true rfl⟩) ⟨fun a U g mk q => q, fun U hU hW => ⟨rfl, trivial⟩⟩ rfl rfl hl.1 rfl (lv_room (Nat.le_of_ble_eq_true rfl)) dX0_asDouble_6 ⟨Nat.le_of_ble_eq_true rfl, Nat.le_of_ble_eq_true rfl⟩) hS (fun q _ h => h.elim) (fun q h => h.elim) (fun r6 u6 t H locs ht hvm hw6 hB hz hk hS => ?_)
  subst hw6
  refine lv_dmul hx hb dX0_asDouble_9 (n64_of_val (mul_nn (mul_nn_fin (i2d_fin _) (l2d_fin64 _)) (td_fc h2))) ?_
  rw [hQ]
  exact W.dret (v := (FP.dmul (FP.dmul (FP.i2d p0) (FP.l2d p1)) (f_X0_twoAsDouble p2))) hx hb hr (fun t ht hW => ⟨⟨(FP.dmul (FP.dmul (FP.i2d p0) (FP.l2d p1)) (f_X0_twoAsDouble p2)), (), rfl, (hR.trans (by simp only [f_X0_asDouble])), trivial⟩, hS.F ht⟩) hS.2.2 dX0_asDouble_10

def g_X0_exponentOf_11 (p0 : UInt64) : Nat → Int32 → Int32 → Int32 → Int32
  | 0, _, _, _ => 0
  | n + 1, v11_2, v11_3, v11_4 => (if (11 : Int32) ≤ v11_4 then v11_2 else (if ((Op.cmpValue (FP.dcmp p0 (f_X0_twoAsDouble ((v11_2 + v11_3) >>> ((1 : Int32) &&& 31)))) CmpOp.l) : Int32) < 0 then (g_X0_exponentOf_11 p0 n v11_2 ((v11_2 + v11_3) >>> ((1 : Int32) &&& 31)) (v11_4 + 1)) else (g_X0_exponentOf_11 p0 n ((v11_2 + v11_3) >>> ((1 : Int32) &&& 31)) v11_3 (v11_4 + 1))))
def f_X0_exponentOf (p0 : UInt64) : Int32 := (g_X0_exponentOf_11 p0 (((11 : Int32).toInt - (0 : Int32).toInt).toNat + 1) (-1000) 1001 0)
set_option maxHeartbeats 4000000 in
set_option maxRecDepth 100000 in
theorem met_X0_exponentOf (l : Launch) (p0 : UInt64) : Met l yX0_exponentOf wsX0_exponentOf ({ frames := 1, cells := 0, slots := 0, locals := 26 } : Room) (va_Pc [.double p0] (fun U => True)) (va_Qi (fun (r : Int32) (u : Unit) => f_X0_exponentOf p0 = r) (fun _ _ => True) (fun _ => False)) 0 0 (fun _ => False) := by
  refine Met.ofW (cc := cX0_exponentOf) (maxL := 6) (ret := (some .int)) (by decide) rfl ?_
  intro p e s m args below meth c s₁ B hml hv
  obtain ⟨rfl, -⟩ := hv
  have hx := B.exec
  have hb := B.bytes
  have hr := B.returns
  have hts := atoms_spec (ws := wsX0_exponentOf) B.pre
  have hown : s.vm.findClass RX0 = some m.cls := findClass_of_methodNamed B.named
  have hlocks := B.notSynchronized
  have hS : va_S (fun _ => False) s.heap s.heap [] := va_S.rf
  have hl := lv_entry ([.double p0]) (n := 6) (Nat.le_of_ble_eq_true rfl)
  rw [lg_entry_eq]
  generalize (lg_sl ([.double p0]) ++ List.replicate (6 - (lg_sl ([.double p0])).length) Slot.unset).toArray = ls at hl ⊢
  have hl : lv_has ls 6 [(0, .double p0)] := hl
  obtain ⟨Q, hQ⟩ : ∃ Q : State → Prop, Q = (MQ below (va_Qi (fun (r : Int32) (u : Unit) => f_X0_exponentOf p0 = r) (fun _ _ => True) (fun _ => False)) ([.double p0] : List Value).toArray s 0 0 (fun _ => False)) := ⟨_, rfl⟩
  rw [← hQ]
  have hR : f_X0_exponentOf p0 = f_X0_exponentOf p0 := rfl
  refine lv_sipush (v := (-1000)) hx hb dX0_exponentOf_0 (by decide) ?_
  refine lv_istore_n (lv' := [(2, .int (-1000)), (0, .double p0)]) hx hb dX0_exponentOf_3 rfl hl (by decide) rfl (fun ls hl => ?_)
  refine lv_sipush (v := 1001) hx hb dX0_exponentOf_4 (by decide) ?_
  refine lv_istore_n (lv' := [(3, .int 1001), (2, .int (-1000)), (0, .double p0)]) hx hb dX0_exponentOf_7 rfl hl (by decide) rfl (fun ls hl => ?_)
  refine lv_iconst (v := 0) hx hb dX0_exponentOf_8 (by decide) ?_
  refine lv_istore (lv' := [(4, .int 0), (3, .int 1001), (2, .int (-1000)), (0, .double p0)]) hx hb dX0_exponentOf_9 hl (by decide) rfl (fun ls hl => ?_)
  have J11 : ∀ (n11 : Nat) (v11_2 : Int32) (v11_3 : Int32) (v11_4 : Int32) (ls : Array Slot) (H : Heap) (locs : List Loc), lv_has ls 6 [(0, .double p0), (2, .int v11_2), (3, .int v11_3), (4, .int v11_4)] → va_S (fun _ => False) s.heap H locs → f_X0_exponentOf p0 = g_X0_exponentOf_11 p0 n11 v11_2 v11_3 v11_4 → ((11 : Int32).toInt - v11_4.toInt).toNat < n11 → (exI v11_2 v11_3) → W p l e (headSpec wsX0_exponentOf ({ frames := 1, cells := 0, slots := 0, locals := 26 } : Room)).room s m ([.double p0] : List Value).toArray below meth c H locs 0 0 Q (F0 m 11 ls []) := by
    intro n11
    induction n11 with
    | zero => intro v11_2 v11_3 v11_4 ls H locs hl hS hR hmu11 hi11_0; exact absurd hmu11 (Nat.not_lt_zero _)
    | succ n11 ih11 =>
      intro v11_2 v11_3 v11_4 ls H locs hl hS hR hmu11 hi11_0
      refine lv_iload hx hb dX0_exponentOf_11 (lv_at hl 3 rfl) ?_
      refine lv_bipush (v := 11) hx hb dX0_exponentOf_13 (by decide) ?_
      refine lv_icmp_ge (tgt := 50) hx hb dX0_exponentOf_15 (by decide) (fun c15 => ?_) (fun c15 => ?_)
      · skip
        refine lv_iload_n hx hb dX0_exponentOf_50 rfl (lv_at hl 1 rfl) ?_
        rw [hQ]
        exact W.iret (v := v11_2) hx hb hr (fun t ht hW => ⟨⟨v11_2, (), rfl, (hR.trans (by simp only [g_X0_exponentOf_11, if_pos c15])), trivial⟩, hS.F ht⟩) hS.2.2 dX0_exponentOf_51
      · skip
        refine lv_iload_n hx hb dX0_exponentOf_18 rfl (lv_at hl 1 rfl) ?_
        refine lv_iload_n hx hb dX0_exponentOf_19 rfl (lv_at hl 2 rfl) ?_
        refine lv_iadd hx hb dX0_exponentOf_20 ?_
        refine lv_iconst (v := 1) hx hb dX0_exponentOf_21 (by decide) ?_
        refine lv_ishr hx hb dX0_exponentOf_22 ?_
        refine lv_istore (lv' := [(5, .int ((v11_2 + v11_3) >>> ((1 : Int32) &&& 31))), (0, .double p0), (2, .int v11_2), (3, .int v11_3), (4, .int v11_4)]) hx hb dX0_exponentOf_23 hl (by decide) rfl (fun ls hl => ?_)
        refine lv_dload_n hx hb dX0_exponentOf_25 rfl (lv_at hl 1 rfl) ?_
        refine lv_iload hx hb dX0_exponentOf_26 (lv_at hl 0 rfl) ?_
        refine va_calld (va_runS (As := [.int ((v11_2 + v11_3) >>> ((1 : Int32) &&& 31))]) (rest := [.double p0]) ⟨hx, hb, hml, hown, hts⟩ (met_X0_twoAsDouble l ((v11_2 + v11_3) >>> ((1 : Int32) &&& 31)) (ex_mid hi11_0)) (va_cwS 1 hts gX0_exponentOf_X0_twoAsDouble rfl rfl rfl (by decide +kernel) ⟨Nat.le_of_ble_eq_true rfl, Nat.le_of_ble_eq_true rfl⟩) ⟨fun a U g mk q => q, fun U hU hW => ⟨rfl, trivial⟩⟩ rfl rfl hl.1 rfl (lv_room (Nat.le_of_ble_eq_true rfl)) dX0_exponentOf_28 ⟨Nat.le_of_ble_eq_true rfl, Nat.le_of_ble_eq_true rfl⟩) hS (fun q _ h => h.elim) (fun q h => h.elim) (fun r28 u28 t H locs ht hvm hw28 hB hz hk hS => ?_)
        subst hw28
        refine lv_dcmp hx hb dX0_exponentOf_31 ?_
        refine lv_if_lt (tgt := 41) hx hb dX0_exponentOf_32 (by decide) (fun c32 => ?_) (fun c32 => ?_)
        · skip
          refine lv_iload hx hb dX0_exponentOf_41 (lv_at hl 0 rfl) ?_
          refine lv_istore_n (lv' := [(3, .int ((v11_2 + v11_3) >>> ((1 : Int32) &&& 31))), (5, .int ((v11_2 + v11_3) >>> ((1 : Int32) &&& 31))), (0, .double p0), (2, .int v11_2), (4, .int v11_4)]) hx hb dX0_exponentOf_43 rfl hl (by decide) rfl (fun ls hl => ?_)
          refine lv_iinc (v := (v11_4 + 1)) (lv' := [(4, .int (v11_4 + 1)), (3, .int ((v11_2 + v11_3) >>> ((1 : Int32) &&& 31))), (5, .int ((v11_2 + v11_3) >>> ((1 : Int32) &&& 31))), (0, .double p0), (2, .int v11_2)]) hx hb dX0_exponentOf_44 hl (k := 4) rfl (by rfl) (by decide) rfl (fun ls hl => ?_)
          refine lv_goto (tgt := 11) hx hb dX0_exponentOf_47 (by decide) ?_
          exact ih11 v11_2 ((v11_2 + v11_3) >>> ((1 : Int32) &&& 31)) (v11_4 + 1) ls _ _ (lv_sub hl [3, 4, 1, 0] rfl) hS (hR.trans (by simp only [g_X0_exponentOf_11, if_neg c15, if_pos c32])) (mu_up c15 hmu11) (ex_a hi11_0)
        · skip
          refine lv_iload hx hb dX0_exponentOf_35 (lv_at hl 0 rfl) ?_
          refine lv_istore_n (lv' := [(2, .int ((v11_2 + v11_3) >>> ((1 : Int32) &&& 31))), (5, .int ((v11_2 + v11_3) >>> ((1 : Int32) &&& 31))), (0, .double p0), (3, .int v11_3), (4, .int v11_4)]) hx hb dX0_exponentOf_37 rfl hl (by decide) rfl (fun ls hl => ?_)
          refine lv_goto (tgt := 44) hx hb dX0_exponentOf_38 (by decide) ?_
          refine lv_iinc (v := (v11_4 + 1)) (lv' := [(4, .int (v11_4 + 1)), (2, .int ((v11_2 + v11_3) >>> ((1 : Int32) &&& 31))), (5, .int ((v11_2 + v11_3) >>> ((1 : Int32) &&& 31))), (0, .double p0), (3, .int v11_3)]) hx hb dX0_exponentOf_44 hl (k := 4) rfl (by rfl) (by decide) rfl (fun ls hl => ?_)
          refine lv_goto (tgt := 11) hx hb dX0_exponentOf_47 (by decide) ?_
          exact ih11 ((v11_2 + v11_3) >>> ((1 : Int32) &&& 31)) v11_3 (v11_4 + 1) ls _ _ (lv_sub hl [3, 1, 4, 0] rfl) hS (hR.trans (by simp only [g_X0_exponentOf_11, if_neg c15, if_neg c32])) (mu_up c15 hmu11) (ex_w hi11_0)
  exact J11 (((11 : Int32).toInt - (0 : Int32).toInt).toNat + 1) (-1000) 1001 0 ls _ _ (lv_sub hl [3, 2, 1, 0] rfl) hS (hR.trans (by simp only [f_X0_exponentOf])) (Nat.lt_succ_self _) (ex_0)

theorem exponentOf_go (x : UInt64) : ∀ (n : Nat) (w a v : Int32), exI w a → pOk (g_X0_exponentOf_11 x n w a v) := by
  intro n
  induction n with
  | zero =>
    intro w a v _
    rw [g_X0_exponentOf_11]
    exact ⟨by decide, by decide⟩
  | succ n ih =>
    intro w a v h
    rw [g_X0_exponentOf_11]
    repeat' split
    all_goals first
      | exact ⟨h.1, h.2.1⟩
      | exact ih _ _ _ (ex_w h)
      | exact ih _ _ _ (ex_a h)
theorem exponentOf_rng (x : UInt64) : pOk (f_X0_exponentOf x) := exponentOf_go x _ _ _ _ ex_0
theorem ex_neg (x : UInt64) : pOk (-(f_X0_exponentOf x)) := by
  obtain ⟨h1, h2⟩ := exponentOf_rng x
  unfold pOk
  rw [fb_negI (by omega)]
  omega
theorem asD_nn {a c : Int32} {b : Int64} (h : pOk c) : FP.Core.val64 (f_X0_asDouble a b c) ≠ .nan := by
  unfold f_X0_asDouble
  exact mul_nn (mul_nn_fin (i2d_fin _) (l2d_fin64 _)) (td_fc h)
theorem i2d_fc {a : Int32} (h : ¬ a = 0) : ∃ s c q, FP.Core.val64 (FP.i2d a) = .fin s c q ∧ c ≠ 0 := by
  obtain ⟨s, c, q, e⟩ := i2d_fin a
  refine ⟨s, c, q, e, fun hc => h ?_⟩
  have hw := FP.Core.i2d_int a
  unfold FP.Core.DInt at hw
  rw [show FP.Core.val64 (FP.Core.i2d a) = .fin s c q from e, hc] at hw
  have hw2 : FP.Core.signed s (0 * 2 ^ q.toNat) = a.toInt * ((2 ^ (-q).toNat : Nat) : Int) := hw
  rw [Nat.zero_mul, FP.Core.signed_zero] at hw2
  have hp : ((2 ^ (-q).toNat : Nat) : Int) ≠ 0 := by
    have := Nat.two_pow_pos (-q).toNat
    omega
  rcases Int.mul_eq_zero.mp hw2.symm with h1 | h1
  · rw [fa_eq, i0]; exact h1
  · exact absurd h1 hp
def chI (p : Int32) (v : UInt64) : Prop := FP.Core.val64 v ≠ .nan ∧ (p = 0 → ∃ s q, FP.Core.val64 v = .fin s 0 q ∨ v = FP.dconst1)
theorem one_fin : fin64 FP.dconst1 := by rw [tw_one]; exact ⟨_, _, _, tw_val (by decide) (by decide)⟩
theorem ch_0 (p : Int32) : chI p FP.dconst1 := by
  refine ⟨?_, fun _ => ⟨false, 0, Or.inr rfl⟩⟩
  rw [tw_one, tw_val (by decide) (by decide)]
  exact fun e => by cases e
theorem ch_nn {p : Int32} {v : UInt64} (h : chI p v) : FP.Core.val64 (FP.dmul v (FP.i2d p)) ≠ .nan := by
  by_cases hp : p = 0
  · obtain ⟨s, q, h2⟩ := h.2 hp
    refine mul_nn_fin ?_ (i2d_fin p)
    rcases h2 with h2 | h2
    · exact ⟨s, 0, q, h2⟩
    · rw [h2]; exact one_fin
  · exact mul_nn h.1 (i2d_fc hp)
theorem i2d_0 : FP.Core.val64 (FP.Core.i2d 0) = .fin false 0 (-1074) := by decide +kernel
theorem ch_step {p : Int32} {v : UInt64} (h : chI p v) : chI p (FP.dmul v (FP.i2d p)) := by
  refine ⟨ch_nn h, fun hp => ?_⟩
  obtain ⟨s, q, h2⟩ := h.2 hp
  have hv : ∃ s c q, FP.Core.val64 v = .fin s c q := by
    rcases h2 with h2 | h2
    · exact ⟨s, 0, q, h2⟩
    · rw [h2]; exact one_fin
  obtain ⟨s1, c1, q1, h3⟩ := hv
  refine ⟨s1 != false, -1074, Or.inl ?_⟩
  show FP.Core.val64 (FP.Core.dmul v (FP.Core.i2d p)) = _
  rw [FP.Core.val64_dmul, h3, hp, i2d_0]
  show FP.Core.roundRatio FP.Core.b64 (s1 != false) (c1 * 0) 1 (q1 + -1074) = _
  unfold FP.Core.roundRatio
  rw [Nat.mul_zero, if_pos rfl, b64_qmin]
theorem csq_ok {S : pS} {p : Int32} {u : Unit} (h : f_X0_checkSquared S p = .ok u) : pOk ((shS S) p.toNatClampNeg) := by
  unfold f_X0_checkSquared g_X0_checkSquared_21 at h
  have e1 : (-400 : Int32).toInt = -400 := by decide
  have e2 : (400 : Int32).toInt = 400 := by decide
  split at h
  · cases h
  · rename_i c1
    split at h
    · rename_i c2
      rw [fa_lt, e1] at c1
      rw [fa_le, e2] at c2
      exact ⟨by omega, by omega⟩
    · cases h
theorem in8_lt {v : Int32} (h : (0 : Int32) ≤ v) (c : ¬ (8 : Int32) ≤ v) : v.toNatClampNeg < 8 := by
  have h2 := in8 h c
  obtain ⟨j, hj, rfl⟩ := vp_in_of h2 (by decide)
  rw [nI_clamp (by omega)]
  exact hj
theorem bk (k : Nat) (h : k < 129) : ∀ (P : Int32 → Prop) [DecidablePred P], (List.range 129).all (fun i => decide (P (nI i - 64))) = true → P (nI k - 64) := fun P _ h2 => of_decide_eq_true (List.all_eq_true.mp h2 k (List.mem_range.mpr h))
theorem base_of {a : Int32} (h1 : -64 ≤ a.toInt) (h2 : a.toInt ≤ 64) : ∃ k, k < 129 ∧ a = nI k - 64 := by
  refine ⟨(a.toInt + 64).toNat, by omega, ?_⟩
  have e : (64 : Int32).toInt = 64 := by decide
  have e2 : (nI (a.toInt + 64).toNat).toInt = a.toInt + 64 := by rw [nI_toInt (by omega)]; omega
  rw [fa_eq, fb_subI (by rw [e, e2]; omega) (by rw [e, e2]; omega), e, e2]
  omega
theorem shiftOf_le {a : Int32} (h1 : -64 ≤ a.toInt) (h2 : a.toInt ≤ 64) : 0 ≤ (f_X0_shiftOf a).toInt ∧ (f_X0_shiftOf a).toInt ≤ 6 := by
  obtain ⟨k, hk, rfl⟩ := base_of h1 h2
  exact bk k hk (fun a => 0 ≤ (f_X0_shiftOf a).toInt ∧ (f_X0_shiftOf a).toInt ≤ 6) (by decide +kernel)
theorem pad_ok {a e : Int32} (h1 : -64 ≤ a.toInt) (h2 : a.toInt ≤ 64) (h3 : 0 ≤ e.toInt) (h4 : e.toInt ≤ 64) : pOk ((f_X0_shiftOf a) * e) := by
  obtain ⟨h5, h6⟩ := shiftOf_le h1 h2
  have h7 : 0 ≤ (f_X0_shiftOf a).toInt * e.toInt := Int.mul_nonneg h5 h3
  have h8 : (f_X0_shiftOf a).toInt * e.toInt ≤ 6 * 64 := Int.mul_le_mul h6 h4 h3 (by decide)
  unfold pOk
  rw [fb_mulI (by omega) (by omega)]
  omega
theorem cbe_ok {a e : Int32} {u : Unit} (h : f_X0_checkBaseAndExponent a e = .ok u) : -64 ≤ a.toInt ∧ a.toInt ≤ 64 ∧ 0 ≤ e.toInt ∧ e.toInt ≤ 64 := by
  unfold f_X0_checkBaseAndExponent at h
  have e1 : (-64 : Int32).toInt = -64 := by decide
  have e2 : (64 : Int32).toInt = 64 := by decide
  split at h
  · cases h
  · rename_i h1
    split at h
    · cases h
    · rename_i h2
      have h3 := range_in h1
      have h4 := range_in h2
      rw [e1, e2] at h3
      rw [i0, e2] at h4
      exact ⟨h3.1, h3.2, h4.1, h4.2⟩
theorem pad_c {a e : Int32} {u : Unit} (h : f_X0_checkBaseAndExponent a e = .ok u) : pOk ((f_X0_shiftOf a) * e) := pad_ok (cbe_ok h).1 (cbe_ok h).2.1 (cbe_ok h).2.2.1 (cbe_ok h).2.2.2
theorem pad_c2 {a e e2 : Int32} {u u2 : Unit} (h : f_X0_checkBaseAndExponent a e = .ok u) (h2 : f_X0_checkRange e2 0 64 = .ok u2) : pOk ((f_X0_shiftOf a) * e2) := by
  have h3 := range_in h2
  rw [i0, show (64 : Int32).toInt = 64 by decide] at h3
  exact pad_ok (cbe_ok h).1 (cbe_ok h).2.1 h3.1 h3.2

def g_X0_bitsOfDouble_53 (w20_0 : UInt64) (x40 : Int64) (w53_0 : Int32) : Int64 := (f_X0_pack w53_0 x40 ((f_X0_exponentOf w20_0) - 52))
def g_X0_bitsOfDouble_40n (p0 : UInt64) (w20_0 : UInt64) (x40 : Int64) : Int64 := (if (0 : Int32) ≤ (Op.cmpValue (FP.dcmp p0 FP.dconst0) CmpOp.g) then (g_X0_bitsOfDouble_53 w20_0 x40 0) else (g_X0_bitsOfDouble_53 w20_0 x40 1))
def g_X0_bitsOfDouble_20 (p0 : UInt64) (w20_0 : UInt64) : Int64 := (g_X0_bitsOfDouble_40n p0 w20_0 (FP.d2l (FP.dmul (FP.dmul w20_0 (f_X0_twoAsDouble (-(f_X0_exponentOf w20_0)))) 4841369599423283200)))
def f_X0_bitsOfDouble (p0 : UInt64) : Int64 := (if ((Op.cmpValue (FP.dcmp p0 FP.dconst0) CmpOp.l) : Int32) = 0 then 0 else (if (0 : Int32) ≤ (Op.cmpValue (FP.dcmp p0 FP.dconst0) CmpOp.g) then (g_X0_bitsOfDouble_20 p0 p0) else (g_X0_bitsOfDouble_20 p0 (FP.dneg p0))))
set_option maxHeartbeats 4000000 in
set_option maxRecDepth 100000 in
theorem met_X0_bitsOfDouble (l : Launch) (p0 : UInt64) (hn : FP.Core.val64 p0 ≠ .nan) : Met l yX0_bitsOfDouble wsX0_bitsOfDouble ({ frames := 2, cells := 0, slots := 0, locals := 51 } : Room) (va_Pc [.double p0] (fun U => True)) (va_Ql (fun (r : Int64) (u : Unit) => f_X0_bitsOfDouble p0 = r) (fun _ _ => True) (fun _ => False)) 0 0 (fun _ => False) := by
  refine Met.ofW (cc := cX0_bitsOfDouble) (maxL := 7) (ret := (some .long)) (by decide) rfl ?_
  intro p e s m args below meth c s₁ B hml hv
  obtain ⟨rfl, -⟩ := hv
  have hx := B.exec
  have hb := B.bytes
  have hr := B.returns
  have hts := atoms_spec (ws := wsX0_bitsOfDouble) B.pre
  have hown : s.vm.findClass RX0 = some m.cls := findClass_of_methodNamed B.named
  have hlocks := B.notSynchronized
  have hS : va_S (fun _ => False) s.heap s.heap [] := va_S.rf
  have hl := lv_entry ([.double p0]) (n := 7) (Nat.le_of_ble_eq_true rfl)
  rw [lg_entry_eq]
  generalize (lg_sl ([.double p0]) ++ List.replicate (7 - (lg_sl ([.double p0])).length) Slot.unset).toArray = ls at hl ⊢
  have hl : lv_has ls 7 [(0, .double p0)] := hl
  obtain ⟨Q, hQ⟩ : ∃ Q : State → Prop, Q = (MQ below (va_Ql (fun (r : Int64) (u : Unit) => f_X0_bitsOfDouble p0 = r) (fun _ _ => True) (fun _ => False)) ([.double p0] : List Value).toArray s 0 0 (fun _ => False)) := ⟨_, rfl⟩
  rw [← hQ]
  have hR : f_X0_bitsOfDouble p0 = f_X0_bitsOfDouble p0 := rfl
  refine lv_dload_n hx hb dX0_bitsOfDouble_0 rfl (lv_at hl 0 rfl) ?_
  refine lv_dconst0 hx hb dX0_bitsOfDouble_1 ?_
  refine lv_dcmp hx hb dX0_bitsOfDouble_2 ?_
  refine lv_if_ne (tgt := 8) hx hb dX0_bitsOfDouble_3 (by decide) (fun c3 => ?_) (fun c3 => ?_)
  · skip
    refine lv_dload_n hx hb dX0_bitsOfDouble_8 rfl (lv_at hl 0 rfl) ?_
    refine lv_dconst0 hx hb dX0_bitsOfDouble_9 ?_
    refine lv_dcmp hx hb dX0_bitsOfDouble_10 ?_
    have J20 : ∀ (w20_0 : UInt64) (ls : Array Slot) (H : Heap) (locs : List Loc), lv_has ls 7 [(0, .double p0)] → va_S (fun _ => False) s.heap H locs → (FP.Core.val64 w20_0 ≠ .nan) → f_X0_bitsOfDouble p0 = g_X0_bitsOfDouble_20 p0 w20_0 → W p l e (headSpec wsX0_bitsOfDouble ({ frames := 2, cells := 0, slots := 0, locals := 51 } : Room)).room s m ([.double p0] : List Value).toArray below meth c H locs 0 0 Q (F0 m 20 ls [.double w20_0]) := by
      intro w20_0 ls H locs hl hS hj20 hR
      refine lv_dstore_n (lv' := [(2, .double w20_0), (0, .double p0)]) hx hb dX0_bitsOfDouble_20 rfl hl (by decide) rfl (fun ls hl => ?_)
      refine lv_dload_n hx hb dX0_bitsOfDouble_21 rfl (lv_at hl 0 rfl) ?_
      refine va_calli (va_runS (As := [.double w20_0]) (rest := []) ⟨hx, hb, hml, hown, hts⟩ (met_X0_exponentOf l w20_0) (va_cwS 1 hts gX0_bitsOfDouble_X0_exponentOf rfl rfl rfl (by decide +kernel) ⟨Nat.le_of_ble_eq_true rfl, Nat.le_of_ble_eq_true rfl⟩) ⟨fun a U g mk q => q, fun U hU hW => ⟨rfl, trivial⟩⟩ rfl rfl hl.1 rfl (lv_room (Nat.le_of_ble_eq_true rfl)) dX0_bitsOfDouble_22 ⟨Nat.le_of_ble_eq_true rfl, Nat.le_of_ble_eq_true rfl⟩) hS (fun q _ h => h.elim) (fun q h => h.elim) (fun r22 u22 t H locs ht hvm hw22 hB hz hk hS => ?_)
      subst hw22
      refine lv_istore (lv' := [(4, .int (f_X0_exponentOf w20_0)), (2, .double w20_0), (0, .double p0)]) hx hb dX0_bitsOfDouble_25 hl (by decide) rfl (fun ls hl => ?_)
      refine lv_dload_n hx hb dX0_bitsOfDouble_27 rfl (lv_at hl 1 rfl) ?_
      refine lv_iload hx hb dX0_bitsOfDouble_28 (lv_at hl 0 rfl) ?_
      refine lv_ineg hx hb dX0_bitsOfDouble_30 ?_
      refine va_calld (va_runS (As := [.int (-(f_X0_exponentOf w20_0))]) (rest := [.double w20_0]) ⟨hx, hb, hml, hown, hts⟩ (met_X0_twoAsDouble l (-(f_X0_exponentOf w20_0)) (ex_neg _)) (va_cwS 1 hts gX0_bitsOfDouble_X0_twoAsDouble rfl rfl rfl (by decide +kernel) ⟨Nat.le_of_ble_eq_true rfl, Nat.le_of_ble_eq_true rfl⟩) ⟨fun a U g mk q => q, fun U hU hW => ⟨rfl, trivial⟩⟩ rfl rfl hl.1 rfl (lv_room (Nat.le_of_ble_eq_true rfl)) dX0_bitsOfDouble_31 ⟨Nat.le_of_ble_eq_true rfl, Nat.le_of_ble_eq_true rfl⟩) hS (fun q _ h => h.elim) (fun q h => h.elim) (fun r31 u31 t H locs ht hvm hw31 hB hz hk hS => ?_)
      subst hw31
      refine lv_dmul hx hb dX0_bitsOfDouble_34 (n64_of_val (mul_nn hj20 (td_fc (ex_neg _)))) ?_
      refine lv_ldc2d (v := 4841369599423283200) hx hb hown (hts (.constantDouble RX0 242 4841369599423283200) (by decide +kernel)) dX0_bitsOfDouble_35 ?_
      refine lv_dmul hx hb dX0_bitsOfDouble_38 (n64_of_val (mul_nn (mul_nn hj20 (td_fc (ex_neg _))) c52_fc)) ?_
      refine lv_d2l hx hb dX0_bitsOfDouble_39 ?_
      refine lv_topl (fun x40 ex40 => ?_)
      refine lv_lstore (lv' := [(5, .long x40), (4, .int (f_X0_exponentOf w20_0)), (2, .double w20_0), (0, .double p0)]) hx hb dX0_bitsOfDouble_40 hl (by decide) rfl (fun ls hl => ?_)
      have hR : f_X0_bitsOfDouble p0 = g_X0_bitsOfDouble_40n p0 w20_0 x40 := hR.trans (by simp only [g_X0_bitsOfDouble_20, ex40])
      refine lv_dload_n hx hb dX0_bitsOfDouble_42 rfl (lv_at hl 3 rfl) ?_
      refine lv_dconst0 hx hb dX0_bitsOfDouble_43 ?_
      refine lv_dcmp hx hb dX0_bitsOfDouble_44 ?_
      have J53 : ∀ (w53_0 : Int32) (ls : Array Slot) (H : Heap) (locs : List Loc), lv_has ls 7 [(0, .double p0), (2, .double w20_0), (4, .int (f_X0_exponentOf w20_0)), (5, .long x40)] → va_S (fun _ => False) s.heap H locs → (w53_0 = 0 ∨ w53_0 = 1) → f_X0_bitsOfDouble p0 = g_X0_bitsOfDouble_53 w20_0 x40 w53_0 → W p l e (headSpec wsX0_bitsOfDouble ({ frames := 2, cells := 0, slots := 0, locals := 51 } : Room)).room s m ([.double p0] : List Value).toArray below meth c H locs 0 0 Q (F0 m 53 ls [.int w53_0]) := by
        intro w53_0 ls H locs hl hS hb_w53_0 hR
        refine lv_lload hx hb dX0_bitsOfDouble_53 (lv_at hl 3 rfl) ?_
        refine lv_iload hx hb dX0_bitsOfDouble_55 (lv_at hl 2 rfl) ?_
        refine lv_bipush (v := 52) hx hb dX0_bitsOfDouble_57 (by decide) ?_
        refine lv_isub hx hb dX0_bitsOfDouble_59 ?_
        refine va_calll (va_runS (As := [.int w53_0, .long x40, .int ((f_X0_exponentOf w20_0) - 52)]) (rest := []) ⟨hx, hb, hml, hown, hts⟩ (met_X0_pack l w53_0 x40 ((f_X0_exponentOf w20_0) - 52)) (va_cwS 3 hts gX0_bitsOfDouble_X0_pack rfl rfl rfl (by decide +kernel) ⟨Nat.le_of_ble_eq_true rfl, Nat.le_of_ble_eq_true rfl⟩) ⟨fun a U g mk q => q, fun U hU hW => ⟨rfl, trivial⟩⟩ rfl rfl hl.1 rfl (lv_room (Nat.le_of_ble_eq_true rfl)) dX0_bitsOfDouble_60 ⟨Nat.le_of_ble_eq_true rfl, Nat.le_of_ble_eq_true rfl⟩) hS (fun q _ h => h.elim) (fun q h => h.elim) (fun r60 u60 t H locs ht hvm hw60 hB hz hk hS => ?_)
        subst hw60
        rw [hQ]
        exact W.lret (v := (f_X0_pack w53_0 x40 ((f_X0_exponentOf w20_0) - 52))) hx hb hr (fun t ht hW => ⟨⟨(f_X0_pack w53_0 x40 ((f_X0_exponentOf w20_0) - 52)), (), rfl, (hR.trans (by simp only [g_X0_bitsOfDouble_53])), trivial⟩, hS.F ht⟩) hS.2.2 dX0_bitsOfDouble_63
      refine lv_if_ge (tgt := 52) hx hb dX0_bitsOfDouble_45 (by decide) (fun c45 => ?_) (fun c45 => ?_)
      · skip
        refine lv_iconst (v := 0) hx hb dX0_bitsOfDouble_52 (by decide) ?_
        exact J53 0 ls _ _ (lv_sub hl [3, 2, 1, 0] rfl) hS (Or.inl rfl) (hR.trans (by simp only [g_X0_bitsOfDouble_40n, if_pos c45]))
      · skip
        refine lv_iconst (v := 1) hx hb dX0_bitsOfDouble_48 (by decide) ?_
        refine lv_goto (tgt := 53) hx hb dX0_bitsOfDouble_49 (by decide) ?_
        exact J53 1 ls _ _ (lv_sub hl [3, 2, 1, 0] rfl) hS (Or.inr rfl) (hR.trans (by simp only [g_X0_bitsOfDouble_40n, if_neg c45]))
    refine lv_if_ge (tgt := 19) hx hb dX0_bitsOfDouble_11 (by decide) (fun c11 => ?_) (fun c11 => ?_)
    · skip
      refine lv_dload_n hx hb dX0_bitsOfDouble_19 rfl (lv_at hl 0 rfl) ?_
      exact J20 p0 ls _ _ (lv_sub hl [0] rfl) hS (hn) (hR.trans (by simp only [f_X0_bitsOfDouble, if_neg c3, if_pos c11]))
    · skip
      refine lv_dload_n hx hb dX0_bitsOfDouble_14 rfl (lv_at hl 0 rfl) ?_
      refine lv_dneg hx hb dX0_bitsOfDouble_15 ?_
      refine lv_goto (tgt := 20) hx hb dX0_bitsOfDouble_16 (by decide) ?_
      exact J20 (FP.dneg p0) ls _ _ (lv_sub hl [0] rfl) hS (dneg_nn hn) (hR.trans (by simp only [f_X0_bitsOfDouble, if_neg c3, if_neg c11]))
  · skip
    refine lv_lconst (v := 0) hx hb dX0_bitsOfDouble_6 rfl ?_
    rw [hQ]
    exact W.lret (v := 0) hx hb hr (fun t ht hW => ⟨⟨0, (), rfl, (hR.trans (by simp only [f_X0_bitsOfDouble, if_pos c3])), trivial⟩, hS.F ht⟩) hS.2.2 dX0_bitsOfDouble_7

def f_X0_powerAsDouble (p0 : Int32) (p1 : Int32) : UInt64 := (f_X0_asDouble (f_X0_powerSign (f_X0_signOf p0) p1) (f_X0_powerOdd (f_X0_oddOf p0) p1) ((f_X0_shiftOf p0) * p1))
set_option maxHeartbeats 4000000 in
set_option maxRecDepth 100000 in
theorem met_X0_powerAsDouble (l : Launch) (p0 : Int32) (p1 : Int32) (hs : pOk ((f_X0_shiftOf p0) * p1)) : Met l yX0_powerAsDouble wsX0_powerAsDouble ({ frames := 2, cells := 0, slots := 0, locals := 49 } : Room) (va_Pc [.int p0, .int p1] (fun U => True)) (va_Qd (fun (r : UInt64) (u : Unit) => f_X0_powerAsDouble p0 p1 = r) (fun _ _ => True) (fun _ => False)) 0 0 (fun _ => False) := by
  refine Met.ofW (cc := cX0_powerAsDouble) (maxL := 2) (ret := (some .double)) (by decide) rfl ?_
  intro p e s m args below meth c s₁ B hml hv
  obtain ⟨rfl, -⟩ := hv
  have hx := B.exec
  have hb := B.bytes
  have hr := B.returns
  have hts := atoms_spec (ws := wsX0_powerAsDouble) B.pre
  have hown : s.vm.findClass RX0 = some m.cls := findClass_of_methodNamed B.named
  have hlocks := B.notSynchronized
  have hS : va_S (fun _ => False) s.heap s.heap [] := va_S.rf
  have hl := lv_entry ([.int p0, .int p1]) (n := 2) (Nat.le_of_ble_eq_true rfl)
  rw [lg_entry_eq]
  generalize (lg_sl ([.int p0, .int p1]) ++ List.replicate (2 - (lg_sl ([.int p0, .int p1])).length) Slot.unset).toArray = ls at hl ⊢
  have hl : lv_has ls 2 [(0, .int p0), (1, .int p1)] := hl
  obtain ⟨Q, hQ⟩ : ∃ Q : State → Prop, Q = (MQ below (va_Qd (fun (r : UInt64) (u : Unit) => f_X0_powerAsDouble p0 p1 = r) (fun _ _ => True) (fun _ => False)) ([.int p0, .int p1] : List Value).toArray s 0 0 (fun _ => False)) := ⟨_, rfl⟩
  rw [← hQ]
  have hR : f_X0_powerAsDouble p0 p1 = f_X0_powerAsDouble p0 p1 := rfl
  refine lv_iload_n hx hb dX0_powerAsDouble_0 rfl (lv_at hl 0 rfl) ?_
  refine va_calli (va_runS (As := [.int p0]) (rest := []) ⟨hx, hb, hml, hown, hts⟩ (met_X0_signOf l p0) (va_cwS 1 hts gX0_powerAsDouble_X0_signOf rfl rfl rfl (by decide +kernel) ⟨Nat.le_of_ble_eq_true rfl, Nat.le_of_ble_eq_true rfl⟩) ⟨fun a U g mk q => q, fun U hU hW => ⟨rfl, trivial⟩⟩ rfl rfl hl.1 rfl (lv_room (Nat.le_of_ble_eq_true rfl)) dX0_powerAsDouble_1 ⟨Nat.le_of_ble_eq_true rfl, Nat.le_of_ble_eq_true rfl⟩) hS (fun q _ h => h.elim) (fun q h => h.elim) (fun r1 u1 t H locs ht hvm hw1 hB hz hk hS => ?_)
  subst hw1
  refine lv_iload_n hx hb dX0_powerAsDouble_4 rfl (lv_at hl 1 rfl) ?_
  refine va_calli (va_runS (As := [.int (f_X0_signOf p0), .int p1]) (rest := []) ⟨hx, hb, hml, hown, hts⟩ (met_X0_powerSign l (f_X0_signOf p0) p1) (va_cwS 2 hts gX0_powerAsDouble_X0_powerSign rfl rfl rfl (by decide +kernel) ⟨Nat.le_of_ble_eq_true rfl, Nat.le_of_ble_eq_true rfl⟩) ⟨fun a U g mk q => q, fun U hU hW => ⟨rfl, trivial⟩⟩ rfl rfl hl.1 rfl (lv_room (Nat.le_of_ble_eq_true rfl)) dX0_powerAsDouble_5 ⟨Nat.le_of_ble_eq_true rfl, Nat.le_of_ble_eq_true rfl⟩) hS (fun q _ h => h.elim) (fun q h => h.elim) (fun r5 u5 t H locs ht hvm hw5 hB hz hk hS => ?_)
  subst hw5
  refine lv_iload_n hx hb dX0_powerAsDouble_8 rfl (lv_at hl 0 rfl) ?_
  refine va_calll (va_runS (As := [.int p0]) (rest := [.int (f_X0_powerSign (f_X0_signOf p0) p1)]) ⟨hx, hb, hml, hown, hts⟩ (met_X0_oddOf l p0) (va_cwS 1 hts gX0_powerAsDouble_X0_oddOf rfl rfl rfl (by decide +kernel) ⟨Nat.le_of_ble_eq_true rfl, Nat.le_of_ble_eq_true rfl⟩) ⟨fun a U g mk q => q, fun U hU hW => ⟨rfl, trivial⟩⟩ rfl rfl hl.1 rfl (lv_room (Nat.le_of_ble_eq_true rfl)) dX0_powerAsDouble_9 ⟨Nat.le_of_ble_eq_true rfl, Nat.le_of_ble_eq_true rfl⟩) hS (fun q _ h => h.elim) (fun q h => h.elim) (fun r9 u9 t H locs ht hvm hw9 hB hz hk hS => ?_)
  subst hw9
  refine lv_iload_n hx hb dX0_powerAsDouble_12 rfl (lv_at hl 1 rfl) ?_
  refine va_calll (va_runS (As := [.long (f_X0_oddOf p0), .int p1]) (rest := [.int (f_X0_powerSign (f_X0_signOf p0) p1)]) ⟨hx, hb, hml, hown, hts⟩ (met_X0_powerOdd l (f_X0_oddOf p0) p1) (va_cwS 2 hts gX0_powerAsDouble_X0_powerOdd rfl rfl rfl (by decide +kernel) ⟨Nat.le_of_ble_eq_true rfl, Nat.le_of_ble_eq_true rfl⟩) ⟨fun a U g mk q => q, fun U hU hW => ⟨rfl, trivial⟩⟩ rfl rfl hl.1 rfl (lv_room (Nat.le_of_ble_eq_true rfl)) dX0_powerAsDouble_13 ⟨Nat.le_of_ble_eq_true rfl, Nat.le_of_ble_eq_true rfl⟩) hS (fun q _ h => h.elim) (fun q h => h.elim) (fun r13 u13 t H locs ht hvm hw13 hB hz hk hS => ?_)
  subst hw13
  refine lv_iload_n hx hb dX0_powerAsDouble_16 rfl (lv_at hl 0 rfl) ?_
  refine va_calli (va_runS (As := [.int p0]) (rest := [.long (f_X0_powerOdd (f_X0_oddOf p0) p1), .int (f_X0_powerSign (f_X0_signOf p0) p1)]) ⟨hx, hb, hml, hown, hts⟩ (met_X0_shiftOf l p0) (va_cwS 1 hts gX0_powerAsDouble_X0_shiftOf rfl rfl rfl (by decide +kernel) ⟨Nat.le_of_ble_eq_true rfl, Nat.le_of_ble_eq_true rfl⟩) ⟨fun a U g mk q => q, fun U hU hW => ⟨rfl, trivial⟩⟩ rfl rfl hl.1 rfl (lv_room (Nat.le_of_ble_eq_true rfl)) dX0_powerAsDouble_17 ⟨Nat.le_of_ble_eq_true rfl, Nat.le_of_ble_eq_true rfl⟩) hS (fun q _ h => h.elim) (fun q h => h.elim) (fun r17 u17 t H locs ht hvm hw17 hB hz hk hS => ?_)
  subst hw17
  refine lv_iload_n hx hb dX0_powerAsDouble_20 rfl (lv_at hl 1 rfl) ?_
  refine lv_imul hx hb dX0_powerAsDouble_21 ?_
  refine va_calld (va_runS (As := [.int (f_X0_powerSign (f_X0_signOf p0) p1), .long (f_X0_powerOdd (f_X0_oddOf p0) p1), .int ((f_X0_shiftOf p0) * p1)]) (rest := []) ⟨hx, hb, hml, hown, hts⟩ (met_X0_asDouble l (f_X0_powerSign (f_X0_signOf p0) p1) (f_X0_powerOdd (f_X0_oddOf p0) p1) ((f_X0_shiftOf p0) * p1) (hs)) (va_cwS 3 hts gX0_powerAsDouble_X0_asDouble rfl rfl rfl (by decide +kernel) ⟨Nat.le_of_ble_eq_true rfl, Nat.le_of_ble_eq_true rfl⟩) ⟨fun a U g mk q => q, fun U hU hW => ⟨rfl, trivial⟩⟩ rfl rfl hl.1 rfl (lv_room (Nat.le_of_ble_eq_true rfl)) dX0_powerAsDouble_22 ⟨Nat.le_of_ble_eq_true rfl, Nat.le_of_ble_eq_true rfl⟩) hS (fun q _ h => h.elim) (fun q h => h.elim) (fun r22 u22 t H locs ht hvm hw22 hB hz hk hS => ?_)
  subst hw22
  rw [hQ]
  exact W.dret (v := (f_X0_asDouble (f_X0_powerSign (f_X0_signOf p0) p1) (f_X0_powerOdd (f_X0_oddOf p0) p1) ((f_X0_shiftOf p0) * p1))) hx hb hr (fun t ht hW => ⟨⟨(f_X0_asDouble (f_X0_powerSign (f_X0_signOf p0) p1) (f_X0_powerOdd (f_X0_oddOf p0) p1) ((f_X0_shiftOf p0) * p1)), (), rfl, (hR.trans (by simp only [f_X0_powerAsDouble])), trivial⟩, hS.F ht⟩) hS.2.2 dX0_powerAsDouble_25

def g_X0_isChain_15 (p0 : Int32) (p1 : Int32) : Nat → UInt64 → Int32 → (Except Nat Int32)
  | 0, _, _ => .ok 0
  | n + 1, v15_3, v15_5 => (if (p1 : Int32) ≤ v15_5 then (if ((f_X0_bitsOfDouble v15_3) : Int64) = (f_X0_powerBits p0 p1) then (.ok 1) else (.ok 0)) else (g_X0_isChain_15 p0 p1 n (FP.dmul v15_3 (FP.i2d p0)) (v15_5 + 1)))
def f_X0_isChain (S : pS) (p0 : Int32) (p1 : Int32) : Except Nat Int32 := (match f_X0_checkBaseAndExponent p0 p1 with | .error k => .error k | .ok _ => (match f_X0_checkTold p0 p1 with | .error k => .error k | .ok _ => (g_X0_isChain_15 p0 p1 (((p1 : Int32).toInt - (0 : Int32).toInt).toNat + 1) FP.dconst1 0)))
set_option maxHeartbeats 4000000 in
set_option maxRecDepth 100000 in
theorem met_X0_isChain (l : Launch) (hfl : l.stackTraces = false) (D : va_G) (cI cJ : ClassId) (ad : Nat → Nat) (S : pS) (p0 : Int32) (p1 : Int32) : vx_Met l yX0_isChain wsX0_isChain ({ frames := 8, cells := 3, slots := 18, locals := 127 } : Room) (va_Pc [.ref (ad 0), .int p0, .int p1] (fun U => b0R D cI cJ ad S U ∧ xE (fun _ => False) U U.heap)) (va_Qi (fun (r : Int32) (u : Unit) => f_X0_isChain S p0 p1 = .ok r ∧ (r = 0 ∨ r = 1)) (fun _ _ => True) (fun _ => False)) (vx_X (fun k : Nat => f_X0_isChain S p0 p1 = .error k) (fun E k _ => E = exN k) (fun _ => False)) 3 18 (fun _ => False) := by
  refine vx_ofW (cc := cX0_isChain) (maxL := 6) (ret := (some .boolean)) (by decide) rfl ?_
  intro p e s m args below meth c s₁ B hml hno hv
  obtain ⟨rfl, ⟨hP, hK⟩, hE⟩ := hv
  have hx := B.exec
  have hb := B.bytes
  have hr := B.returns
  have hts := atoms_spec (ws := wsX0_isChain) B.pre
  have hown : s.vm.findClass RX0 = some m.cls := findClass_of_methodNamed B.named
  have hlocks := B.notSynchronized
  have hS : va_S (fun _ => False) s.heap s.heap [] := va_S.rf
  have hl := lv_entry ([.ref (ad 0), .int p0, .int p1]) (n := 6) (Nat.le_of_ble_eq_true rfl)
  rw [lg_entry_eq]
  generalize (lg_sl ([.ref (ad 0), .int p0, .int p1]) ++ List.replicate (6 - (lg_sl ([.ref (ad 0), .int p0, .int p1])).length) Slot.unset).toArray = ls at hl ⊢
  have hl : lv_has ls 6 [(0, .ref (ad 0)), (1, .int p0), (2, .int p1)] := hl
  obtain ⟨Q, hQ⟩ : ∃ Q : State → Prop, Q = (vx_MQ below (va_Qi (fun (r : Int32) (u : Unit) => f_X0_isChain S p0 p1 = .ok r ∧ (r = 0 ∨ r = 1)) (fun _ _ => True) (fun _ => False)) (vx_X (fun k : Nat => f_X0_isChain S p0 p1 = .error k) (fun E k _ => E = exN k) (fun _ => False)) ([.ref (ad 0), .int p0, .int p1] : List Value).toArray s 3 18 (fun _ => False)) := ⟨_, rfl⟩
  rw [← hQ]
  have hR : f_X0_isChain S p0 p1 = f_X0_isChain S p0 p1 := rfl
  refine lv_iload_n hx hb dX0_isChain_0 rfl (lv_at hl 1 rfl) ?_
  refine lv_iload_n hx hb dX0_isChain_1 rfl (lv_at hl 2 rfl) ?_
  refine vx_callv (vx_runS (As := [.int p0, .int p1]) (rest := []) ⟨hx, hb, hml, hown, hts⟩ (met_X0_checkBaseAndExponent l hfl p0 p1) (va_cwS 2 hts gX0_isChain_X0_checkBaseAndExponent rfl rfl rfl (by decide +kernel) ⟨Nat.le_of_ble_eq_true rfl, Nat.le_of_ble_eq_true rfl⟩) ⟨fun a U g mk q => ⟨q.1, xE_calling q.2⟩, fun U hU hW => ⟨rfl, xE_at hE hS hU hW⟩⟩ rfl rfl hl.1 rfl (lv_room (Nat.le_of_ble_eq_true rfl)) dX0_isChain_2 ⟨Nat.le_of_ble_eq_true rfl, Nat.le_of_ble_eq_true rfl⟩) hS (fun q _ h => h.elim) (fun q h => h.elim) (fun q _ h => h.elim) (fun E ce q9 k2 t H locs ht hvm hw2 hB hz hk hS hc9 hv9 hf9 => ?_) (fun u2 t H locs ht hvm hw2 hB hz hk hS => ?_)
  · skip
    rw [hQ]
    exact vx_out (fun x hx => (hno x hx).elim) hlocks hc9 hv9 hf9 (fun t9 ht9 hvm9 => ⟨k2, (hR.trans (by simp only [f_X0_isChain, hw2])), hB, hS.F ht9⟩) hS.2.2 (Nat.le_of_ble_eq_true rfl) (Nat.le_of_ble_eq_true rfl)
  · skip
    have hP := hP.kept (fun k q hk9 => hk _ (vx_lt hP hk9) (fun h => h))
    refine lv_iload_n hx hb dX0_isChain_5 rfl (lv_at hl 1 rfl) ?_
    refine lv_iload_n hx hb dX0_isChain_6 rfl (lv_at hl 2 rfl) ?_
    refine vx_callv (vx_runS (As := [.int p0, .int p1]) (rest := []) ⟨hx, hb, hml, hown, hts⟩ (met_X0_checkTold l hfl p0 p1) (va_cwS 2 hts gX0_isChain_X0_checkTold rfl rfl rfl (by decide +kernel) ⟨Nat.le_of_ble_eq_true rfl, Nat.le_of_ble_eq_true rfl⟩) ⟨fun a U g mk q => ⟨q.1, xE_calling q.2⟩, fun U hU hW => ⟨rfl, xE_at hE hS hU hW⟩⟩ rfl rfl hl.1 rfl (lv_room (Nat.le_of_ble_eq_true rfl)) dX0_isChain_7 ⟨Nat.le_of_ble_eq_true rfl, Nat.le_of_ble_eq_true rfl⟩) hS (fun q _ h => h.elim) (fun q h => h.elim) (fun q _ h => h.elim) (fun E ce q9 k7 t H locs ht hvm hw7 hB hz hk hS hc9 hv9 hf9 => ?_) (fun u7 t H locs ht hvm hw7 hB hz hk hS => ?_)
    · skip
      rw [hQ]
      exact vx_out (fun x hx => (hno x hx).elim) hlocks hc9 hv9 hf9 (fun t9 ht9 hvm9 => ⟨k7, (hR.trans (by simp only [f_X0_isChain, hw2, hw7])), hB, hS.F ht9⟩) hS.2.2 (Nat.le_of_ble_eq_true rfl) (Nat.le_of_ble_eq_true rfl)
    · skip
      have hP := hP.kept (fun k q hk9 => hk _ (vx_lt hP hk9) (fun h => h))
      refine lv_dconst1 hx hb dX0_isChain_10 ?_
      refine lv_dstore_n (lv' := [(3, .double FP.dconst1), (0, .ref (ad 0)), (1, .int p0), (2, .int p1)]) hx hb dX0_isChain_11 rfl hl (by decide) rfl (fun ls hl => ?_)
      refine lv_iconst (v := 0) hx hb dX0_isChain_12 (by decide) ?_
      refine lv_istore (lv' := [(5, .int 0), (3, .double FP.dconst1), (0, .ref (ad 0)), (1, .int p0), (2, .int p1)]) hx hb dX0_isChain_13 hl (by decide) rfl (fun ls hl => ?_)
      have J15 : ∀ (n15 : Nat) (v15_3 : UInt64) (v15_5 : Int32) (ls : Array Slot) (H : Heap) (locs : List Loc), lv_has ls 6 [(0, .ref (ad 0)), (1, .int p0), (2, .int p1), (3, .double v15_3), (5, .int v15_5)] → va_S (fun _ => False) s.heap H locs → va_P D pCl (pmW cI cJ ad S) H → f_X0_isChain S p0 p1 = g_X0_isChain_15 p0 p1 n15 v15_3 v15_5 → ((p1 : Int32).toInt - v15_5.toInt).toNat < n15 → (chI p0 v15_3) → W p l e (headSpec wsX0_isChain ({ frames := 8, cells := 3, slots := 18, locals := 127 } : Room)).room s m ([.ref (ad 0), .int p0, .int p1] : List Value).toArray below meth c H locs 3 18 Q (F0 m 15 ls []) := by
        intro n15
        induction n15 with
        | zero => intro v15_3 v15_5 ls H locs hl hS hP hR hmu15 hi15_0; exact absurd hmu15 (Nat.not_lt_zero _)
        | succ n15 ih15 =>
          intro v15_3 v15_5 ls H locs hl hS hP hR hmu15 hi15_0
          refine lv_iload hx hb dX0_isChain_15 (lv_at hl 4 rfl) ?_
          refine lv_iload_n hx hb dX0_isChain_17 rfl (lv_at hl 2 rfl) ?_
          refine lv_icmp_ge (tgt := 32) hx hb dX0_isChain_18 (by decide) (fun c18 => ?_) (fun c18 => ?_)
          · skip
            refine lv_dload_n hx hb dX0_isChain_32 rfl (lv_at hl 3 rfl) ?_
            refine va_calll (va_runS (As := [.double v15_3]) (rest := []) ⟨hx, hb, hml, hown, hts⟩ (met_X0_bitsOfDouble l v15_3 (hi15_0.1)) (va_cwS 1 hts gX0_isChain_X0_bitsOfDouble rfl rfl rfl (by decide +kernel) ⟨Nat.le_of_ble_eq_true rfl, Nat.le_of_ble_eq_true rfl⟩) ⟨fun a U g mk q => q, fun U hU hW => ⟨rfl, trivial⟩⟩ rfl rfl hl.1 rfl (lv_room (Nat.le_of_ble_eq_true rfl)) dX0_isChain_33 ⟨Nat.le_of_ble_eq_true rfl, Nat.le_of_ble_eq_true rfl⟩) hS (fun q _ h => h.elim) (fun q h => h.elim) (fun r33 u33 t H locs ht hvm hw33 hB hz hk hS => ?_)
            subst hw33
            have hP := hP.kept (fun k q hk9 => hk _ (vx_lt hP hk9) (fun h => h))
            refine lv_iload_n hx hb dX0_isChain_36 rfl (lv_at hl 1 rfl) ?_
            refine lv_iload_n hx hb dX0_isChain_37 rfl (lv_at hl 2 rfl) ?_
            refine va_calll (va_runS (As := [.int p0, .int p1]) (rest := [.long (f_X0_bitsOfDouble v15_3)]) ⟨hx, hb, hml, hown, hts⟩ (met_X0_powerBits l p0 p1) (va_cwS 2 hts gX0_isChain_X0_powerBits rfl rfl rfl (by decide +kernel) ⟨Nat.le_of_ble_eq_true rfl, Nat.le_of_ble_eq_true rfl⟩) ⟨fun a U g mk q => q, fun U hU hW => ⟨rfl, trivial⟩⟩ rfl rfl hl.1 rfl (lv_room (Nat.le_of_ble_eq_true rfl)) dX0_isChain_38 ⟨Nat.le_of_ble_eq_true rfl, Nat.le_of_ble_eq_true rfl⟩) hS (fun q _ h => h.elim) (fun q h => h.elim) (fun r38 u38 t H locs ht hvm hw38 hB hz hk hS => ?_)
            subst hw38
            have hP := hP.kept (fun k q hk9 => hk _ (vx_lt hP hk9) (fun h => h))
            refine W.lcmp hx hb dX0_isChain_41 ?_
            refine lv_if_ne (tgt := 49) hx hb dX0_isChain_42 (by decide) (fun c41 => ?_) (fun c41 => ?_)
            · skip
              have c41 : ¬ (((f_X0_bitsOfDouble v15_3) : Int64) = (f_X0_powerBits p0 p1)) := fun h => c41 ((lg_cmp_eq _ _).mpr h)
              refine lv_iconst (v := 0) hx hb dX0_isChain_49 (by decide) ?_
              rw [hQ]
              refine vx_ret ?_
              exact W.zret (ty := .boolean) (v := 0) hx hb hr (nbool (Or.inl rfl)) (fun t ht hW => ⟨⟨0, (), rfl, ⟨(hR.trans (by simp only [g_X0_isChain_15, if_pos c18, if_neg c41])), (Or.inl rfl)⟩, trivial⟩, hS.F ht⟩) hS.2.2 dX0_isChain_50
            · skip
              have c41 : ((f_X0_bitsOfDouble v15_3) : Int64) = (f_X0_powerBits p0 p1) := (lg_cmp_eq _ _).mp c41
              refine lv_iconst (v := 1) hx hb dX0_isChain_45 (by decide) ?_
              refine lv_goto (tgt := 50) hx hb dX0_isChain_46 (by decide) ?_
              rw [hQ]
              refine vx_ret ?_
              exact W.zret (ty := .boolean) (v := 1) hx hb hr (nbool (Or.inr rfl)) (fun t ht hW => ⟨⟨1, (), rfl, ⟨(hR.trans (by simp only [g_X0_isChain_15, if_pos c18, if_pos c41])), (Or.inr rfl)⟩, trivial⟩, hS.F ht⟩) hS.2.2 dX0_isChain_50
          · skip
            refine lv_dload_n hx hb dX0_isChain_21 rfl (lv_at hl 3 rfl) ?_
            refine lv_iload_n hx hb dX0_isChain_22 rfl (lv_at hl 1 rfl) ?_
            refine lv_i2d hx hb dX0_isChain_23 ?_
            refine lv_dmul hx hb dX0_isChain_24 (n64_of_val (ch_nn hi15_0)) ?_
            refine lv_dstore_n (lv' := [(3, .double (FP.dmul v15_3 (FP.i2d p0))), (0, .ref (ad 0)), (1, .int p0), (2, .int p1), (5, .int v15_5)]) hx hb dX0_isChain_25 rfl hl (by decide) rfl (fun ls hl => ?_)
            refine lv_iinc (v := (v15_5 + 1)) (lv' := [(5, .int (v15_5 + 1)), (3, .double (FP.dmul v15_3 (FP.i2d p0))), (0, .ref (ad 0)), (1, .int p0), (2, .int p1)]) hx hb dX0_isChain_26 hl (k := 4) rfl (by rfl) (by decide) rfl (fun ls hl => ?_)
            refine lv_goto (tgt := 15) hx hb dX0_isChain_29 (by decide) ?_
            exact ih15 (FP.dmul v15_3 (FP.i2d p0)) (v15_5 + 1) ls _ _ (lv_sub hl [2, 3, 4, 1, 0] rfl) hS hP (hR.trans (by simp only [g_X0_isChain_15, if_neg c18])) (mu_up c18 hmu15) (ch_step hi15_0)
      exact J15 (((p1 : Int32).toInt - (0 : Int32).toInt).toNat + 1) FP.dconst1 0 ls _ _ (lv_sub hl [2, 3, 4, 1, 0] rfl) hS hP (hR.trans (by simp only [f_X0_isChain, hw2, hw7])) (Nat.lt_succ_self _) (ch_0 p0)

def f_X0_addsUp (S : pS) (p0 : Int32) (p1 : Int32) (p2 : Int32) : Except Nat Int32 := (match f_X0_checkBaseAndExponent p0 p1 with | .error k => .error k | .ok _ => (match f_X0_checkRange p2 0 64 with | .error k => .error k | .ok _ => (match f_X0_checkRange (p1 + p2) 0 64 with | .error k => .error k | .ok _ => (match f_X0_checkTold p0 (p1 + p2) with | .error k => .error k | .ok _ => (if ((f_X0_bitsOfDouble (FP.dmul (f_X0_powerAsDouble p0 p1) (f_X0_powerAsDouble p0 p2))) : Int64) = (f_X0_powerBits p0 (p1 + p2)) then (.ok 1) else (.ok 0))))))
set_option maxHeartbeats 4000000 in
set_option maxRecDepth 100000 in
theorem met_X0_addsUp (l : Launch) (hfl : l.stackTraces = false) (D : va_G) (cI cJ : ClassId) (ad : Nat → Nat) (S : pS) (p0 : Int32) (p1 : Int32) (p2 : Int32) (hnn : ∀ (u1 u2 u3 u4 : Unit), f_X0_checkBaseAndExponent p0 p1 = .ok u1 → f_X0_checkRange p2 0 64 = .ok u2 → f_X0_checkRange (p1 + p2) 0 64 = .ok u3 → f_X0_checkTold p0 (p1 + p2) = .ok u4 → FP.Core.val64 (FP.dmul (f_X0_powerAsDouble p0 p1) (f_X0_powerAsDouble p0 p2)) ≠ .nan) : vx_Met l yX0_addsUp wsX0_addsUp ({ frames := 8, cells := 5, slots := 30, locals := 127 } : Room) (va_Pc [.ref (ad 0), .int p0, .int p1, .int p2] (fun U => b0R D cI cJ ad S U ∧ xE (fun _ => False) U U.heap)) (va_Qi (fun (r : Int32) (u : Unit) => f_X0_addsUp S p0 p1 p2 = .ok r ∧ (r = 0 ∨ r = 1)) (fun _ _ => True) (fun _ => False)) (vx_X (fun k : Nat => f_X0_addsUp S p0 p1 p2 = .error k) (fun E k _ => E = exN k) (fun _ => False)) 5 30 (fun _ => False) := by
  refine vx_ofW (cc := cX0_addsUp) (maxL := 6) (ret := (some .boolean)) (by decide) rfl ?_
  intro p e s m args below meth c s₁ B hml hno hv
  obtain ⟨rfl, ⟨hP, hK⟩, hE⟩ := hv
  have hx := B.exec
  have hb := B.bytes
  have hr := B.returns
  have hts := atoms_spec (ws := wsX0_addsUp) B.pre
  have hown : s.vm.findClass RX0 = some m.cls := findClass_of_methodNamed B.named
  have hlocks := B.notSynchronized
  have hS : va_S (fun _ => False) s.heap s.heap [] := va_S.rf
  have hl := lv_entry ([.ref (ad 0), .int p0, .int p1, .int p2]) (n := 6) (Nat.le_of_ble_eq_true rfl)
  rw [lg_entry_eq]
  generalize (lg_sl ([.ref (ad 0), .int p0, .int p1, .int p2]) ++ List.replicate (6 - (lg_sl ([.ref (ad 0), .int p0, .int p1, .int p2])).length) Slot.unset).toArray = ls at hl ⊢
  have hl : lv_has ls 6 [(0, .ref (ad 0)), (1, .int p0), (2, .int p1), (3, .int p2)] := hl
  obtain ⟨Q, hQ⟩ : ∃ Q : State → Prop, Q = (vx_MQ below (va_Qi (fun (r : Int32) (u : Unit) => f_X0_addsUp S p0 p1 p2 = .ok r ∧ (r = 0 ∨ r = 1)) (fun _ _ => True) (fun _ => False)) (vx_X (fun k : Nat => f_X0_addsUp S p0 p1 p2 = .error k) (fun E k _ => E = exN k) (fun _ => False)) ([.ref (ad 0), .int p0, .int p1, .int p2] : List Value).toArray s 5 30 (fun _ => False)) := ⟨_, rfl⟩
  rw [← hQ]
  have hR : f_X0_addsUp S p0 p1 p2 = f_X0_addsUp S p0 p1 p2 := rfl
  refine lv_iload_n hx hb dX0_addsUp_0 rfl (lv_at hl 1 rfl) ?_
  refine lv_iload_n hx hb dX0_addsUp_1 rfl (lv_at hl 2 rfl) ?_
  refine vx_callv (vx_runS (As := [.int p0, .int p1]) (rest := []) ⟨hx, hb, hml, hown, hts⟩ (met_X0_checkBaseAndExponent l hfl p0 p1) (va_cwS 2 hts gX0_addsUp_X0_checkBaseAndExponent rfl rfl rfl (by decide +kernel) ⟨Nat.le_of_ble_eq_true rfl, Nat.le_of_ble_eq_true rfl⟩) ⟨fun a U g mk q => ⟨q.1, xE_calling q.2⟩, fun U hU hW => ⟨rfl, xE_at hE hS hU hW⟩⟩ rfl rfl hl.1 rfl (lv_room (Nat.le_of_ble_eq_true rfl)) dX0_addsUp_2 ⟨Nat.le_of_ble_eq_true rfl, Nat.le_of_ble_eq_true rfl⟩) hS (fun q _ h => h.elim) (fun q h => h.elim) (fun q _ h => h.elim) (fun E ce q9 k2 t H locs ht hvm hw2 hB hz hk hS hc9 hv9 hf9 => ?_) (fun u2 t H locs ht hvm hw2 hB hz hk hS => ?_)
  · skip
    rw [hQ]
    exact vx_out (fun x hx => (hno x hx).elim) hlocks hc9 hv9 hf9 (fun t9 ht9 hvm9 => ⟨k2, (hR.trans (by simp only [f_X0_addsUp, hw2])), hB, hS.F ht9⟩) hS.2.2 (Nat.le_of_ble_eq_true rfl) (Nat.le_of_ble_eq_true rfl)
  · skip
    have hP := hP.kept (fun k q hk9 => hk _ (vx_lt hP hk9) (fun h => h))
    refine lv_iload_n hx hb dX0_addsUp_5 rfl (lv_at hl 3 rfl) ?_
    refine lv_iconst (v := 0) hx hb dX0_addsUp_6 (by decide) ?_
    refine lv_bipush (v := 64) hx hb dX0_addsUp_7 (by decide) ?_
    refine vx_callv (vx_runS (As := [.int p2, .int 0, .int 64]) (rest := []) ⟨hx, hb, hml, hown, hts⟩ (met_X0_checkRange l hfl p2 0 64) (va_cwS 3 hts gX0_addsUp_X0_checkRange rfl rfl rfl (by decide +kernel) ⟨Nat.le_of_ble_eq_true rfl, Nat.le_of_ble_eq_true rfl⟩) ⟨fun a U g mk q => ⟨q.1, xE_calling q.2⟩, fun U hU hW => ⟨rfl, xE_at hE hS hU hW⟩⟩ rfl rfl hl.1 rfl (lv_room (Nat.le_of_ble_eq_true rfl)) dX0_addsUp_9 ⟨Nat.le_of_ble_eq_true rfl, Nat.le_of_ble_eq_true rfl⟩) hS (fun q _ h => h.elim) (fun q h => h.elim) (fun q _ h => h.elim) (fun E ce q9 k9 t H locs ht hvm hw9 hB hz hk hS hc9 hv9 hf9 => ?_) (fun u9 t H locs ht hvm hw9 hB hz hk hS => ?_)
    · skip
      rw [hQ]
      exact vx_out (fun x hx => (hno x hx).elim) hlocks hc9 hv9 hf9 (fun t9 ht9 hvm9 => ⟨k9, (hR.trans (by simp only [f_X0_addsUp, hw2, hw9])), hB, hS.F ht9⟩) hS.2.2 (Nat.le_of_ble_eq_true rfl) (Nat.le_of_ble_eq_true rfl)
    · skip
      have hP := hP.kept (fun k q hk9 => hk _ (vx_lt hP hk9) (fun h => h))
      refine lv_iload_n hx hb dX0_addsUp_12 rfl (lv_at hl 2 rfl) ?_
      refine lv_iload_n hx hb dX0_addsUp_13 rfl (lv_at hl 3 rfl) ?_
      refine lv_iadd hx hb dX0_addsUp_14 ?_
      refine lv_iconst (v := 0) hx hb dX0_addsUp_15 (by decide) ?_
      refine lv_bipush (v := 64) hx hb dX0_addsUp_16 (by decide) ?_
      refine vx_callv (vx_runS (As := [.int (p1 + p2), .int 0, .int 64]) (rest := []) ⟨hx, hb, hml, hown, hts⟩ (met_X0_checkRange l hfl (p1 + p2) 0 64) (va_cwS 3 hts gX0_addsUp_X0_checkRange rfl rfl rfl (by decide +kernel) ⟨Nat.le_of_ble_eq_true rfl, Nat.le_of_ble_eq_true rfl⟩) ⟨fun a U g mk q => ⟨q.1, xE_calling q.2⟩, fun U hU hW => ⟨rfl, xE_at hE hS hU hW⟩⟩ rfl rfl hl.1 rfl (lv_room (Nat.le_of_ble_eq_true rfl)) dX0_addsUp_18 ⟨Nat.le_of_ble_eq_true rfl, Nat.le_of_ble_eq_true rfl⟩) hS (fun q _ h => h.elim) (fun q h => h.elim) (fun q _ h => h.elim) (fun E ce q9 k18 t H locs ht hvm hw18 hB hz hk hS hc9 hv9 hf9 => ?_) (fun u18 t H locs ht hvm hw18 hB hz hk hS => ?_)
      · skip
        rw [hQ]
        exact vx_out (fun x hx => (hno x hx).elim) hlocks hc9 hv9 hf9 (fun t9 ht9 hvm9 => ⟨k18, (hR.trans (by simp only [f_X0_addsUp, hw2, hw9, hw18])), hB, hS.F ht9⟩) hS.2.2 (Nat.le_of_ble_eq_true rfl) (Nat.le_of_ble_eq_true rfl)
      · skip
        have hP := hP.kept (fun k q hk9 => hk _ (vx_lt hP hk9) (fun h => h))
        refine lv_iload_n hx hb dX0_addsUp_21 rfl (lv_at hl 1 rfl) ?_
        refine lv_iload_n hx hb dX0_addsUp_22 rfl (lv_at hl 2 rfl) ?_
        refine lv_iload_n hx hb dX0_addsUp_23 rfl (lv_at hl 3 rfl) ?_
        refine lv_iadd hx hb dX0_addsUp_24 ?_
        refine vx_callv (vx_runS (As := [.int p0, .int (p1 + p2)]) (rest := []) ⟨hx, hb, hml, hown, hts⟩ (met_X0_checkTold l hfl p0 (p1 + p2)) (va_cwS 2 hts gX0_addsUp_X0_checkTold rfl rfl rfl (by decide +kernel) ⟨Nat.le_of_ble_eq_true rfl, Nat.le_of_ble_eq_true rfl⟩) ⟨fun a U g mk q => ⟨q.1, xE_calling q.2⟩, fun U hU hW => ⟨rfl, xE_at hE hS hU hW⟩⟩ rfl rfl hl.1 rfl (lv_room (Nat.le_of_ble_eq_true rfl)) dX0_addsUp_25 ⟨Nat.le_of_ble_eq_true rfl, Nat.le_of_ble_eq_true rfl⟩) hS (fun q _ h => h.elim) (fun q h => h.elim) (fun q _ h => h.elim) (fun E ce q9 k25 t H locs ht hvm hw25 hB hz hk hS hc9 hv9 hf9 => ?_) (fun u25 t H locs ht hvm hw25 hB hz hk hS => ?_)
        · skip
          rw [hQ]
          exact vx_out (fun x hx => (hno x hx).elim) hlocks hc9 hv9 hf9 (fun t9 ht9 hvm9 => ⟨k25, (hR.trans (by simp only [f_X0_addsUp, hw2, hw9, hw18, hw25])), hB, hS.F ht9⟩) hS.2.2 (Nat.le_of_ble_eq_true rfl) (Nat.le_of_ble_eq_true rfl)
        · skip
          have hP := hP.kept (fun k q hk9 => hk _ (vx_lt hP hk9) (fun h => h))
          refine lv_iload_n hx hb dX0_addsUp_28 rfl (lv_at hl 1 rfl) ?_
          refine lv_iload_n hx hb dX0_addsUp_29 rfl (lv_at hl 2 rfl) ?_
          refine va_calld (va_runS (As := [.int p0, .int p1]) (rest := []) ⟨hx, hb, hml, hown, hts⟩ (met_X0_powerAsDouble l p0 p1 (pad_c hw2)) (va_cwS 2 hts gX0_addsUp_X0_powerAsDouble rfl rfl rfl (by decide +kernel) ⟨Nat.le_of_ble_eq_true rfl, Nat.le_of_ble_eq_true rfl⟩) ⟨fun a U g mk q => q, fun U hU hW => ⟨rfl, trivial⟩⟩ rfl rfl hl.1 rfl (lv_room (Nat.le_of_ble_eq_true rfl)) dX0_addsUp_30 ⟨Nat.le_of_ble_eq_true rfl, Nat.le_of_ble_eq_true rfl⟩) hS (fun q _ h => h.elim) (fun q h => h.elim) (fun r30 u30 t H locs ht hvm hw30 hB hz hk hS => ?_)
          subst hw30
          have hP := hP.kept (fun k q hk9 => hk _ (vx_lt hP hk9) (fun h => h))
          refine lv_iload_n hx hb dX0_addsUp_33 rfl (lv_at hl 1 rfl) ?_
          refine lv_iload_n hx hb dX0_addsUp_34 rfl (lv_at hl 3 rfl) ?_
          refine va_calld (va_runS (As := [.int p0, .int p2]) (rest := [.double (f_X0_powerAsDouble p0 p1)]) ⟨hx, hb, hml, hown, hts⟩ (met_X0_powerAsDouble l p0 p2 (pad_c2 hw2 hw9)) (va_cwS 2 hts gX0_addsUp_X0_powerAsDouble rfl rfl rfl (by decide +kernel) ⟨Nat.le_of_ble_eq_true rfl, Nat.le_of_ble_eq_true rfl⟩) ⟨fun a U g mk q => q, fun U hU hW => ⟨rfl, trivial⟩⟩ rfl rfl hl.1 rfl (lv_room (Nat.le_of_ble_eq_true rfl)) dX0_addsUp_35 ⟨Nat.le_of_ble_eq_true rfl, Nat.le_of_ble_eq_true rfl⟩) hS (fun q _ h => h.elim) (fun q h => h.elim) (fun r35 u35 t H locs ht hvm hw35 hB hz hk hS => ?_)
          subst hw35
          have hP := hP.kept (fun k q hk9 => hk _ (vx_lt hP hk9) (fun h => h))
          refine lv_dmul hx hb dX0_addsUp_38 (n64_of_val (hnn _ _ _ _ hw2 hw9 hw18 hw25)) ?_
          refine lv_dstore (lv' := [(4, .double (FP.dmul (f_X0_powerAsDouble p0 p1) (f_X0_powerAsDouble p0 p2))), (0, .ref (ad 0)), (1, .int p0), (2, .int p1), (3, .int p2)]) hx hb dX0_addsUp_39 hl (by decide) rfl (fun ls hl => ?_)
          refine lv_dload hx hb dX0_addsUp_41 (lv_at hl 0 rfl) ?_
          refine va_calll (va_runS (As := [.double (FP.dmul (f_X0_powerAsDouble p0 p1) (f_X0_powerAsDouble p0 p2))]) (rest := []) ⟨hx, hb, hml, hown, hts⟩ (met_X0_bitsOfDouble l (FP.dmul (f_X0_powerAsDouble p0 p1) (f_X0_powerAsDouble p0 p2)) (hnn _ _ _ _ hw2 hw9 hw18 hw25)) (va_cwS 1 hts gX0_addsUp_X0_bitsOfDouble rfl rfl rfl (by decide +kernel) ⟨Nat.le_of_ble_eq_true rfl, Nat.le_of_ble_eq_true rfl⟩) ⟨fun a U g mk q => q, fun U hU hW => ⟨rfl, trivial⟩⟩ rfl rfl hl.1 rfl (lv_room (Nat.le_of_ble_eq_true rfl)) dX0_addsUp_43 ⟨Nat.le_of_ble_eq_true rfl, Nat.le_of_ble_eq_true rfl⟩) hS (fun q _ h => h.elim) (fun q h => h.elim) (fun r43 u43 t H locs ht hvm hw43 hB hz hk hS => ?_)
          subst hw43
          have hP := hP.kept (fun k q hk9 => hk _ (vx_lt hP hk9) (fun h => h))
          refine lv_iload_n hx hb dX0_addsUp_46 rfl (lv_at hl 2 rfl) ?_
          refine lv_iload_n hx hb dX0_addsUp_47 rfl (lv_at hl 3 rfl) ?_
          refine lv_iload_n hx hb dX0_addsUp_48 rfl (lv_at hl 4 rfl) ?_
          refine lv_iadd hx hb dX0_addsUp_49 ?_
          refine va_calll (va_runS (As := [.int p0, .int (p1 + p2)]) (rest := [.long (f_X0_bitsOfDouble (FP.dmul (f_X0_powerAsDouble p0 p1) (f_X0_powerAsDouble p0 p2)))]) ⟨hx, hb, hml, hown, hts⟩ (met_X0_powerBits l p0 (p1 + p2)) (va_cwS 2 hts gX0_addsUp_X0_powerBits rfl rfl rfl (by decide +kernel) ⟨Nat.le_of_ble_eq_true rfl, Nat.le_of_ble_eq_true rfl⟩) ⟨fun a U g mk q => q, fun U hU hW => ⟨rfl, trivial⟩⟩ rfl rfl hl.1 rfl (lv_room (Nat.le_of_ble_eq_true rfl)) dX0_addsUp_50 ⟨Nat.le_of_ble_eq_true rfl, Nat.le_of_ble_eq_true rfl⟩) hS (fun q _ h => h.elim) (fun q h => h.elim) (fun r50 u50 t H locs ht hvm hw50 hB hz hk hS => ?_)
          subst hw50
          have hP := hP.kept (fun k q hk9 => hk _ (vx_lt hP hk9) (fun h => h))
          refine W.lcmp hx hb dX0_addsUp_53 ?_
          refine lv_if_ne (tgt := 61) hx hb dX0_addsUp_54 (by decide) (fun c53 => ?_) (fun c53 => ?_)
          · skip
            have c53 : ¬ (((f_X0_bitsOfDouble (FP.dmul (f_X0_powerAsDouble p0 p1) (f_X0_powerAsDouble p0 p2))) : Int64) = (f_X0_powerBits p0 (p1 + p2))) := fun h => c53 ((lg_cmp_eq _ _).mpr h)
            refine lv_iconst (v := 0) hx hb dX0_addsUp_61 (by decide) ?_
            rw [hQ]
            refine vx_ret ?_
            exact W.zret (ty := .boolean) (v := 0) hx hb hr (nbool (Or.inl rfl)) (fun t ht hW => ⟨⟨0, (), rfl, ⟨(hR.trans (by simp only [f_X0_addsUp, hw2, hw9, hw18, hw25, if_neg c53])), (Or.inl rfl)⟩, trivial⟩, hS.F ht⟩) hS.2.2 dX0_addsUp_62
          · skip
            have c53 : ((f_X0_bitsOfDouble (FP.dmul (f_X0_powerAsDouble p0 p1) (f_X0_powerAsDouble p0 p2))) : Int64) = (f_X0_powerBits p0 (p1 + p2)) := (lg_cmp_eq _ _).mp c53
            refine lv_iconst (v := 1) hx hb dX0_addsUp_57 (by decide) ?_
            refine lv_goto (tgt := 62) hx hb dX0_addsUp_58 (by decide) ?_
            rw [hQ]
            refine vx_ret ?_
            exact W.zret (ty := .boolean) (v := 1) hx hb hr (nbool (Or.inr rfl)) (fun t ht hW => ⟨⟨1, (), rfl, ⟨(hR.trans (by simp only [f_X0_addsUp, hw2, hw9, hw18, hw25, if_pos c53])), (Or.inr rfl)⟩, trivial⟩, hS.F ht⟩) hS.2.2 dX0_addsUp_62

def f_X0_isTimes (S : pS) (p0 : Int32) : Except Nat Int32 := (match f_X0_checkSlot p0 with | .error k => .error k | .ok _ => (match f_X0_checkSquared S p0 with | .error k => .error k | .ok _ => (if ((f_X0_bitsOfDouble (FP.dmul (f_X0_asDouble ((sgS S) p0.toNatClampNeg) ((odS S) p0.toNatClampNeg) ((shS S) p0.toNatClampNeg)) (f_X0_asDouble ((sgS S) p0.toNatClampNeg) ((odS S) p0.toNatClampNeg) ((shS S) p0.toNatClampNeg)))) : Int64) = (f_X0_nearestSquareBits ((odS S) p0.toNatClampNeg) ((shS S) p0.toNatClampNeg)) then (.ok 1) else (.ok 0))))
set_option maxHeartbeats 4000000 in
set_option maxRecDepth 100000 in
theorem met_X0_isTimes (l : Launch) (hfl : l.stackTraces = false) (D : va_G) (cI cJ : ClassId) (ad : Nat → Nat) (S : pS) (p0 : Int32) : vx_Met l yX0_isTimes wsX0_isTimes ({ frames := 7, cells := 2, slots := 12, locals := 106 } : Room) (va_Pc [.ref (ad 0), .int p0] (fun U => b0R D cI cJ ad S U ∧ xE (fun _ => False) U U.heap)) (va_Qi (fun (r : Int32) (u : Unit) => f_X0_isTimes S p0 = .ok r ∧ (r = 0 ∨ r = 1)) (fun _ _ => True) (fun _ => False)) (vx_X (fun k : Nat => f_X0_isTimes S p0 = .error k) (fun E k _ => E = exN k) (fun _ => False)) 2 12 (fun _ => False) := by
  refine vx_ofW (cc := cX0_isTimes) (maxL := 4) (ret := (some .boolean)) (by decide) rfl ?_
  intro p e s m args below meth c s₁ B hml hno hv
  obtain ⟨rfl, ⟨hP, hK⟩, hE⟩ := hv
  have hx := B.exec
  have hb := B.bytes
  have hr := B.returns
  have hts := atoms_spec (ws := wsX0_isTimes) B.pre
  have hown : s.vm.findClass RX0 = some m.cls := findClass_of_methodNamed B.named
  have hlocks := B.notSynchronized
  have hS : va_S (fun _ => False) s.heap s.heap [] := va_S.rf
  have hin : ∀ w ∈ wsX00, w ∈ wsX0_isTimes := by decide +kernel
  have hf9 := hts (.fieldLink RX0 9 "Powermill" "signs" "[I") (by decide +kernel)
  have hf13 := hts (.fieldLink RX0 13 "Powermill" "odds" "[J") (by decide +kernel)
  have hf17 := hts (.fieldLink RX0 17 "Powermill" "shifts" "[I") (by decide +kernel)
  have hl := lv_entry ([.ref (ad 0), .int p0]) (n := 4) (Nat.le_of_ble_eq_true rfl)
  rw [lg_entry_eq]
  generalize (lg_sl ([.ref (ad 0), .int p0]) ++ List.replicate (4 - (lg_sl ([.ref (ad 0), .int p0])).length) Slot.unset).toArray = ls at hl ⊢
  have hl : lv_has ls 4 [(0, .ref (ad 0)), (1, .int p0)] := hl
  obtain ⟨Q, hQ⟩ : ∃ Q : State → Prop, Q = (vx_MQ below (va_Qi (fun (r : Int32) (u : Unit) => f_X0_isTimes S p0 = .ok r ∧ (r = 0 ∨ r = 1)) (fun _ _ => True) (fun _ => False)) (vx_X (fun k : Nat => f_X0_isTimes S p0 = .error k) (fun E k _ => E = exN k) (fun _ => False)) ([.ref (ad 0), .int p0] : List Value).toArray s 2 12 (fun _ => False)) := ⟨_, rfl⟩
  rw [← hQ]
  have hR : f_X0_isTimes S p0 = f_X0_isTimes S p0 := rfl
  refine lv_iload_n hx hb dX0_isTimes_0 rfl (lv_at hl 1 rfl) ?_
  refine vx_callv (vx_runS (As := [.int p0]) (rest := []) ⟨hx, hb, hml, hown, hts⟩ (met_X0_checkSlot l hfl p0) (va_cwS 1 hts gX0_isTimes_X0_checkSlot rfl rfl rfl (by decide +kernel) ⟨Nat.le_of_ble_eq_true rfl, Nat.le_of_ble_eq_true rfl⟩) ⟨fun a U g mk q => ⟨q.1, xE_calling q.2⟩, fun U hU hW => ⟨rfl, xE_at hE hS hU hW⟩⟩ rfl rfl hl.1 rfl (lv_room (Nat.le_of_ble_eq_true rfl)) dX0_isTimes_1 ⟨Nat.le_of_ble_eq_true rfl, Nat.le_of_ble_eq_true rfl⟩) hS (fun q _ h => h.elim) (fun q h => h.elim) (fun q _ h => h.elim) (fun E ce q9 k1 t H locs ht hvm hw1 hB hz hk hS hc9 hv9 hf9 => ?_) (fun u1 t H locs ht hvm hw1 hB hz hk hS => ?_)
  · skip
    rw [hQ]
    exact vx_out (fun x hx => (hno x hx).elim) hlocks hc9 hv9 hf9 (fun t9 ht9 hvm9 => ⟨k1, (hR.trans (by simp only [f_X0_isTimes, hw1])), hB, hS.F ht9⟩) hS.2.2 (Nat.le_of_ble_eq_true rfl) (Nat.le_of_ble_eq_true rfl)
  · skip
    have hP := hP.kept (fun k q hk9 => hk _ (vx_lt hP hk9) (fun h => h))
    have hi1 : vp_in p0 8 := slot_in hw1
    refine lv_aload_n hx hb dX0_isTimes_4 rfl (lv_at hl 0 rfl) ?_
    refine lv_iload_n hx hb dX0_isTimes_5 rfl (lv_at hl 1 rfl) ?_
    refine vx_callv (vx_runV (As := [.int p0]) (rest := []) ⟨hx, hb, hml, hown, hts⟩ (met_X0_checkSquared l hfl D cI cJ ad S p0 (hi1)) (cwV 1 hts gX0_isTimes_X0_checkSquared rfl rfl rfl (by decide +kernel) ⟨Nat.le_of_ble_eq_true rfl, Nat.le_of_ble_eq_true rfl⟩) ⟨fun a U g mk q => ⟨q.1, b0R_calling q.2.1, xE_calling q.2.2⟩, va_recv hK hP (ci := 0) (q0 := 0) rfl rfl, fun U hU hW => ⟨rfl, b0R_at hP hK hU hW, xE_at hE hS hU hW⟩⟩ rfl rfl hl.1 rfl (lv_room (Nat.le_of_ble_eq_true rfl)) dX0_isTimes_6 ⟨Nat.le_of_ble_eq_true rfl, Nat.le_of_ble_eq_true rfl⟩) hS (fun q _ h => h.elim) (fun q h => h.elim) (fun q _ h => h.elim) (fun E ce q9 k6 t H locs ht hvm hw6 hB hz hk hS hc9 hv9 hf9 => ?_) (fun u6 t H locs ht hvm hw6 hB hz hk hS => ?_)
    · skip
      rw [hQ]
      exact vx_out (fun x hx => (hno x hx).elim) hlocks hc9 hv9 hf9 (fun t9 ht9 hvm9 => ⟨k6, (hR.trans (by simp only [f_X0_isTimes, hw1, hw6])), hB, hS.F ht9⟩) hS.2.2 (Nat.le_of_ble_eq_true rfl) (Nat.le_of_ble_eq_true rfl)
    · skip
      have hP := hP.kept (fun k q hk9 => hk _ (vx_lt hP hk9) (fun h => h))
      refine lv_aload_n hx hb dX0_isTimes_9 rfl (lv_at hl 0 rfl) ?_
      refine va_get (D := D) (ci := 0) (v := .ref (ad 1)) (C := RX0) (T := TX0) (N := 9) hx hb hts hin hown hK hP 0 rfl rfl 0 (by decide) hf9 (fun _ h9 => h9) rfl dX0_isTimes_10 ?_
      refine lv_iload_n hx hb dX0_isTimes_13 rfl (lv_at hl 1 rfl) ?_
      refine va_iald hx hb hK hP 1 0 rfl rfl hi1 dX0_isTimes_14 ?_
      refine lv_aload_n hx hb dX0_isTimes_15 rfl (lv_at hl 0 rfl) ?_
      refine va_get (D := D) (ci := 0) (v := .ref (ad 2)) (C := RX0) (T := TX0) (N := 9) hx hb hts hin hown hK hP 0 rfl rfl 1 (by decide) hf13 (fun _ h9 => h9) rfl dX0_isTimes_16 ?_
      refine lv_iload_n hx hb dX0_isTimes_19 rfl (lv_at hl 1 rfl) ?_
      refine va_lald hx hb hK hP 2 1 rfl rfl hi1 dX0_isTimes_20 ?_
      refine lv_aload_n hx hb dX0_isTimes_21 rfl (lv_at hl 0 rfl) ?_
      refine va_get (D := D) (ci := 0) (v := .ref (ad 3)) (C := RX0) (T := TX0) (N := 9) hx hb hts hin hown hK hP 0 rfl rfl 2 (by decide) hf17 (fun _ h9 => h9) rfl dX0_isTimes_22 ?_
      refine lv_iload_n hx hb dX0_isTimes_25 rfl (lv_at hl 1 rfl) ?_
      refine va_iald hx hb hK hP 3 0 rfl rfl hi1 dX0_isTimes_26 ?_
      refine va_calld (va_runS (As := [.int ((sgS S) p0.toNatClampNeg), .long ((odS S) p0.toNatClampNeg), .int ((shS S) p0.toNatClampNeg)]) (rest := []) ⟨hx, hb, hml, hown, hts⟩ (met_X0_asDouble l ((sgS S) p0.toNatClampNeg) ((odS S) p0.toNatClampNeg) ((shS S) p0.toNatClampNeg) (csq_ok hw6)) (va_cwS 3 hts gX0_isTimes_X0_asDouble rfl rfl rfl (by decide +kernel) ⟨Nat.le_of_ble_eq_true rfl, Nat.le_of_ble_eq_true rfl⟩) ⟨fun a U g mk q => q, fun U hU hW => ⟨rfl, trivial⟩⟩ rfl rfl hl.1 rfl (lv_room (Nat.le_of_ble_eq_true rfl)) dX0_isTimes_27 ⟨Nat.le_of_ble_eq_true rfl, Nat.le_of_ble_eq_true rfl⟩) hS (fun q _ h => h.elim) (fun q h => h.elim) (fun r27 u27 t H locs ht hvm hw27 hB hz hk hS => ?_)
      subst hw27
      have hP := hP.kept (fun k q hk9 => hk _ (vx_lt hP hk9) (fun h => h))
      refine lv_dstore_n (lv' := [(2, .double (f_X0_asDouble ((sgS S) p0.toNatClampNeg) ((odS S) p0.toNatClampNeg) ((shS S) p0.toNatClampNeg))), (0, .ref (ad 0)), (1, .int p0)]) hx hb dX0_isTimes_30 rfl hl (by decide) rfl (fun ls hl => ?_)
      refine lv_dload_n hx hb dX0_isTimes_31 rfl (lv_at hl 0 rfl) ?_
      refine lv_dload_n hx hb dX0_isTimes_32 rfl (lv_at hl 0 rfl) ?_
      refine lv_dmul hx hb dX0_isTimes_33 (n64_of_val (sq_nn (asD_nn (csq_ok hw6)))) ?_
      refine va_calll (va_runS (As := [.double (FP.dmul (f_X0_asDouble ((sgS S) p0.toNatClampNeg) ((odS S) p0.toNatClampNeg) ((shS S) p0.toNatClampNeg)) (f_X0_asDouble ((sgS S) p0.toNatClampNeg) ((odS S) p0.toNatClampNeg) ((shS S) p0.toNatClampNeg)))]) (rest := []) ⟨hx, hb, hml, hown, hts⟩ (met_X0_bitsOfDouble l (FP.dmul (f_X0_asDouble ((sgS S) p0.toNatClampNeg) ((odS S) p0.toNatClampNeg) ((shS S) p0.toNatClampNeg)) (f_X0_asDouble ((sgS S) p0.toNatClampNeg) ((odS S) p0.toNatClampNeg) ((shS S) p0.toNatClampNeg))) (sq_nn (asD_nn (csq_ok hw6)))) (va_cwS 1 hts gX0_isTimes_X0_bitsOfDouble rfl rfl rfl (by decide +kernel) ⟨Nat.le_of_ble_eq_true rfl, Nat.le_of_ble_eq_true rfl⟩) ⟨fun a U g mk q => q, fun U hU hW => ⟨rfl, trivial⟩⟩ rfl rfl hl.1 rfl (lv_room (Nat.le_of_ble_eq_true rfl)) dX0_isTimes_34 ⟨Nat.le_of_ble_eq_true rfl, Nat.le_of_ble_eq_true rfl⟩) hS (fun q _ h => h.elim) (fun q h => h.elim) (fun r34 u34 t H locs ht hvm hw34 hB hz hk hS => ?_)
      subst hw34
      have hP := hP.kept (fun k q hk9 => hk _ (vx_lt hP hk9) (fun h => h))
      refine lv_aload_n hx hb dX0_isTimes_37 rfl (lv_at hl 1 rfl) ?_
      refine va_get (D := D) (ci := 0) (v := .ref (ad 2)) (C := RX0) (T := TX0) (N := 9) hx hb hts hin hown hK hP 0 rfl rfl 1 (by decide) hf13 (fun _ h9 => h9) rfl dX0_isTimes_38 ?_
      refine lv_iload_n hx hb dX0_isTimes_41 rfl (lv_at hl 2 rfl) ?_
      refine va_lald hx hb hK hP 2 1 rfl rfl hi1 dX0_isTimes_42 ?_
      refine lv_aload_n hx hb dX0_isTimes_43 rfl (lv_at hl 1 rfl) ?_
      refine va_get (D := D) (ci := 0) (v := .ref (ad 3)) (C := RX0) (T := TX0) (N := 9) hx hb hts hin hown hK hP 0 rfl rfl 2 (by decide) hf17 (fun _ h9 => h9) rfl dX0_isTimes_44 ?_
      refine lv_iload_n hx hb dX0_isTimes_47 rfl (lv_at hl 2 rfl) ?_
      refine va_iald hx hb hK hP 3 0 rfl rfl hi1 dX0_isTimes_48 ?_
      refine va_calll (va_runS (As := [.long ((odS S) p0.toNatClampNeg), .int ((shS S) p0.toNatClampNeg)]) (rest := [.long (f_X0_bitsOfDouble (FP.dmul (f_X0_asDouble ((sgS S) p0.toNatClampNeg) ((odS S) p0.toNatClampNeg) ((shS S) p0.toNatClampNeg)) (f_X0_asDouble ((sgS S) p0.toNatClampNeg) ((odS S) p0.toNatClampNeg) ((shS S) p0.toNatClampNeg))))]) ⟨hx, hb, hml, hown, hts⟩ (met_X0_nearestSquareBits l ((odS S) p0.toNatClampNeg) ((shS S) p0.toNatClampNeg)) (va_cwS 2 hts gX0_isTimes_X0_nearestSquareBits rfl rfl rfl (by decide +kernel) ⟨Nat.le_of_ble_eq_true rfl, Nat.le_of_ble_eq_true rfl⟩) ⟨fun a U g mk q => q, fun U hU hW => ⟨rfl, trivial⟩⟩ rfl rfl hl.1 rfl (lv_room (Nat.le_of_ble_eq_true rfl)) dX0_isTimes_49 ⟨Nat.le_of_ble_eq_true rfl, Nat.le_of_ble_eq_true rfl⟩) hS (fun q _ h => h.elim) (fun q h => h.elim) (fun r49 u49 t H locs ht hvm hw49 hB hz hk hS => ?_)
      subst hw49
      have hP := hP.kept (fun k q hk9 => hk _ (vx_lt hP hk9) (fun h => h))
      refine W.lcmp hx hb dX0_isTimes_52 ?_
      refine lv_if_ne (tgt := 60) hx hb dX0_isTimes_53 (by decide) (fun c52 => ?_) (fun c52 => ?_)
      · skip
        have c52 : ¬ (((f_X0_bitsOfDouble (FP.dmul (f_X0_asDouble ((sgS S) p0.toNatClampNeg) ((odS S) p0.toNatClampNeg) ((shS S) p0.toNatClampNeg)) (f_X0_asDouble ((sgS S) p0.toNatClampNeg) ((odS S) p0.toNatClampNeg) ((shS S) p0.toNatClampNeg)))) : Int64) = (f_X0_nearestSquareBits ((odS S) p0.toNatClampNeg) ((shS S) p0.toNatClampNeg))) := fun h => c52 ((lg_cmp_eq _ _).mpr h)
        refine lv_iconst (v := 0) hx hb dX0_isTimes_60 (by decide) ?_
        rw [hQ]
        refine vx_ret ?_
        exact W.zret (ty := .boolean) (v := 0) hx hb hr (nbool (Or.inl rfl)) (fun t ht hW => ⟨⟨0, (), rfl, ⟨(hR.trans (by simp only [f_X0_isTimes, hw1, hw6, if_neg c52])), (Or.inl rfl)⟩, trivial⟩, hS.F ht⟩) hS.2.2 dX0_isTimes_61
      · skip
        have c52 : ((f_X0_bitsOfDouble (FP.dmul (f_X0_asDouble ((sgS S) p0.toNatClampNeg) ((odS S) p0.toNatClampNeg) ((shS S) p0.toNatClampNeg)) (f_X0_asDouble ((sgS S) p0.toNatClampNeg) ((odS S) p0.toNatClampNeg) ((shS S) p0.toNatClampNeg)))) : Int64) = (f_X0_nearestSquareBits ((odS S) p0.toNatClampNeg) ((shS S) p0.toNatClampNeg)) := (lg_cmp_eq _ _).mp c52
        refine lv_iconst (v := 1) hx hb dX0_isTimes_56 (by decide) ?_
        refine lv_goto (tgt := 61) hx hb dX0_isTimes_57 (by decide) ?_
        rw [hQ]
        refine vx_ret ?_
        exact W.zret (ty := .boolean) (v := 1) hx hb hr (nbool (Or.inr rfl)) (fun t ht hW => ⟨⟨1, (), rfl, ⟨(hR.trans (by simp only [f_X0_isTimes, hw1, hw6, if_pos c52])), (Or.inr rfl)⟩, trivial⟩, hS.F ht⟩) hS.2.2 dX0_isTimes_61

def g_X0_isSound_2 (S : pS) : Nat → Int32 → Int32
  | 0, _ => 0
  | n + 1, v2_1 => (if (8 : Int32) ≤ v2_1 then 1 else (if ((f_X0_bitsOfDouble (f_X0_asDouble ((sgS S) v2_1.toNatClampNeg) ((odS S) v2_1.toNatClampNeg) ((shS S) v2_1.toNatClampNeg))) : Int64) = (f_X0_slotBits S v2_1) then (g_X0_isSound_2 S n (v2_1 + 1)) else 0))
def f_X0_isSound (S : pS) : Int32 := (g_X0_isSound_2 S (((8 : Int32).toInt - (0 : Int32).toInt).toNat + 1) 0)
set_option maxHeartbeats 4000000 in
set_option maxRecDepth 100000 in
theorem met_X0_isSound (l : Launch) (D : va_G) (cI cJ : ClassId) (ad : Nat → Nat) (S : pS) (hsh : ∀ j : Nat, j < 8 → pOk ((shS S) j)) : Met l yX0_isSound wsX0_isSound ({ frames := 3, cells := 0, slots := 0, locals := 77 } : Room) (va_Pc [.ref (ad 0)] (fun U => b0R D cI cJ ad S U)) (va_Qi (fun (r : Int32) (u : Unit) => f_X0_isSound S = r ∧ (r = 0 ∨ r = 1)) (fun _ _ => True) (fun _ => False)) 0 0 (fun _ => False) := by
  refine Met.ofW (cc := cX0_isSound) (maxL := 2) (ret := (some .boolean)) (by decide) rfl ?_
  intro p e s m args below meth c s₁ B hml hv
  obtain ⟨rfl, ⟨hP, hK⟩⟩ := hv
  have hx := B.exec
  have hb := B.bytes
  have hr := B.returns
  have hts := atoms_spec (ws := wsX0_isSound) B.pre
  have hown : s.vm.findClass RX0 = some m.cls := findClass_of_methodNamed B.named
  have hlocks := B.notSynchronized
  have hS : va_S (fun _ => False) s.heap s.heap [] := va_S.rf
  have hin : ∀ w ∈ wsX00, w ∈ wsX0_isSound := by decide +kernel
  have hf9 := hts (.fieldLink RX0 9 "Powermill" "signs" "[I") (by decide +kernel)
  have hf13 := hts (.fieldLink RX0 13 "Powermill" "odds" "[J") (by decide +kernel)
  have hf17 := hts (.fieldLink RX0 17 "Powermill" "shifts" "[I") (by decide +kernel)
  have hl := lv_entry ([.ref (ad 0)]) (n := 2) (Nat.le_of_ble_eq_true rfl)
  rw [lg_entry_eq]
  generalize (lg_sl ([.ref (ad 0)]) ++ List.replicate (2 - (lg_sl ([.ref (ad 0)])).length) Slot.unset).toArray = ls at hl ⊢
  have hl : lv_has ls 2 [(0, .ref (ad 0))] := hl
  obtain ⟨Q, hQ⟩ : ∃ Q : State → Prop, Q = (MQ below (va_Qi (fun (r : Int32) (u : Unit) => f_X0_isSound S = r ∧ (r = 0 ∨ r = 1)) (fun _ _ => True) (fun _ => False)) ([.ref (ad 0)] : List Value).toArray s 0 0 (fun _ => False)) := ⟨_, rfl⟩
  rw [← hQ]
  have hR : f_X0_isSound S = f_X0_isSound S := rfl
  refine lv_iconst (v := 0) hx hb dX0_isSound_0 (by decide) ?_
  refine lv_istore_n (lv' := [(1, .int 0), (0, .ref (ad 0))]) hx hb dX0_isSound_1 rfl hl (by decide) rfl (fun ls hl => ?_)
  have J2 : ∀ (n2 : Nat) (v2_1 : Int32) (ls : Array Slot) (H : Heap) (locs : List Loc), lv_has ls 2 [(0, .ref (ad 0)), (1, .int v2_1)] → va_S (fun _ => False) s.heap H locs → va_P D pCl (pmW cI cJ ad S) H → f_X0_isSound S = g_X0_isSound_2 S n2 v2_1 → ((8 : Int32).toInt - v2_1.toInt).toNat < n2 → ((0 : Int32) ≤ v2_1) → W p l e (headSpec wsX0_isSound ({ frames := 3, cells := 0, slots := 0, locals := 77 } : Room)).room s m ([.ref (ad 0)] : List Value).toArray below meth c H locs 0 0 Q (F0 m 2 ls []) := by
    intro n2
    induction n2 with
    | zero => intro v2_1 ls H locs hl hS hP hR hmu2 hi2_0; exact absurd hmu2 (Nat.not_lt_zero _)
    | succ n2 ih2 =>
      intro v2_1 ls H locs hl hS hP hR hmu2 hi2_0
      refine lv_iload_n hx hb dX0_isSound_2 rfl (lv_at hl 1 rfl) ?_
      refine lv_bipush (v := 8) hx hb dX0_isSound_3 (by decide) ?_
      refine lv_icmp_ge (tgt := 49) hx hb dX0_isSound_5 (by decide) (fun c5 => ?_) (fun c5 => ?_)
      · skip
        refine lv_iconst (v := 1) hx hb dX0_isSound_49 (by decide) ?_
        rw [hQ]
        exact W.zret (ty := .boolean) (v := 1) hx hb hr (nbool (Or.inr rfl)) (fun t ht hW => ⟨⟨1, (), rfl, ⟨(hR.trans (by simp only [g_X0_isSound_2, if_pos c5])), (Or.inr rfl)⟩, trivial⟩, hS.F ht⟩) hS.2.2 dX0_isSound_50
      · skip
        refine lv_aload_n hx hb dX0_isSound_8 rfl (lv_at hl 0 rfl) ?_
        refine va_get (D := D) (ci := 0) (v := .ref (ad 1)) (C := RX0) (T := TX0) (N := 9) hx hb hts hin hown hK hP 0 rfl rfl 0 (by decide) hf9 (fun _ h9 => h9) rfl dX0_isSound_9 ?_
        refine lv_iload_n hx hb dX0_isSound_12 rfl (lv_at hl 1 rfl) ?_
        refine va_iald hx hb hK hP 1 0 rfl rfl (in8 hi2_0 c5) dX0_isSound_13 ?_
        refine lv_aload_n hx hb dX0_isSound_14 rfl (lv_at hl 0 rfl) ?_
        refine va_get (D := D) (ci := 0) (v := .ref (ad 2)) (C := RX0) (T := TX0) (N := 9) hx hb hts hin hown hK hP 0 rfl rfl 1 (by decide) hf13 (fun _ h9 => h9) rfl dX0_isSound_15 ?_
        refine lv_iload_n hx hb dX0_isSound_18 rfl (lv_at hl 1 rfl) ?_
        refine va_lald hx hb hK hP 2 1 rfl rfl (in8 hi2_0 c5) dX0_isSound_19 ?_
        refine lv_aload_n hx hb dX0_isSound_20 rfl (lv_at hl 0 rfl) ?_
        refine va_get (D := D) (ci := 0) (v := .ref (ad 3)) (C := RX0) (T := TX0) (N := 9) hx hb hts hin hown hK hP 0 rfl rfl 2 (by decide) hf17 (fun _ h9 => h9) rfl dX0_isSound_21 ?_
        refine lv_iload_n hx hb dX0_isSound_24 rfl (lv_at hl 1 rfl) ?_
        refine va_iald hx hb hK hP 3 0 rfl rfl (in8 hi2_0 c5) dX0_isSound_25 ?_
        refine va_calld (va_runS (As := [.int ((sgS S) v2_1.toNatClampNeg), .long ((odS S) v2_1.toNatClampNeg), .int ((shS S) v2_1.toNatClampNeg)]) (rest := []) ⟨hx, hb, hml, hown, hts⟩ (met_X0_asDouble l ((sgS S) v2_1.toNatClampNeg) ((odS S) v2_1.toNatClampNeg) ((shS S) v2_1.toNatClampNeg) (hsh _ (in8_lt hi2_0 c5))) (va_cwS 3 hts gX0_isSound_X0_asDouble rfl rfl rfl (by decide +kernel) ⟨Nat.le_of_ble_eq_true rfl, Nat.le_of_ble_eq_true rfl⟩) ⟨fun a U g mk q => q, fun U hU hW => ⟨rfl, trivial⟩⟩ rfl rfl hl.1 rfl (lv_room (Nat.le_of_ble_eq_true rfl)) dX0_isSound_26 ⟨Nat.le_of_ble_eq_true rfl, Nat.le_of_ble_eq_true rfl⟩) hS (fun q _ h => h.elim) (fun q h => h.elim) (fun r26 u26 t H locs ht hvm hw26 hB hz hk hS => ?_)
        subst hw26
        have hP := hP.kept (fun k q hk9 => hk _ (vx_lt hP hk9) (fun h => h))
        refine va_calll (va_runS (As := [.double (f_X0_asDouble ((sgS S) v2_1.toNatClampNeg) ((odS S) v2_1.toNatClampNeg) ((shS S) v2_1.toNatClampNeg))]) (rest := []) ⟨hx, hb, hml, hown, hts⟩ (met_X0_bitsOfDouble l (f_X0_asDouble ((sgS S) v2_1.toNatClampNeg) ((odS S) v2_1.toNatClampNeg) ((shS S) v2_1.toNatClampNeg)) (asD_nn (hsh _ (in8_lt hi2_0 c5)))) (va_cwS 1 hts gX0_isSound_X0_bitsOfDouble rfl rfl rfl (by decide +kernel) ⟨Nat.le_of_ble_eq_true rfl, Nat.le_of_ble_eq_true rfl⟩) ⟨fun a U g mk q => q, fun U hU hW => ⟨rfl, trivial⟩⟩ rfl rfl hl.1 rfl (lv_room (Nat.le_of_ble_eq_true rfl)) dX0_isSound_29 ⟨Nat.le_of_ble_eq_true rfl, Nat.le_of_ble_eq_true rfl⟩) hS (fun q _ h => h.elim) (fun q h => h.elim) (fun r29 u29 t H locs ht hvm hw29 hB hz hk hS => ?_)
        subst hw29
        have hP := hP.kept (fun k q hk9 => hk _ (vx_lt hP hk9) (fun h => h))
        refine lv_aload_n hx hb dX0_isSound_32 rfl (lv_at hl 0 rfl) ?_
        refine lv_iload_n hx hb dX0_isSound_33 rfl (lv_at hl 1 rfl) ?_
        refine va_calll (va_runV (As := [.int v2_1]) (rest := [.long (f_X0_bitsOfDouble (f_X0_asDouble ((sgS S) v2_1.toNatClampNeg) ((odS S) v2_1.toNatClampNeg) ((shS S) v2_1.toNatClampNeg)))]) ⟨hx, hb, hml, hown, hts⟩ (met_X0_slotBits l D cI cJ ad S v2_1 ((in8 hi2_0 c5))) (cwV 1 hts gX0_isSound_X0_slotBits rfl rfl rfl (by decide +kernel) ⟨Nat.le_of_ble_eq_true rfl, Nat.le_of_ble_eq_true rfl⟩) ⟨fun a U g mk q => ⟨q.1, b0R_calling q.2⟩, va_recv hK hP (ci := 0) (q0 := 0) rfl rfl, fun U hU hW => ⟨rfl, b0R_at hP hK hU hW⟩⟩ rfl rfl hl.1 rfl (lv_room (Nat.le_of_ble_eq_true rfl)) dX0_isSound_34 ⟨Nat.le_of_ble_eq_true rfl, Nat.le_of_ble_eq_true rfl⟩) hS (fun q _ h => h.elim) (fun q h => h.elim) (fun r34 u34 t H locs ht hvm hw34 hB hz hk hS => ?_)
        subst hw34
        have hP := hP.kept (fun k q hk9 => hk _ (vx_lt hP hk9) (fun h => h))
        refine W.lcmp hx hb dX0_isSound_37 ?_
        refine lv_if_eq (tgt := 43) hx hb dX0_isSound_38 (by decide) (fun c37 => ?_) (fun c37 => ?_)
        · skip
          have c37 : ((f_X0_bitsOfDouble (f_X0_asDouble ((sgS S) v2_1.toNatClampNeg) ((odS S) v2_1.toNatClampNeg) ((shS S) v2_1.toNatClampNeg))) : Int64) = (f_X0_slotBits S v2_1) := (lg_cmp_eq _ _).mp c37
          refine lv_iinc (v := (v2_1 + 1)) (lv' := [(1, .int (v2_1 + 1)), (0, .ref (ad 0))]) hx hb dX0_isSound_43 hl (k := 1) rfl (by rfl) (by decide) rfl (fun ls hl => ?_)
          refine lv_goto (tgt := 2) hx hb dX0_isSound_46 (by decide) ?_
          exact ih2 (v2_1 + 1) ls _ _ (lv_sub hl [1, 0] rfl) hS hP (hR.trans (by simp only [g_X0_isSound_2, if_neg c5, if_pos c37])) (mu_up c5 hmu2) (inc0 hi2_0 c5)
        · skip
          have c37 : ¬ (((f_X0_bitsOfDouble (f_X0_asDouble ((sgS S) v2_1.toNatClampNeg) ((odS S) v2_1.toNatClampNeg) ((shS S) v2_1.toNatClampNeg))) : Int64) = (f_X0_slotBits S v2_1)) := fun h => c37 ((lg_cmp_eq _ _).mpr h)
          refine lv_iconst (v := 0) hx hb dX0_isSound_41 (by decide) ?_
          rw [hQ]
          exact W.zret (ty := .boolean) (v := 0) hx hb hr (nbool (Or.inl rfl)) (fun t ht hW => ⟨⟨0, (), rfl, ⟨(hR.trans (by simp only [g_X0_isSound_2, if_neg c5, if_neg c37])), (Or.inl rfl)⟩, trivial⟩, hS.F ht⟩) hS.2.2 dX0_isSound_42
  exact J2 (((8 : Int32).toInt - (0 : Int32).toInt).toNat + 1) 0 ls _ _ (lv_sub hl [1, 0] rfl) hS hP (hR.trans (by simp only [f_X0_isSound])) (Nat.lt_succ_self _) (by decide)

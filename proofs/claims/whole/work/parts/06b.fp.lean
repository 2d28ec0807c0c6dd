/-! powers of 2 as doubles: what the loop of twoAsDouble keeps -/
def fct (p : Int32) : UInt64 := if (0 : Int32) ≤ p then 4611686018427387904 else 4602678819172646912
def lft (p : Int32) : Int32 := if (0 : Int32) ≤ p then p else -p
def sg1 (p : Int32) : Int := if (0 : Int32) ≤ p then 1 else -1
def pOk (p : Int32) : Prop := -1000 ≤ p.toInt ∧ p.toInt ≤ 1000
def absP (p : Int32) : Nat := p.toInt.natAbs
theorem sg1_or (p : Int32) : sg1 p = 1 ∨ sg1 p = -1 := by unfold sg1; split <;> simp
theorem fct_eq (p : Int32) : fct p = tw (sg1 p) := by
  unfold fct sg1
  split
  · exact tw_two
  · exact tw_half
theorem lft_eq {p : Int32} (h : pOk p) : lft p = nI (absP p) := by
  obtain ⟨h1, h2⟩ := h
  unfold lft absP
  split
  · rename_i c
    rw [fa_le, i0] at c
    rw [fa_eq, nI_toInt (by omega)]
    omega
  · rename_i c
    rw [fa_le, i0] at c
    rw [fa_eq, nI_toInt (by omega), fb_negI (by omega)]
    omega
theorem abs_sg (p : Int32) : sg1 p * (absP p : Int) = p.toInt := by
  unfold sg1 absP
  split
  · rename_i c
    rw [fa_le, i0] at c
    omega
  · rename_i c
    rw [fa_le, i0] at c
    omega
theorem absP_le {p : Int32} (h : pOk p) : absP p ≤ 1000 := by
  obtain ⟨h1, h2⟩ := h
  unfold absP
  omega
def twI (p : Int32) (v1 v3 : UInt64) (v6 : Int32) : Prop := ∃ k : Nat, k ≤ 10 ∧ v6 = nI k ∧ v1 = tw (sg1 p * ((absP p % 2 ^ k : Nat) : Int)) ∧ (k ≤ 9 → v3 = tw (sg1 p * ((2 ^ k : Nat) : Int)))
def twP (p : Int32) (v6 : Int32) (v1 : UInt64) : Prop := ∃ k : Nat, k ≤ 9 ∧ v6 = nI k ∧ v1 = tw (sg1 p * ((absP p % 2 ^ (k + 1) : Nat) : Int))
theorem twI_0 {p : Int32} {w : UInt64} (h : w = fct p) : twI p FP.dconst1 w 0 := by
  refine ⟨0, by decide, rfl, ?_, fun _ => ?_⟩
  · rw [Nat.pow_zero, Nat.mod_one, Int.natCast_zero, Int.mul_zero]
    exact tw_one
  · rw [h, fct_eq, Nat.pow_zero, Int.natCast_one, Int.mul_one]
theorem sh31 : ∀ n, n < 32 → ((nI n &&& 31).toBitVec.smod 32).toNat = n := by decide
theorem bit_of {L k : Nat} (hL : L < 2 ^ 31) (hk : k < 31) : ((nI L) >>> ((nI k) &&& 31)) &&& 1 = nI (L / 2 ^ k % 2) := by
  rw [pk_shrN hL (nI k &&& 31) k (sh31 k (by omega)), pk_andN (by have := Nat.div_le_self L (2 ^ k); omega) 1 (by decide), Nat.pow_one]
theorem pow8 : ∀ k, k ≤ 8 → 2 ^ k ≤ 256 := by decide
theorem pow9 : ∀ k, k ≤ 9 → 2 ^ k ≤ 512 := by decide
theorem tw_bit1 {p v6 w : Int32} {v1 v3 : UInt64} (hp : pOk p) (hi : twI p v1 v3 v6) (c : ¬ (10 : Int32) ≤ v6) (hl : w = lft p) (hb : ((w >>> (v6 &&& 31)) &&& 1) = 1) : FP.Core.val64 (FP.dmul v1 v3) ≠ .nan ∧ twP p v6 (FP.dmul v1 v3) := by
  obtain ⟨k, hk, rfl, rfl, h3⟩ := hi
  have hk9 : k ≤ 9 := by
    rw [show (10 : Int32) = nI 10 from rfl, nI_leI (by decide) (by omega)] at c
    omega
  have hL := absP_le hp
  rw [hl, lft_eq hp, bit_of (by omega) (by omega), show (1 : Int32) = nI 1 from rfl, nI_eq (by omega) (by decide)] at hb
  have hm : absP p % 2 ^ (k + 1) = absP p % 2 ^ k + 2 ^ k := by rw [Nat.mod_pow_succ, hb, Nat.mul_one]
  have hle := Nat.mod_le (absP p) (2 ^ (k + 1))
  have hpw := pow9 k hk9
  rw [h3 hk9]
  have e : FP.dmul (tw (sg1 p * ((absP p % 2 ^ k : Nat) : Int))) (tw (sg1 p * ((2 ^ k : Nat) : Int))) = tw (sg1 p * ((absP p % 2 ^ (k + 1) : Nat) : Int)) := by
    rw [hm, Int.natCast_add, Int.mul_add]
    rcases sg1_or p with h | h <;> rw [h] <;> exact tw_mul (by omega) (by omega) (by omega) (by omega) (by omega) (by omega)
  rw [e]
  refine ⟨?_, k, hk9, rfl, rfl⟩
  rw [tw_val (by rcases sg1_or p with h | h <;> rw [h] <;> omega) (by rcases sg1_or p with h | h <;> rw [h] <;> omega)]
  exact fun e => by cases e
theorem tw_bit0 {p v6 w : Int32} {v1 v3 : UInt64} (hp : pOk p) (hi : twI p v1 v3 v6) (c : ¬ (10 : Int32) ≤ v6) (hl : w = lft p) (hb : ¬ ((w >>> (v6 &&& 31)) &&& 1) = 1) : twP p v6 v1 := by
  obtain ⟨k, hk, rfl, rfl, h3⟩ := hi
  have hk9 : k ≤ 9 := by
    rw [show (10 : Int32) = nI 10 from rfl, nI_leI (by decide) (by omega)] at c
    omega
  have hL := absP_le hp
  rw [hl, lft_eq hp, bit_of (by omega) (by omega), show (1 : Int32) = nI 1 from rfl, nI_eq (by omega) (by decide)] at hb
  have hm : absP p % 2 ^ (k + 1) = absP p % 2 ^ k := by
    rw [Nat.mod_pow_succ, show absP p / 2 ^ k % 2 = 0 by omega, Nat.mul_zero, Nat.add_zero]
  exact ⟨k, hk9, rfl, by rw [hm]⟩
theorem tw_sq {p v6 : Int32} {v1 v3 : UInt64} (hi : twI p v1 v3 v6) (c : ¬ (9 : Int32) ≤ v6) : ∃ k : Nat, k ≤ 8 ∧ v6 = nI k ∧ FP.dmul v3 v3 = tw (sg1 p * ((2 ^ (k + 1) : Nat) : Int)) := by
  obtain ⟨k, hk, rfl, -, h3⟩ := hi
  have hk9 : k ≤ 8 := by
    rw [show (9 : Int32) = nI 9 from rfl, nI_leI (by decide) (by omega)] at c
    omega
  refine ⟨k, hk9, rfl, ?_⟩
  have h2 : 2 ^ (k + 1) = 2 ^ k + 2 ^ k := by rw [Nat.pow_succ]; omega
  have key : ∀ P : Nat, P ≤ 256 → FP.dmul (tw (sg1 p * (P : Int))) (tw (sg1 p * (P : Int))) = tw (sg1 p * ((P + P : Nat) : Int)) := by
    intro P hP
    rw [Int.natCast_add, Int.mul_add]
    rcases sg1_or p with h | h <;> rw [h] <;> exact tw_mul (by omega) (by omega) (by omega) (by omega) (by omega) (by omega)
  rw [h3 (by omega), h2]
  exact key _ (pow8 k hk9)
theorem tw_sqn {p v6 : Int32} {v1 v3 : UInt64} (hi : twI p v1 v3 v6) (c : ¬ (9 : Int32) ≤ v6) : FP.Core.val64 (FP.dmul v3 v3) ≠ .nan := by
  obtain ⟨k, h1, -, h2⟩ := tw_sq hi c
  have key : ∀ P : Nat, P ≤ 512 → FP.Core.val64 (tw (sg1 p * (P : Int))) ≠ .nan := by
    intro P hP
    rw [tw_val (by rcases sg1_or p with h | h <;> rw [h] <;> omega) (by rcases sg1_or p with h | h <;> rw [h] <;> omega)]
    exact fun e => by cases e
  rw [h2]
  exact key _ (pow9 (k + 1) (by omega))
theorem tw_next1 {p v6 : Int32} {v1 v3 v1' : UInt64} (hP : twP p v6 v1') (hi : twI p v1 v3 v6) (c : ¬ (9 : Int32) ≤ v6) : twI p v1' (FP.dmul v3 v3) (v6 + 1) := by
  obtain ⟨k, h1, rfl, h2⟩ := tw_sq hi c
  obtain ⟨j, h3, h4, rfl⟩ := hP
  rw [nI_eq (by omega) (by omega)] at h4
  subst h4
  exact ⟨k + 1, by omega, nI_1 k, rfl, fun _ => h2⟩
theorem tw_next0 {p v6 : Int32} {v1' v3 : UInt64} (hP : twP p v6 v1') (c : (9 : Int32) ≤ v6) : twI p v1' v3 (v6 + 1) := by
  obtain ⟨j, h3, rfl, rfl⟩ := hP
  rw [show (9 : Int32) = nI 9 from rfl, nI_leI (by decide) (by omega)] at c
  exact ⟨j + 1, by omega, nI_1 j, rfl, fun h => absurd h (by omega)⟩
theorem tw_out {p v6 : Int32} {v1 v3 : UInt64} (hp : pOk p) (hi : twI p v1 v3 v6) (c : (10 : Int32) ≤ v6) : v1 = tw p.toInt := by
  obtain ⟨k, hk, rfl, rfl, -⟩ := hi
  rw [show (10 : Int32) = nI 10 from rfl, nI_leI (by decide) (by omega)] at c
  have e : k = 10 := by omega
  have hL := absP_le hp
  rw [e, Nat.mod_eq_of_lt (by omega), abs_sg]

def g_X0_twoAsDouble_53 (rec31 : UInt64 → UInt64 → Int32 → UInt64) (v31_3 : UInt64) (v31_6 : Int32) (v53_1 : UInt64) : UInt64 := (if (9 : Int32) ≤ v31_6 then (rec31 v53_1 v31_3 (v31_6 + 1)) else (rec31 v53_1 (FP.dmul v31_3 v31_3) (v31_6 + 1)))
def g_X0_twoAsDouble_31 (w26_0 : Int32) : Nat → UInt64 → UInt64 → Int32 → UInt64
  | 0, _, _, _ => 0
  | n + 1, v31_1, v31_3, v31_6 => (if (10 : Int32) ≤ v31_6 then v31_1 else (if (((w26_0 >>> (v31_6 &&& 31)) &&& 1) : Int32) = 1 then (g_X0_twoAsDouble_53 (fun a0 a1 a2 => g_X0_twoAsDouble_31 w26_0 n a0 a1 a2) v31_3 v31_6 (FP.dmul v31_1 v31_3)) else (g_X0_twoAsDouble_53 (fun a0 a1 a2 => g_X0_twoAsDouble_31 w26_0 n a0 a1 a2) v31_3 v31_6 v31_1)))
def g_X0_twoAsDouble_26 (w15_0 : UInt64) (w26_0 : Int32) : UInt64 := (g_X0_twoAsDouble_31 w26_0 (((10 : Int32).toInt - (0 : Int32).toInt).toNat + 1) FP.dconst1 w15_0 0)
def g_X0_twoAsDouble_15 (p0 : Int32) (w15_0 : UInt64) : UInt64 := (if (0 : Int32) ≤ p0 then (g_X0_twoAsDouble_26 w15_0 p0) else (g_X0_twoAsDouble_26 w15_0 (-p0)))
def f_X0_twoAsDouble (p0 : Int32) : UInt64 := (if (0 : Int32) ≤ p0 then (g_X0_twoAsDouble_15 p0 4611686018427387904) else (g_X0_twoAsDouble_15 p0 4602678819172646912))
set_option maxHeartbeats 4000000 in
set_option maxRecDepth 100000 in
theorem met_X0_twoAsDouble (l : Launch) (p0 : Int32) (h0 : pOk p0) : Met l yX0_twoAsDouble wsX0_twoAsDouble ({ frames := 0, cells := 0, slots := 0, locals := 0 } : Room) (va_Pc [.int p0] (fun U => True)) (va_Qd (fun (r : UInt64) (u : Unit) => f_X0_twoAsDouble p0 = r) (fun _ _ => True) (fun _ => False)) 0 0 (fun _ => False) := by
  refine Met.ofW (cc := cX0_twoAsDouble) (maxL := 7) (ret := (some .double)) (by decide) rfl ?_
  intro p e s m args below meth c s₁ B hml hv
  obtain ⟨rfl, -⟩ := hv
  have hx := B.exec
  have hb := B.bytes
  have hr := B.returns
  have hts := atoms_spec (ws := wsX0_twoAsDouble) B.pre
  have hown : s.vm.findClass RX0 = some m.cls := findClass_of_methodNamed B.named
  have hlocks := B.notSynchronized
  have hS : va_S (fun _ => False) s.heap s.heap [] := va_S.rf
  have hl := lv_entry ([.int p0]) (n := 7) (Nat.le_of_ble_eq_true rfl)
  rw [lg_entry_eq]
  generalize (lg_sl ([.int p0]) ++ List.replicate (7 - (lg_sl ([.int p0])).length) Slot.unset).toArray = ls at hl ⊢
  have hl : lv_has ls 7 [(0, .int p0)] := hl
  obtain ⟨Q, hQ⟩ : ∃ Q : State → Prop, Q = (MQ below (va_Qd (fun (r : UInt64) (u : Unit) => f_X0_twoAsDouble p0 = r) (fun _ _ => True) (fun _ => False)) ([.int p0] : List Value).toArray s 0 0 (fun _ => False)) := ⟨_, rfl⟩
  rw [← hQ]
  have hR : f_X0_twoAsDouble p0 = f_X0_twoAsDouble p0 := rfl
  refine lv_dconst1 hx hb dX0_twoAsDouble_0 ?_
  refine lv_dstore_n (lv' := [(1, .double FP.dconst1), (0, .int p0)]) hx hb dX0_twoAsDouble_1 rfl hl (by decide) rfl (fun ls hl => ?_)
  refine lv_iload_n hx hb dX0_twoAsDouble_2 rfl (lv_at hl 1 rfl) ?_
  have J15 : ∀ (w15_0 : UInt64) (ls : Array Slot) (H : Heap) (locs : List Loc), lv_has ls 7 [(0, .int p0), (1, .double FP.dconst1)] → va_S (fun _ => False) s.heap H locs → (w15_0 = fct p0) → f_X0_twoAsDouble p0 = g_X0_twoAsDouble_15 p0 w15_0 → W p l e (headSpec wsX0_twoAsDouble ({ frames := 0, cells := 0, slots := 0, locals := 0 } : Room)).room s m ([.int p0] : List Value).toArray below meth c H locs 0 0 Q (F0 m 15 ls [.double w15_0]) := by
    intro w15_0 ls H locs hl hS hj15 hR
    refine lv_dstore_n (lv' := [(3, .double w15_0), (0, .int p0), (1, .double FP.dconst1)]) hx hb dX0_twoAsDouble_15 rfl hl (by decide) rfl (fun ls hl => ?_)
    refine lv_iload_n hx hb dX0_twoAsDouble_16 rfl (lv_at hl 1 rfl) ?_
    have J26 : ∀ (w26_0 : Int32) (ls : Array Slot) (H : Heap) (locs : List Loc), lv_has ls 7 [(0, .int p0), (1, .double FP.dconst1), (3, .double w15_0)] → va_S (fun _ => False) s.heap H locs → (w26_0 = lft p0) → f_X0_twoAsDouble p0 = g_X0_twoAsDouble_26 w15_0 w26_0 → W p l e (headSpec wsX0_twoAsDouble ({ frames := 0, cells := 0, slots := 0, locals := 0 } : Room)).room s m ([.int p0] : List Value).toArray below meth c H locs 0 0 Q (F0 m 26 ls [.int w26_0]) := by
      intro w26_0 ls H locs hl hS hj26 hR
      refine lv_istore (lv' := [(5, .int w26_0), (0, .int p0), (1, .double FP.dconst1), (3, .double w15_0)]) hx hb dX0_twoAsDouble_26 hl (by decide) rfl (fun ls hl => ?_)
      refine lv_iconst (v := 0) hx hb dX0_twoAsDouble_28 (by decide) ?_
      refine lv_istore (lv' := [(6, .int 0), (5, .int w26_0), (0, .int p0), (1, .double FP.dconst1), (3, .double w15_0)]) hx hb dX0_twoAsDouble_29 hl (by decide) rfl (fun ls hl => ?_)
      have J31 : ∀ (n31 : Nat) (v31_1 : UInt64) (v31_3 : UInt64) (v31_6 : Int32) (ls : Array Slot) (H : Heap) (locs : List Loc), lv_has ls 7 [(0, .int p0), (1, .double v31_1), (3, .double v31_3), (5, .int w26_0), (6, .int v31_6)] → va_S (fun _ => False) s.heap H locs → f_X0_twoAsDouble p0 = g_X0_twoAsDouble_31 w26_0 n31 v31_1 v31_3 v31_6 → ((10 : Int32).toInt - v31_6.toInt).toNat < n31 → (twI p0 v31_1 v31_3 v31_6) → W p l e (headSpec wsX0_twoAsDouble ({ frames := 0, cells := 0, slots := 0, locals := 0 } : Room)).room s m ([.int p0] : List Value).toArray below meth c H locs 0 0 Q (F0 m 31 ls []) := by
        intro n31
        induction n31 with
        | zero => intro v31_1 v31_3 v31_6 ls H locs hl hS hR hmu31 hi31_0; exact absurd hmu31 (Nat.not_lt_zero _)
        | succ n31 ih31 =>
          intro v31_1 v31_3 v31_6 ls H locs hl hS hR hmu31 hi31_0
          refine lv_iload hx hb dX0_twoAsDouble_31 (lv_at hl 4 rfl) ?_
          refine lv_bipush (v := 10) hx hb dX0_twoAsDouble_33 (by decide) ?_
          refine lv_icmp_ge (tgt := 70) hx hb dX0_twoAsDouble_35 (by decide) (fun c35 => ?_) (fun c35 => ?_)
          · skip
            refine lv_dload_n hx hb dX0_twoAsDouble_70 rfl (lv_at hl 1 rfl) ?_
            rw [hQ]
            exact W.dret (v := v31_1) hx hb hr (fun t ht hW => ⟨⟨v31_1, (), rfl, (hR.trans (by simp only [g_X0_twoAsDouble_31, if_pos c35])), trivial⟩, hS.F ht⟩) hS.2.2 dX0_twoAsDouble_71
          · skip
            refine lv_iload hx hb dX0_twoAsDouble_38 (lv_at hl 3 rfl) ?_
            refine lv_iload hx hb dX0_twoAsDouble_40 (lv_at hl 4 rfl) ?_
            refine lv_ishr hx hb dX0_twoAsDouble_42 ?_
            refine lv_iconst (v := 1) hx hb dX0_twoAsDouble_43 (by decide) ?_
            refine lv_iand hx hb dX0_twoAsDouble_44 ?_
            refine lv_iconst (v := 1) hx hb dX0_twoAsDouble_45 (by decide) ?_
            have J53 : ∀ (v53_1 : UInt64) (ls : Array Slot) (H : Heap) (locs : List Loc), lv_has ls 7 [(0, .int p0), (1, .double v53_1), (3, .double v31_3), (5, .int w26_0), (6, .int v31_6)] → va_S (fun _ => False) s.heap H locs → (twP p0 v31_6 v53_1) → f_X0_twoAsDouble p0 = g_X0_twoAsDouble_53 (fun a0 a1 a2 => g_X0_twoAsDouble_31 w26_0 n31 a0 a1 a2) v31_3 v31_6 v53_1 → W p l e (headSpec wsX0_twoAsDouble ({ frames := 0, cells := 0, slots := 0, locals := 0 } : Room)).room s m ([.int p0] : List Value).toArray below meth c H locs 0 0 Q (F0 m 53 ls []) := by
              intro v53_1 ls H locs hl hS hj53 hR
              refine lv_iload hx hb dX0_twoAsDouble_53 (lv_at hl 4 rfl) ?_
              refine lv_bipush (v := 9) hx hb dX0_twoAsDouble_55 (by decide) ?_
              refine lv_icmp_ge (tgt := 64) hx hb dX0_twoAsDouble_57 (by decide) (fun c57 => ?_) (fun c57 => ?_)
              · skip
                refine lv_iinc (v := (v31_6 + 1)) (lv' := [(6, .int (v31_6 + 1)), (0, .int p0), (1, .double v53_1), (3, .double v31_3), (5, .int w26_0)]) hx hb dX0_twoAsDouble_64 hl (k := 4) rfl (by rfl) (by decide) rfl (fun ls hl => ?_)
                refine lv_goto (tgt := 31) hx hb dX0_twoAsDouble_67 (by decide) ?_
                exact ih31 v53_1 v31_3 (v31_6 + 1) ls _ _ (lv_sub hl [1, 2, 3, 4, 0] rfl) hS (hR.trans (by simp only [g_X0_twoAsDouble_53, if_pos c57])) (mu_up c35 hmu31) (tw_next0 hj53 c57)
              · skip
                refine lv_dload_n hx hb dX0_twoAsDouble_60 rfl (lv_at hl 2 rfl) ?_
                refine lv_dload_n hx hb dX0_twoAsDouble_61 rfl (lv_at hl 2 rfl) ?_
                refine lv_dmul hx hb dX0_twoAsDouble_62 (n64_of_val (tw_sqn hi31_0 c57)) ?_
                refine lv_dstore_n (lv' := [(3, .double (FP.dmul v31_3 v31_3)), (0, .int p0), (1, .double v53_1), (5, .int w26_0), (6, .int v31_6)]) hx hb dX0_twoAsDouble_63 rfl hl (by decide) rfl (fun ls hl => ?_)
                refine lv_iinc (v := (v31_6 + 1)) (lv' := [(6, .int (v31_6 + 1)), (3, .double (FP.dmul v31_3 v31_3)), (0, .int p0), (1, .double v53_1), (5, .int w26_0)]) hx hb dX0_twoAsDouble_64 hl (k := 4) rfl (by rfl) (by decide) rfl (fun ls hl => ?_)
                refine lv_goto (tgt := 31) hx hb dX0_twoAsDouble_67 (by decide) ?_
                exact ih31 v53_1 (FP.dmul v31_3 v31_3) (v31_6 + 1) ls _ _ (lv_sub hl [2, 3, 1, 4, 0] rfl) hS (hR.trans (by simp only [g_X0_twoAsDouble_53, if_neg c57])) (mu_up c35 hmu31) (tw_next1 hj53 hi31_0 c57)
            refine lv_icmp_ne (tgt := 53) hx hb dX0_twoAsDouble_46 (by decide) (fun c46 => ?_) (fun c46 => ?_)
            · skip
              exact J53 v31_1 ls _ _ (lv_sub hl [0, 1, 2, 3, 4] rfl) hS (tw_bit0 h0 hi31_0 c35 hj26 c46) (hR.trans (by simp only [g_X0_twoAsDouble_31, if_neg c35, if_neg c46]))
            · skip
              refine lv_dload_n hx hb dX0_twoAsDouble_49 rfl (lv_at hl 1 rfl) ?_
              refine lv_dload_n hx hb dX0_twoAsDouble_50 rfl (lv_at hl 2 rfl) ?_
              refine lv_dmul hx hb dX0_twoAsDouble_51 (n64_of_val (tw_bit1 h0 hi31_0 c35 hj26 c46).1) ?_
              refine lv_dstore_n (lv' := [(1, .double (FP.dmul v31_1 v31_3)), (0, .int p0), (3, .double v31_3), (5, .int w26_0), (6, .int v31_6)]) hx hb dX0_twoAsDouble_52 rfl hl (by decide) rfl (fun ls hl => ?_)
              exact J53 (FP.dmul v31_1 v31_3) ls _ _ (lv_sub hl [1, 0, 2, 3, 4] rfl) hS ((tw_bit1 h0 hi31_0 c35 hj26 c46).2) (hR.trans (by simp only [g_X0_twoAsDouble_31, if_neg c35, if_pos c46]))
      exact J31 (((10 : Int32).toInt - (0 : Int32).toInt).toNat + 1) FP.dconst1 w15_0 0 ls _ _ (lv_sub hl [2, 3, 4, 1, 0] rfl) hS (hR.trans (by simp only [g_X0_twoAsDouble_26])) (Nat.lt_succ_self _) (twI_0 hj15)
    refine lv_if_ge (tgt := 25) hx hb dX0_twoAsDouble_17 (by decide) (fun c17 => ?_) (fun c17 => ?_)
    · skip
      refine lv_iload_n hx hb dX0_twoAsDouble_25 rfl (lv_at hl 1 rfl) ?_
      exact J26 p0 ls _ _ (lv_sub hl [1, 2, 0] rfl) hS (by unfold lft; first | rw [if_pos c17] | rw [if_neg c17]) (hR.trans (by simp only [g_X0_twoAsDouble_15, if_pos c17]))
    · skip
      refine lv_iload_n hx hb dX0_twoAsDouble_20 rfl (lv_at hl 1 rfl) ?_
      refine lv_ineg hx hb dX0_twoAsDouble_21 ?_
      refine lv_goto (tgt := 26) hx hb dX0_twoAsDouble_22 (by decide) ?_
      exact J26 (-p0) ls _ _ (lv_sub hl [1, 2, 0] rfl) hS (by unfold lft; first | rw [if_pos c17] | rw [if_neg c17]) (hR.trans (by simp only [g_X0_twoAsDouble_15, if_neg c17]))
  refine lv_if_ge (tgt := 12) hx hb dX0_twoAsDouble_3 (by decide) (fun c3 => ?_) (fun c3 => ?_)
  · skip
    refine lv_ldc2d (v := 4611686018427387904) hx hb hown (hts (.constantDouble RX0 236 4611686018427387904) (by decide +kernel)) dX0_twoAsDouble_12 ?_
    exact J15 4611686018427387904 ls _ _ (lv_sub hl [1, 0] rfl) hS (by unfold fct; first | rw [if_pos c3] | rw [if_neg c3]) (hR.trans (by simp only [f_X0_twoAsDouble, if_pos c3]))
  · skip
    refine lv_ldc2d (v := 4602678819172646912) hx hb hown (hts (.constantDouble RX0 234 4602678819172646912) (by decide +kernel)) dX0_twoAsDouble_6 ?_
    refine lv_goto (tgt := 15) hx hb dX0_twoAsDouble_9 (by decide) ?_
    exact J15 4602678819172646912 ls _ _ (lv_sub hl [1, 0] rfl) hS (by unfold fct; first | rw [if_pos c3] | rw [if_neg c3]) (hR.trans (by simp only [f_X0_twoAsDouble, if_neg c3]))

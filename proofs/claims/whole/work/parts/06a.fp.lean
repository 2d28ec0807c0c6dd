/-! DOUBLES: normal numbers by their significand and exponent; products; no NaN -/
theorem b64_qmin : FP.Core.b64.qmin = -1074 := by decide
theorem b64_qmax : FP.Core.b64.qmax = 971 := by decide
theorem b64_tails : FP.Core.b64.tails = 2 ^ 52 := by decide
theorem b64_exps : FP.Core.b64.exps = 2048 := by decide
def nok (c : Nat) (q : Int) : Prop := 2 ^ 52 ≤ c ∧ c < 2 ^ 53 ∧ -1074 ≤ q ∧ q ≤ 971
theorem fitsN {s : Bool} {c : Nat} {q : Int} (h : nok c q) : FP.Core.fits FP.Core.b64 (.fin s c q) := by
  refine ⟨h.2.1, ?_, ?_, Or.inr ?_⟩
  · rw [b64_qmin]; exact h.2.2.1
  · rw [b64_qmax]; exact h.2.2.2
  · rw [b64_tails]; exact h.1
def nb (s : Bool) (c : Nat) (q : Int) : UInt64 := FP.Core.of64 (.fin s c q)
theorem nb_val {s : Bool} {c : Nat} {q : Int} (h : nok c q) : FP.Core.val64 (nb s c q) = .fin s c q := FP.Core.val64_of64 (fitsN h)
theorem nb_bits {s : Bool} {c : Nat} {q : Int} (h : nok c q) : (nb s c q).toNat = (if s then 2 ^ 63 else 0) + ((q + 1075).toNat * 2 ^ 52 + (c - 2 ^ 52)) := by
  obtain ⟨h1, h2, h3, h4⟩ := h
  have e : FP.Core.encode FP.Core.b64 (.fin s c q) = (if s then 2 ^ 63 else 0) + ((q + 1075).toNat * 2 ^ 52 + (c - 2 ^ 52)) := by
    unfold FP.Core.encode
    dsimp only
    rw [b64_tails, b64_qmin, if_neg (by omega)]
    unfold FP.Core.assemble
    rw [b64_tails, b64_exps]
    have e1 : (q - -1074).toNat + 1 = (q + 1075).toNat := by omega
    rw [e1]
    cases s <;> simp <;> omega
  show (UInt64.ofNat (FP.Core.encode FP.Core.b64 (.fin s c q))).toNat = _
  rw [UInt64.toNat_ofNat_of_lt', e]
  rw [e]
  have : (q + 1075).toNat ≤ 2046 := by omega
  have h9 : UInt64.size = 2 ^ 64 := rfl
  rw [h9]
  cases s <;> simp <;> omega
theorem n64_of_val {r : UInt64} (h : FP.Core.val64 r ≠ .nan) : vf_n64 r := by
  unfold vf_n64
  rcases Nat.lt_or_ge (0x7ff0000000000000) (r &&& 0x7fffffffffffffff).toNat with hlt | hge
  · exfalso
    apply h
    have hm : (r &&& 0x7fffffffffffffff).toNat = r.toNat % 2 ^ 63 := by
      rw [UInt64.toNat_and]
      exact Nat.and_two_pow_sub_one_eq_mod _ 63
    rw [hm] at hlt
    unfold FP.Core.val64 FP.Core.decode
    have hE : FP.Core.fieldE FP.Core.b64 r.toNat = FP.Core.b64.exps - 1 := by
      unfold FP.Core.fieldE
      rw [b64_tails, b64_exps]
      omega
    have hT : FP.Core.fieldT FP.Core.b64 r.toNat ≠ 0 := by
      unfold FP.Core.fieldT
      rw [b64_tails]
      omega
    rw [if_pos hE, if_neg hT]
  · exact UInt64.le_iff_toNat_le.mpr hge
theorem nb_nn {s : Bool} {c : Nat} {q : Int} (h : nok c q) : FP.Core.val64 (nb s c q) ≠ .nan := by rw [nb_val h]; exact fun e => by cases e
theorem round_nn {s : Bool} {A B : Nat} {e : Int} : FP.Core.roundRatio FP.Core.b64 s A B e ≠ .nan := by
  unfold FP.Core.roundRatio FP.Core.roundAt FP.Core.settle FP.Core.bound
  repeat' split
  all_goals exact fun e => by cases e
/-- finite -/
def fin64 (x : UInt64) : Prop := ∃ s c q, FP.Core.val64 x = .fin s c q
theorem mul_nn_fin {x y : UInt64} (hx : fin64 x) (hy : fin64 y) : FP.Core.val64 (FP.dmul x y) ≠ .nan := by
  obtain ⟨s, c, q, h1⟩ := hx
  obtain ⟨t, d, r, h2⟩ := hy
  show FP.Core.val64 (FP.Core.dmul x y) ≠ .nan
  rw [FP.Core.val64_dmul, h1, h2]
  exact round_nn
theorem mul_nn {x y : UInt64} (hx : FP.Core.val64 x ≠ .nan) (hy : ∃ s c q, FP.Core.val64 y = .fin s c q ∧ c ≠ 0) : FP.Core.val64 (FP.dmul x y) ≠ .nan := by
  obtain ⟨t, d, r, h2, h3⟩ := hy
  show FP.Core.val64 (FP.Core.dmul x y) ≠ .nan
  rw [FP.Core.val64_dmul, h2]
  cases h1 : FP.Core.val64 x with
  | nan => exact absurd h1 hx
  | inf s =>
    show FP.Core.round FP.Core.b64 (FP.Core.exactProduct (.inf s) (.fin t d r)) ≠ .nan
    unfold FP.Core.exactProduct
    dsimp only
    rw [if_neg h3]
    exact fun e => by cases e
  | fin s c q => exact round_nn
theorem sq_nn {x : UInt64} (hx : FP.Core.val64 x ≠ .nan) : FP.Core.val64 (FP.dmul x x) ≠ .nan := by
  show FP.Core.val64 (FP.Core.dmul x x) ≠ .nan
  rw [FP.Core.val64_dmul]
  cases h1 : FP.Core.val64 x with
  | nan => exact absurd h1 hx
  | inf s => exact fun e => by cases e
  | fin s c q => exact round_nn
theorem dint_fin {i : Int} {a : UInt64} (h : FP.Core.DInt i a) : fin64 a := by
  unfold FP.Core.DInt at h
  cases h1 : FP.Core.val64 a with
  | nan => rw [h1] at h; exact h.elim
  | inf s => rw [h1] at h; exact h.elim
  | fin s c q => exact ⟨s, c, q, h1⟩
theorem i2d_fin (x : Int32) : fin64 (FP.i2d x) := dint_fin (FP.Core.i2d_int x)
/-- the product of two normal numbers, where it is one -/
theorem dmul_nb {s t : Bool} {c d c' : Nat} {q r q' : Int} (h1 : nok c q) (h2 : nok d r) (h3 : nok c' q') (h : c * d * 2 ^ (q + r - q').toNat = c' * 2 ^ (q' - (q + r)).toNat) : FP.dmul (nb s c q) (nb t d r) = nb (s != t) c' q' := by
  apply FP.Core.val64_inj
  · show FP.Core.val64 (FP.Core.dmul _ _) ≠ .nan
    rw [FP.Core.val64_dmul, nb_val h1, nb_val h2]
    exact round_nn
  · show FP.Core.val64 (FP.Core.dmul _ _) = _
    rw [FP.Core.val64_dmul, nb_val h1, nb_val h2, nb_val h3]
    exact FP.Core.roundRatio_exact FP.Core.good_b64 (B := 1) (by decide) (fitsN h3) (by rw [Nat.mul_one]; exact h)
/-- m times 2 to the power of e, m any size above 0 of at most 53 digits -/
def dn (s : Bool) (m : Nat) (e : Int) : UInt64 := nb s (m * 2 ^ (53 - bl m)) (e - (53 - bl m : Nat))
def nrm (m : Nat) (e : Int) : Prop := 0 < m ∧ m < 2 ^ 53 ∧ -1021 ≤ e + bl m ∧ e + bl m ≤ 1024
theorem bl_pos {m : Nat} (h : 0 < m) : 1 ≤ bl m := by
  unfold bl
  rw [if_neg (by omega)]
  omega
theorem bl_bounds {m : Nat} (h : 0 < m) : 2 ^ (bl m - 1) ≤ m ∧ m < 2 ^ bl m := by
  refine ⟨?_, bl_le.mp (Nat.le_refl _)⟩
  have h1 := bl_pos h
  exact bl_gt.mp (by omega)
theorem nrm_nok {m : Nat} {e : Int} (h : nrm m e) : nok (m * 2 ^ (53 - bl m)) (e - (53 - bl m : Nat)) := by
  obtain ⟨h1, h2, h3, h4⟩ := h
  have hk : bl m ≤ 53 := bl_le.mpr h2
  have h0 := bl_pos h1
  obtain ⟨hl, hu⟩ := bl_bounds h1
  have e1 : 2 ^ (bl m - 1) * 2 ^ (53 - bl m) = 2 ^ 52 := by rw [← Nat.pow_add]; congr 1; omega
  have e2 : 2 ^ bl m * 2 ^ (53 - bl m) = 2 ^ 53 := by rw [← Nat.pow_add]; congr 1; omega
  refine ⟨?_, ?_, by omega, by omega⟩
  · rw [← e1]; exact Nat.mul_le_mul_right _ hl
  · rw [← e2]; exact Nat.mul_lt_mul_of_pos_right hu (Nat.two_pow_pos _)
theorem pow_bal {a b : Nat} {x : Int} (h : (a : Int) + x = b) : 2 ^ a * 2 ^ x.toNat = 2 ^ b * 2 ^ (-x).toNat := by
  rw [← Nat.pow_add, ← Nat.pow_add]
  congr 1
  omega
theorem dmul_dn {s t : Bool} {m n : Nat} {e f : Int} (h1 : nrm m e) (h2 : nrm n f) (h3 : nrm (m * n) (e + f)) : FP.dmul (dn s m e) (dn t n f) = dn (s != t) (m * n) (e + f) := by
  have k1 : bl m ≤ 53 := bl_le.mpr h1.2.1
  have k2 : bl n ≤ 53 := bl_le.mpr h2.2.1
  have k3 : bl (m * n) ≤ 53 := bl_le.mpr h3.2.1
  refine dmul_nb (nrm_nok h1) (nrm_nok h2) (nrm_nok h3) ?_
  have e1 : m * 2 ^ (53 - bl m) * (n * 2 ^ (53 - bl n)) = m * n * 2 ^ (53 - bl m + (53 - bl n)) := by
    rw [Nat.pow_add]
    simp only [Nat.mul_comm, Nat.mul_left_comm, Nat.mul_assoc]
  have hb := @pow_bal (53 - bl m + (53 - bl n)) (53 - bl (m * n)) (e - (53 - bl m : Nat) + (f - (53 - bl n : Nat)) - (e + f - (53 - bl (m * n) : Nat))) (by omega)
  have hx : e + f - (53 - bl (m * n) : Nat) - (e - (53 - bl m : Nat) + (f - (53 - bl n : Nat))) = -(e - (53 - bl m : Nat) + (f - (53 - bl n : Nat)) - (e + f - (53 - bl (m * n) : Nat))) := by omega
  rw [e1, hx, Nat.mul_assoc (m * n), Nat.mul_assoc (m * n), hb]
theorem bl_shift {m j : Nat} (h : 0 < m) : bl (m * 2 ^ j) = bl m + j := by
  induction j with
  | zero => simp
  | succ j ih =>
    rw [Nat.pow_succ, ← Nat.mul_assoc, bl_dbl (Nat.mul_pos h (Nat.two_pow_pos j)), ih]
    omega
theorem dn_shift {s : Bool} {m j : Nat} {e : Int} (h : 0 < m) (h2 : bl m + j ≤ 53) : dn s (m * 2 ^ j) e = dn s m (e + j) := by
  unfold dn
  rw [bl_shift h]
  have e1 : m * 2 ^ j * 2 ^ (53 - (bl m + j)) = m * 2 ^ (53 - bl m) := by
    rw [Nat.mul_assoc, ← Nat.pow_add]
    congr 2
    omega
  have e2 : e - (53 - (bl m + j) : Nat) = e + j - (53 - bl m : Nat) := by omega
  rw [e1, e2]
def tw (k : Int) : UInt64 := dn false 1 k
theorem bl_1 : bl 1 = 1 := rfl
theorem tw_nrm {k : Int} (h1 : -1022 ≤ k) (h2 : k ≤ 1023) : nrm 1 k := ⟨by decide, by decide, by rw [bl_1]; omega, by rw [bl_1]; omega⟩
theorem tw_mul {a b : Int} (h1 : -1022 ≤ a) (h2 : a ≤ 1023) (h3 : -1022 ≤ b) (h4 : b ≤ 1023) (h5 : -1022 ≤ a + b) (h6 : a + b ≤ 1023) : FP.dmul (tw a) (tw b) = tw (a + b) := dmul_dn (s := false) (t := false) (tw_nrm h1 h2) (tw_nrm h3 h4) (tw_nrm h5 h6)
theorem tw_nok {k : Int} (h1 : -1022 ≤ k) (h2 : k ≤ 1023) : nok (1 * 2 ^ (53 - bl 1)) (k - (53 - bl 1 : Nat)) := nrm_nok (tw_nrm h1 h2)
theorem tw_val {k : Int} (h1 : -1022 ≤ k) (h2 : k ≤ 1023) : FP.Core.val64 (tw k) = .fin false (2 ^ 52) (k - 52) := by
  have := nb_val (s := false) (tw_nok h1 h2)
  rw [bl_1] at this
  exact this
theorem tw_fc {k : Int} (h1 : -1022 ≤ k) (h2 : k ≤ 1023) : ∃ s c q, FP.Core.val64 (tw k) = .fin s c q ∧ c ≠ 0 := ⟨false, 2 ^ 52, k - 52, tw_val h1 h2, by decide⟩
theorem tw_one : FP.dconst1 = tw 0 := by decide +kernel
theorem tw_half : (4602678819172646912 : UInt64) = tw (-1) := by decide +kernel
theorem tw_two : (4611686018427387904 : UInt64) = tw 1 := by decide +kernel
theorem tw_52 : (4841369599423283200 : UInt64) = tw 52 := by decide +kernel

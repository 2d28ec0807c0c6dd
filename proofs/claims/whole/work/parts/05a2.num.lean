/-! binary lengths and whole roots: what the reference's lengthOf and rootOf are -/
def bl (n : Nat) : Nat := if n = 0 then 0 else n.log2 + 1
theorem bl_0 : bl 0 = 0 := rfl
theorem bl_half {n : Nat} (h : 0 < n) : bl n = bl (n / 2) + 1 := by
  unfold bl
  rw [if_neg (by omega)]
  by_cases h2 : n / 2 = 0
  · rw [if_pos h2]
    have e : n = 1 := by omega
    subst e
    rfl
  · rw [if_neg h2, Nat.log2_def n, if_pos (by omega)]
theorem bl_le {n k : Nat} : bl n ≤ k ↔ n < 2 ^ k := by
  unfold bl
  split
  · rename_i h
    subst h
    have := Nat.two_pow_pos k
    omega
  · rename_i h
    rw [Nat.succ_le_iff]
    exact Nat.log2_lt h
theorem bl_gt {n k : Nat} : k < bl n ↔ 2 ^ k ≤ n := by
  have := @bl_le n k
  omega
theorem bl_dbl {n : Nat} (h : 0 < n) : bl (n * 2) = bl n + 1 := by
  rw [bl_half (by omega), Nat.mul_div_cancel _ (by decide)]
theorem bl_dbl1 {n : Nat} (h : 0 < n) : bl (n * 2 + 1) = bl n + 1 := by
  rw [bl_half (by omega)]
  congr 2
  omega
theorem lN0 : (0 : Int64) = lN 0 := rfl
theorem lN1 : (1 : Int64) = lN 1 := rfl
theorem lN2 : (2 : Int64) = lN 2 := rfl
theorem len_go : ∀ (f n c : Nat), n < f → n < 2 ^ 63 → g_X1_lengthOf_4 f (nI c) (lN n) = nI (c + bl n) := by
  intro f
  induction f with
  | zero => intro n c h; exact absurd h (Nat.not_lt_zero _)
  | succ f ih =>
    intro n c h hn
    rw [g_X1_lengthOf_4]
    by_cases h0 : n = 0
    · subst h0
      rw [if_pos (by decide), bl_0, Nat.add_zero]
    · rw [if_neg (by rw [lN0, pk_lLE hn (by decide)]; omega), lN2, pk_lDiv hn (by decide) (by decide), nI_1, ih (n / 2) (c + 1) (by omega) (by omega), bl_half (n := n) (by omega)]
      congr 1
      omega
theorem len_eq {n : Nat} (h : n < 2 ^ 63) : f_X1_lengthOf (lN n) = nI (bl n) := by
  have h1 := len_go (n + 1) n 0 (Nat.lt_succ_self n) h
  rw [Nat.zero_add] at h1
  rw [f_X1_lengthOf, pk_lT h, Int.toNat_natCast]
  exact h1
/-- a long that is not below 0 -/
theorem lN_of {x : Int64} (h : 0 ≤ x.toInt) : x.toInt.toNat < 2 ^ 63 ∧ x = lN x.toInt.toNat := by
  have hr := fb_rngL x
  refine ⟨by omega, ?_⟩
  rw [fa_eq64, pk_lT (by omega)]
  omega
theorem nI_of' {x : Int32} (h : 0 ≤ x.toInt) : x.toInt.toNat < 2 ^ 31 ∧ x = nI x.toInt.toNat := by
  have hr := fb_rng x
  refine ⟨by omega, ?_⟩
  rw [fa_eq, nI_toInt (by omega)]
  omega
theorem bl_63 {n : Nat} (h : n < 2 ^ 63) : bl n ≤ 63 := bl_le.mpr h
theorem root_go (n : Nat) (hn : n < 2 ^ 62) : ∀ (k f r : Nat), k ≤ 31 → k < f → (∃ t, r = t * 2 ^ k) → r * r ≤ n → n < (r + 2 ^ k) * (r + 2 ^ k) → ∃ q, g_X1_rootOf_6 (lN n) f (lN r) (nI k + (-1)) = lN q ∧ q * q ≤ n ∧ n < (q + 1) * (q + 1) := by
  intro k
  induction k with
  | zero =>
    intro f r _ hf _ h1 h2
    cases f with
    | zero => exact absurd hf (Nat.not_lt_zero _)
    | succ f =>
      refine ⟨r, ?_, h1, by simpa using h2⟩
      rw [g_X1_rootOf_6, if_pos (by decide)]
  | succ k ih =>
    intro f r hk hf ht h1 h2
    cases f with
    | zero => exact absurd hf (Nat.not_lt_zero _)
    | succ f =>
      obtain ⟨t, rfl⟩ := ht
      have hp : 2 ^ (k + 1) = 2 * 2 ^ k := by rw [Nat.pow_succ]; omega
      have hpk : 0 < 2 ^ k := Nat.two_pow_pos k
      have hp31 : 2 ^ (k + 1) * 2 ^ (31 - (k + 1)) = 2 ^ 31 := by rw [← Nat.pow_add]; congr 1; omega
      have hr31 : t * 2 ^ (k + 1) < 2 ^ 31 := by
        rcases Nat.lt_or_ge (t * 2 ^ (k + 1)) (2 ^ 31) with h | h
        · exact h
        · have := Nat.mul_le_mul h h
          omega
      have htlt : t < 2 ^ (31 - (k + 1)) := by
        rcases Nat.lt_or_ge t (2 ^ (31 - (k + 1))) with h | h
        · exact h
        · have := Nat.mul_le_mul_right (2 ^ (k + 1)) h
          rw [Nat.mul_comm (2 ^ (31 - (k + 1)))] at this
          omega
      have hsum : t * 2 ^ (k + 1) + 2 ^ (k + 1) ≤ 2 ^ 31 := by
        have := Nat.mul_le_mul_right (2 ^ (k + 1)) (Nat.succ_le_of_lt htlt)
        rw [Nat.mul_comm (2 ^ (31 - (k + 1))), hp31, Nat.succ_mul] at this
        exact this
      have hm : t * 2 ^ (k + 1) + 2 ^ k < 2 ^ 31 := by omega
      have hmm : (t * 2 ^ (k + 1) + 2 ^ k) * (t * 2 ^ (k + 1) + 2 ^ k) < 2 ^ 62 := by
        have h5 : (t * 2 ^ (k + 1) + 2 ^ k) * (t * 2 ^ (k + 1) + 2 ^ k) < 2 ^ 31 * 2 ^ 31 := Nat.mul_lt_mul'' hm hm
        have h6 : 2 ^ 31 * 2 ^ 31 = 2 ^ 62 := by decide
        omega
      have hor : lN (t * 2 ^ (k + 1)) ||| ((1 : Int64) <<< (((nI k) : Int32).toInt64 &&& 63)) = lN (t * 2 ^ (k + 1) + 2 ^ k) := by
        rw [lN1, wb_shl 1 (by omega), Nat.one_mul]
        exact g_or (k := k + 1) rfl (by omega) (by omega)
      rw [g_X1_rootOf_6, pk_m1, if_neg (nI_pos (by omega)), hor, lN_mul]
      by_cases hc : n < (t * 2 ^ (k + 1) + 2 ^ k) * (t * 2 ^ (k + 1) + 2 ^ k)
      · rw [if_pos ((pk_lLT (by omega) (by omega)).mpr hc)]
        exact ih f (t * 2 ^ (k + 1)) (by omega) (by omega) ⟨t * 2, by rw [hp, Nat.mul_assoc]⟩ h1 hc
      · rw [if_neg (fun h => hc ((pk_lLT (by omega) (by omega)).mp h))]
        refine ih f (t * 2 ^ (k + 1) + 2 ^ k) (by omega) (by omega) ⟨t * 2 + 1, by rw [hp, Nat.add_mul, Nat.mul_assoc, Nat.one_mul]⟩ (by omega) ?_
        have e : t * 2 ^ (k + 1) + 2 ^ k + 2 ^ k = t * 2 ^ (k + 1) + 2 ^ (k + 1) := by omega
        rw [e]
        exact h2
theorem root_spec {n : Nat} (hn : n < 2 ^ 62) : ∃ q, f_X1_rootOf (lN n) = lN q ∧ q * q ≤ n ∧ n < (q + 1) * (q + 1) := by
  have h := root_go n hn 31 32 0 (by decide) (by decide) ⟨0, by omega⟩ (by omega) (by
    have h6 : (0 + 2 ^ 31) * (0 + 2 ^ 31) = 2 ^ 62 := by decide
    omega)
  exact h
theorem i2l_nI {x : Int32} (h : 0 ≤ x.toInt) : ((x : Int32).toInt64) = lN x.toInt.toNat := by
  rw [fa_eq64, Int32.toInt_toInt64, pk_lT (by have := fb_rng x; omega)]
  omega
theorem rootOf_pos {p : Int32} (h0 : 0 ≤ p.toInt) (h1 : ¬ p = 0) : 0 < (f_X1_rootOf ((p : Int32).toInt64)).toInt := by
  have hr := fb_rng p
  have hp : p.toInt ≠ 0 := fun e => h1 (by rw [fa_eq, i0]; exact e)
  rw [i2l_nI h0]
  obtain ⟨q, e, h2, h3⟩ := root_spec (n := p.toInt.toNat) (by omega)
  rw [e]
  have hq : q < 2 ^ 62 := by
    rcases Nat.lt_or_ge q (2 ^ 62) with h | h
    · exact h
    · have := Nat.mul_le_mul h h
      omega
  rw [pk_lT (by omega)]
  cases q with
  | zero => omega
  | succ q => omega
theorem len53 {v : Int64} (h : 0 < v.toInt) (c : ¬ (53 : Int32) ≤ f_X1_lengthOf v) : ∃ m : Nat, 0 < m ∧ m < 2 ^ 52 ∧ v = lN m ∧ bl m < 53 := by
  obtain ⟨h1, h2⟩ := lN_of (x := v) (by omega)
  refine ⟨v.toInt.toNat, by omega, ?_, h2, ?_⟩
  all_goals
    rw [h2, len_eq h1, show (53 : Int32) = nI 53 from rfl, nI_leI (by decide) (by have := bl_63 h1; omega)] at c
  · rw [← bl_le]; omega
  · omega
theorem nr_mu0 {v : Int64} {n : Nat} (h : 0 < v.toInt) (c : ¬ (53 : Int32) ≤ f_X1_lengthOf v) (hm : ((53 : Int32).toInt - (f_X1_lengthOf v).toInt).toNat < n + 1) : ((53 : Int32).toInt - (f_X1_lengthOf (v * 2)).toInt).toNat < n := by
  obtain ⟨m, h1, h2, rfl, h4⟩ := len53 h c
  have e : (53 : Int32).toInt = 53 := by decide
  rw [lN2, lN_mul, len_eq (by omega), bl_dbl h1, nI_toInt (by omega), e]
  rw [len_eq (by omega), nI_toInt (by omega), e] at hm
  omega
theorem nr_mu1 {v : Int64} {n : Nat} (h : 0 < v.toInt) (c : ¬ (53 : Int32) ≤ f_X1_lengthOf v) (hm : ((53 : Int32).toInt - (f_X1_lengthOf v).toInt).toNat < n + 1) : ((53 : Int32).toInt - (f_X1_lengthOf (v * 2 + 1)).toInt).toNat < n := by
  obtain ⟨m, h1, h2, rfl, h4⟩ := len53 h c
  have e : (53 : Int32).toInt = 53 := by decide
  rw [lN2, lN_mul, lN_1, len_eq (by omega), bl_dbl1 h1, nI_toInt (by omega), e]
  rw [len_eq (by omega), nI_toInt (by omega), e] at hm
  omega
theorem nr_p0 {v : Int64} (h : 0 < v.toInt) (c : ¬ (53 : Int32) ≤ f_X1_lengthOf v) : 0 < (v * 2).toInt := by
  obtain ⟨m, h1, h2, rfl, h4⟩ := len53 h c
  rw [lN2, lN_mul, pk_lT (by omega)]
  omega
theorem nr_p1 {v : Int64} (h : 0 < v.toInt) (c : ¬ (53 : Int32) ≤ f_X1_lengthOf v) : 0 < (v * 2 + 1).toInt := by
  obtain ⟨m, h1, h2, rfl, h4⟩ := len53 h c
  rw [lN2, lN_mul, lN_1, pk_lT (by omega)]
  omega

/-! powers: the class's powerUpTo is the power, where it is not above the limit -/
theorem lNt {n : Nat} (h : n < 2 ^ 63) : (lN n).toInt = (n : Int) := lg_ofNat_toInt h
theorem lNle {a b : Nat} (ha : a < 2 ^ 63) (hb : b < 2 ^ 63) : lN a ≤ lN b ↔ a ≤ b := by
  rw [fa_le64, lNt ha, lNt hb]; omega
theorem lNlt {a b : Nat} (ha : a < 2 ^ 63) (hb : b < 2 ^ 63) : lN a < lN b ↔ a < b := by
  rw [fa_lt64, lNt ha, lNt hb]; omega
theorem lNeq {a b : Nat} (ha : a < 2 ^ 63) (hb : b < 2 ^ 63) : lN a = lN b ↔ a = b := by
  rw [fa_eq64, lNt ha, lNt hb]; omega
theorem lNdiv {a b : Nat} (ha : a < 2 ^ 63) (hb : b < 2 ^ 63) (h0 : 0 < b) : lN a / lN b = lN (a / b) := by
  have h1 : a / b < 2 ^ 63 := Nat.lt_of_le_of_lt (Nat.div_le_self a b) ha
  rw [fa_eq64, divL_toInt (by rw [lNt ha]; omega) (by rw [lNt hb]; omega), lNt ha, lNt hb, lNt h1]
  rfl
theorem lNneg {a : Nat} (ha : a < 2 ^ 63) : ¬ lN a = -1 := by
  rw [fa_eq64, lNt ha, show ((-1 : Int64)).toInt = -1 by decide]; omega
def pu (b e L : Nat) : Int64 := if b ^ e ≤ L then lN (b ^ e) else -1
theorem pu_go {b e L : Nat} (hb : 0 < b) (hb2 : b < 2 ^ 63) (he : e < 2 ^ 31) (hL : L < 2 ^ 63) : ∀ (n v : Nat), v ≤ e → e - v < n → b ^ v ≤ L → g_X0_powerUpTo_6 (lN b) (nI e) (lN L) n (lN (b ^ v)) (nI v) = pu b e L := by
  intro n
  induction n with
  | zero => intro v h1 h2; omega
  | succ n ih =>
    intro v hv hn hL2
    rw [g_X0_powerUpTo_6]
    have hL3 : b ^ v < 2 ^ 63 := Nat.lt_of_le_of_lt hL2 hL
    by_cases c : v = e
    · subst c
      rw [if_pos (nI_le (Nat.le_refl v) he)]
      unfold pu
      rw [if_pos hL2]
    · have hv2 : v < e := by omega
      rw [if_neg (nI_ge hv2 he), if_neg (show ¬ lN b ≤ 0 by rw [show (0 : Int64) = lN 0 from rfl, lNle hb2 (by decide)]; omega), lNdiv hL hb2 hb]
      have hd : L / b < 2 ^ 63 := Nat.lt_of_le_of_lt (Nat.div_le_self L b) hL
      by_cases c2 : b ^ v ≤ L / b
      · rw [if_pos ((lNle hL3 hd).mpr c2)]
        have h3 : b ^ (v + 1) ≤ L := by
          rw [Nat.pow_succ]
          exact (Nat.le_div_iff_mul_le hb).mp c2
        have h4 := ih (v + 1) (by omega) (by omega) h3
        unfold g_X0_powerUpTo_31
        rw [lN_mul, nI_1, ← Nat.pow_succ]
        exact h4
      · rw [if_neg (fun h => c2 ((lNle hL3 hd).mp h))]
        have h3 : ¬ b ^ (v + 1) ≤ L := fun h => c2 ((Nat.le_div_iff_mul_le hb).mpr (by rw [← Nat.pow_succ]; exact h))
        have h4 : ¬ b ^ e ≤ L := fun h => h3 (Nat.le_trans (Nat.pow_le_pow_right hb (by omega)) h)
        unfold pu
        rw [if_neg h4]
theorem pu_eq {b e L : Nat} (hb : 0 < b) (hb2 : b < 2 ^ 63) (he : e < 2 ^ 31) (hL0 : 0 < L) (hL : L < 2 ^ 63) : f_X0_powerUpTo (lN b) (nI e) (lN L) = pu b e L := by
  unfold f_X0_powerUpTo
  rw [nI_toInt he, i0]
  have h := pu_go hb hb2 he hL (((e : Int) - 0).toNat + 1) 0 (Nat.zero_le _) (by omega) (by rw [Nat.pow_zero]; exact hL0)
  rw [Nat.pow_zero] at h
  exact h

/-! bases from -64 to 64; put, power, raise -/
theorem base_ok {p : Int32} (h1 : -64 ≤ p.toInt) (h2 : p.toInt ≤ 64) : okN (f_X0_signOf p) (f_X0_oddOf p) (f_X0_shiftOf p) := by
  obtain ⟨k, hk, rfl⟩ := base_of h1 h2
  exact bk k hk (fun p => ((f_X0_signOf p) = -1 ∨ (f_X0_signOf p) = 0 ∨ (f_X0_signOf p) = 1) ∧ ((f_X0_signOf p) = 0 ↔ (f_X0_oddOf p) = 0) ∧ 0 ≤ (f_X0_oddOf p).toInt ∧ (f_X0_oddOf p).toInt < 9007199254740992 ∧ ((f_X0_oddOf p) = 0 → (f_X0_shiftOf p) = 0) ∧ -1000 ≤ (f_X0_shiftOf p).toInt ∧ (f_X0_shiftOf p).toInt ≤ 1000 ∧ (1 < (f_X0_oddOf p).toInt → 0 ≤ (f_X0_shiftOf p).toInt ∧ 3 ^ (f_X0_shiftOf p).toInt.toNat ≤ (f_X0_oddOf p).toInt ^ 4)) (by decide +kernel)
theorem base_told {p : Int32} (h1 : -64 ≤ p.toInt) (h2 : p.toInt ≤ 64) (T : pT) (e : Int32) : f_X1_isTold_ T p e = f_X1_isTold T (f_X0_signOf p) (f_X0_oddOf p) (f_X0_shiftOf p) e := by
  have hall : ∀ p : Int32, -64 ≤ p.toInt → p.toInt ≤ 64 → f_X1_twosOf (if (0 : Int32) ≤ p then (p : Int32).toInt64 else ((-p : Int32)).toInt64) = f_X0_shiftOf p ∧ (if (0 : Int32) ≤ p then (p : Int32).toInt64 else ((-p : Int32)).toInt64) >>> (((f_X0_shiftOf p) : Int32).toInt64 &&& 63) = f_X0_oddOf p ∧ f_X0_signOf p = (if (0 : Int32) ≤ p then (if p ≤ 0 then 0 else 1) else -1) := by
    intro p h1 h2
    obtain ⟨k, hk, rfl⟩ := base_of h1 h2
    exact bk k hk (fun p => f_X1_twosOf (if (0 : Int32) ≤ p then (p : Int32).toInt64 else ((-p : Int32)).toInt64) = f_X0_shiftOf p ∧ (if (0 : Int32) ≤ p then (p : Int32).toInt64 else ((-p : Int32)).toInt64) >>> (((f_X0_shiftOf p) : Int32).toInt64 &&& 63) = f_X0_oddOf p ∧ f_X0_signOf p = (if (0 : Int32) ≤ p then (if p ≤ 0 then 0 else 1) else -1)) (by decide +kernel)
  obtain ⟨a1, a2, a3⟩ := hall p h1 h2
  unfold f_X1_isTold_ g_X1_isTold__12 g_X1_isTold__37
  rw [a3]
  by_cases c1 : (0 : Int32) ≤ p
  · rw [if_pos c1] at a1 a2 ⊢
    rw [if_pos c1, if_pos c1, a1, a2]
    by_cases c2 : p ≤ 0
    · rw [if_pos c2, if_pos c2]
    · rw [if_neg c2, if_neg c2]
  · rw [if_neg c1] at a1 a2 ⊢
    rw [if_neg c1, if_neg c1, a1, a2]

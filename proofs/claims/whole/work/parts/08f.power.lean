/-! a power keeps what a number is; bases -/
theorem in1k_c (x : Int32) : (in1k x = 1 ∧ -1000 ≤ x.toInt ∧ x.toInt ≤ 1000) ∨ in1k x = 0 := by
  unfold in1k
  by_cases c1 : x < -1000
  · rw [if_pos c1]; exact Or.inr rfl
  · rw [if_neg c1]
    by_cases c2 : 1000 < x
    · rw [if_pos c2]; exact Or.inr rfl
    · rw [if_neg c2]
      rw [fa_lt, show ((-1000 : Int32)).toInt = -1000 by decide] at c1
      rw [fa_lt, show ((1000 : Int32)).toInt = 1000 by decide] at c2
      exact Or.inl ⟨rfl, by omega, by omega⟩
theorem told_val {h : Int32} {b e : Nat} (hb : 0 < b) (hb2 : b < 2 ^ 63) (he : e < 2 ^ 31) : f_X0_isTold (lN b) h (nI e) = if b ^ e ≤ 9007199254740991 then in1k (h * nI e) else 0 := by
  unfold f_X0_isTold g_X0_isTold_15
  rw [if_pos (nI_pos' he), pO_eq hb hb2 he]
  unfold pu
  by_cases c : b ^ e ≤ 9007199254740991
  · rw [if_pos c, if_pos c, if_neg (lNneg (Nat.lt_of_le_of_lt c (by decide)))]
    rfl
  · rw [if_neg c, if_neg c, if_pos rfl]
theorem pS_c {g : Int32} (hg : g = -1 ∨ g = 0 ∨ g = 1) (h0 : ¬ g = 0) (e : Int32) : f_X0_powerSign g e = -1 ∨ f_X0_powerSign g e = 1 := by
  unfold f_X0_powerSign
  by_cases c : e = 0
  · rw [if_pos c]; exact Or.inr rfl
  · rw [if_neg c]
    by_cases c2 : (e &&& 1 : Int32) = 0
    · rw [if_pos c2]
      rcases hg with rfl | rfl | rfl
      · exact Or.inr (by decide)
      · exact absurd rfl h0
      · exact Or.inr (by decide)
    · rw [if_neg c2]
      rcases hg with rfl | rfl | rfl
      · exact Or.inl rfl
      · exact absurd rfl h0
      · exact Or.inr rfl
theorem okN_of {g : Int32} {b : Nat} {h : Int32} (hg : g = -1 ∨ g = 1) (hb : 0 < b) (hb2 : b < 9007199254740992) (h1 : -1000 ≤ h.toInt) (h2 : h.toInt ≤ 1000) (h3 : 1 < b → 0 ≤ h.toInt ∧ 3 ^ h.toInt.toNat ≤ b ^ 4) : okN g (lN b) h := by
  have hb3 : b < 2 ^ 63 := by omega
  have hn : ¬ lN b = 0 := by rw [show (0 : Int64) = lN 0 from rfl, lNeq hb3 (by decide)]; omega
  refine ⟨?_, ⟨fun z => ?_, fun z => absurd z hn⟩, ?_, ?_, fun z => absurd z hn, h1, h2, fun z => ?_⟩
  · rcases hg with rfl | rfl
    · exact Or.inl rfl
    · exact Or.inr (Or.inr rfl)
  · rcases hg with rfl | rfl
    · exact absurd z (by decide)
    · exact absurd z (by decide)
  · rw [lNt hb3]; omega
  · rw [lNt hb3]; omega
  · rw [lNt hb3] at z ⊢
    obtain ⟨h4, h5⟩ := h3 (by omega)
    exact ⟨h4, by exact_mod_cast h5⟩
/-- a number that is not 0: its odd part as a Nat -/
theorem okN_nat {g : Int32} {o : Int64} {h : Int32} (hk : okN g o h) (h0 : ¬ g = 0) : ∃ b : Nat, o = lN b ∧ 0 < b ∧ b < 9007199254740992 ∧ (1 < b → 0 ≤ h.toInt ∧ 3 ^ h.toInt.toNat ≤ b ^ 4) := by
  obtain ⟨k1, k2, k3, k4, k5, k6, k7, k8⟩ := hk
  obtain ⟨hl, e⟩ := lN_of k3
  generalize hb : o.toInt.toNat = b at hl e
  have ho : ¬ o = 0 := fun z => h0 (k2.mpr z)
  have hoi : o.toInt = (b : Int) := by omega
  refine ⟨b, e, ?_, by omega, fun z => ?_⟩
  · rcases Nat.eq_zero_or_pos b with z | z
    · rw [z] at e; exact absurd e ho
    · exact z
  · obtain ⟨h4, h5⟩ := k8 (by omega)
    rw [hoi] at h5
    exact ⟨h4, by exact_mod_cast h5⟩
theorem pow_inv {b k : Nat} {h : Int32} (hk : k ≤ 64) (h1 : -1000 ≤ h.toInt) (h2 : h.toInt ≤ 1000) (h3 : 1 < b → 0 ≤ h.toInt ∧ 3 ^ h.toInt.toNat ≤ b ^ 4) : 1 < b ^ k → 0 ≤ (h * nI k).toInt ∧ 3 ^ (h * nI k).toInt.toNat ≤ (b ^ k) ^ 4 := by
  intro z
  have hb1 : 1 < b := by
    rcases Nat.lt_or_ge 1 b with c | c
    · exact c
    · have h9 : b ^ k ≤ 1 ^ k := Nat.pow_le_pow_left c k
      rw [Nat.one_pow] at h9
      omega
  obtain ⟨h4, h5⟩ := h3 hb1
  obtain ⟨m, hm⟩ : ∃ m : Nat, h.toInt = (m : Int) := ⟨h.toInt.toNat, by omega⟩
  have hm2 : m ≤ 1000 := by omega
  have hmk : m * k ≤ 1000 * 64 := Nat.mul_le_mul hm2 hk
  have hc : (h.toInt * (nI k).toInt) = ((m * k : Nat) : Int) := by rw [hm, nI_toInt (by omega)]; rfl
  have he : (h * nI k).toInt = ((m * k : Nat) : Int) := by
    rw [fb_mulI (by rw [hc]; omega) (by rw [hc]; omega), hc]
  rw [hm, Int.toNat_natCast] at h5
  rw [he, Int.toNat_natCast]
  refine ⟨by omega, ?_⟩
  rw [Nat.pow_mul, ← Nat.pow_mul b k 4, Nat.mul_comm k 4, Nat.pow_mul]
  exact Nat.pow_le_pow_left h5 k
theorem told_ag (T : pT) {g : Int32} {o : Int64} {h : Int32} (hk : okN g o h) {e : Int32} (he1 : -64 ≤ e.toInt) (he2 : e.toInt ≤ 64) (h0 : g = 0 → 0 ≤ e.toInt) :
    (f_X0_isTold o h e = 0 ∨ f_X0_isTold o h e = 1) ∧ ∃ u, f_X1_isTold T g o h e = (f_X0_isTold o h e, u) ∧ keepT T u ∧ thT u = thT T ∧ (f_X0_isTold o h e = 1 → psT u = f_X0_powerSign g e ∧ poT u = f_X0_powerOdd o e ∧ phT u = h * e ∧ okN (f_X0_powerSign g e) (f_X0_powerOdd o e) (h * e)) := by
  have hk0 := hk
  obtain ⟨k1, k2, k3, k4, k5, k6, k7, k8⟩ := hk0
  by_cases cg : g = 0
  · have co : o = 0 := k2.mp cg
    have ch : h = 0 := k5 co
    subst cg; subst co; subst ch
    obtain ⟨he3, ee⟩ := nI_of' (h0 rfl)
    generalize hkk : e.toInt.toNat = k at he3 ee
    subst ee
    obtain ⟨t1, t2, t3, t4⟩ := told_zero T (e := k) (by omega)
    rw [t1, t2]
    refine ⟨Or.inr rfl, _, rfl, ntT_keep _ _ _ _, rfl, fun _ => ⟨rfl, rfl, Int32.zero_mul.symm, ?_⟩⟩
    rw [Int32.zero_mul, t3, t4]
    by_cases c : k = 0
    · rw [if_pos c, if_pos c]; exact okN_of (b := 1) (Or.inr rfl) (by decide) (by decide) (by decide) (by decide) (fun z => absurd z (by decide))
    · rw [if_neg c, if_neg c]; exact okN_0
  · obtain ⟨b, rfl, hb, hb2, hb4⟩ := okN_nat hk cg
    have hb3 : b < 2 ^ 63 := by omega
    by_cases ce : 0 ≤ e.toInt
    · obtain ⟨he3, ee⟩ := nI_of' ce
      generalize hkk : e.toInt.toNat = k at he3 ee
      subst ee
      have hk6 : k ≤ 64 := by omega
      have hv := told_val (h := h) hb hb3 he3
      obtain ⟨u, t1, t2, t3, t4⟩ := told_pos T (h := h) cg hb hb3 hk6
      refine ⟨?_, u, t1, t2, t3, fun z => ?_⟩
      · rw [hv]
        split
        · rcases in1k_c (h * nI k) with c | c
          · exact Or.inr c.1
          · exact Or.inl c
        · exact Or.inl rfl
      · obtain ⟨t5, t6, t7⟩ := t4 z
        refine ⟨t5, t6, t7, ?_⟩
        rw [hv] at z
        by_cases c : b ^ k ≤ 9007199254740991
        · rw [if_pos c] at z
          rw [pO_eq hb hb3 he3]
          unfold pu
          rw [if_pos c]
          rcases in1k_c (h * nI k) with c2 | c2
          · exact okN_of (pS_c k1 cg _) (Nat.pow_pos hb) (by omega) c2.2.1 c2.2.2 (pow_inv hk6 k6 k7 hb4)
          · rw [c2] at z; exact absurd z (by decide)
        · rw [if_neg c] at z; exact absurd z (by decide)
    · obtain ⟨k, hkp, hk6, ee⟩ : ∃ k : Nat, 0 < k ∧ k ≤ 64 ∧ e = -nI k := by
        refine ⟨(-e.toInt).toNat, by omega, by omega, ?_⟩
        have h9 : (nI (-e.toInt).toNat).toInt = -e.toInt := by rw [nI_toInt (by omega)]; omega
        rw [fa_eq, fb_negI (by rw [h9]; omega), h9]
        omega
      subst ee
      obtain ⟨u, t1, t2, t3, t4⟩ := told_neg T (h := h) (o := lN b) cg hkp hk6
      have hc : f_X0_isTold (lN b) h (-nI k) = 0 ∨ (f_X0_isTold (lN b) h (-nI k) = 1 ∧ -1000 ≤ (h * -nI k).toInt ∧ (h * -nI k).toInt ≤ 1000) := by
        rw [told_nval hkp hk6]
        by_cases c : lN b = 1
        · rw [if_pos c]
          rcases in1k_c (h * -nI k) with c2 | c2
          · exact Or.inr c2
          · exact Or.inl c2
        · rw [if_neg c]; exact Or.inl rfl
      refine ⟨hc.imp id (fun z => z.1), u, t1, t2, t3, fun z => ?_⟩
      obtain ⟨t5, t6, t7, t8, t9⟩ := t4 z
      refine ⟨t6, by rw [t7, t8], t9, ?_⟩
      rw [t8]
      rcases hc with c | c
      · rw [c] at z; exact absurd z (by decide)
      · exact okN_of (b := 1) (pS_c k1 cg _) (by decide) (by decide) c.2.1 c.2.2 (fun z => absurd z (by decide))

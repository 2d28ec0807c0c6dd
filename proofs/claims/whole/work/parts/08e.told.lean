/-! told: the class's test and the reference's, and what the reference notes -/
abbrev ntT (T : pT) (w : Int32) (q : Int64) (h : Int32) : pT := (sgT T, odT T, shT T, ksT T, kgT T, koT T, khT T, kpT T, w, q, h, thT T)
theorem ntT_keep (T : pT) (w : Int32) (q : Int64) (h : Int32) : keepT T (ntT T w q h) := ⟨rfl, rfl, rfl, rfl, rfl, rfl, rfl, rfl⟩
def in1k (h : Int32) : Int32 := if h < -1000 then 0 else if 1000 < h then 0 else 1
theorem t121 (T : pT) (h e w : Int32) (q : Int64) : g_X1_isTold_121 T h e w q = (in1k (h * e), ntT T w q (h * e)) := by
  unfold g_X1_isTold_121 in1k
  by_cases c1 : h * e < -1000
  · rw [if_pos c1, if_pos c1]
  · rw [if_neg c1, if_neg c1]
    by_cases c2 : 1000 < h * e
    · rw [if_pos c2, if_pos c2]
    · rw [if_neg c2, if_neg c2]
theorem lim_eq : (9007199254740991 : Int64) = lN 9007199254740991 := rfl
theorem t77 (T : pT) (h w : Int32) {b e : Nat} (hb : 0 < b) (hb2 : b < 2 ^ 63) (he : e < 2 ^ 31) : ∀ (n v : Nat), v ≤ e → e - v < n → b ^ v ≤ 9007199254740991 →
    (b ^ e ≤ 9007199254740991 → g_X1_isTold_77 T (lN b) h (nI e) w n (nI v) (lN (b ^ v)) = (in1k (h * nI e), ntT T w (lN (b ^ e)) (h * nI e))) ∧ (¬ b ^ e ≤ 9007199254740991 → ∃ q, g_X1_isTold_77 T (lN b) h (nI e) w n (nI v) (lN (b ^ v)) = (0, ntT T w q 0)) := by
  intro n
  induction n with
  | zero => intro v h1 h2; omega
  | succ n ih =>
    intro v hv hn hL2
    rw [g_X1_isTold_77]
    have hL3 : b ^ v < 2 ^ 63 := Nat.lt_of_le_of_lt hL2 (by decide)
    by_cases c : v = e
    · subst c
      rw [if_pos (nI_le (Nat.le_refl v) he), t121]
      exact ⟨fun _ => rfl, fun z => absurd hL2 z⟩
    · have hv2 : v < e := by omega
      rw [if_neg (nI_ge hv2 he)]
      by_cases c1 : b = 1
      · subst c1
        rw [if_pos (show lN 1 ≤ 1 by decide), t121, Nat.one_pow, Nat.one_pow]
        exact ⟨fun _ => rfl, fun z => absurd (by decide) z⟩
      · rw [if_neg (show ¬ lN b ≤ 1 by rw [show (1 : Int64) = lN 1 from rfl, lNle hb2 (by decide)]; omega), lim_eq, lNdiv (by decide) hb2 hb]
        have hd : 9007199254740991 / b < 2 ^ 63 := Nat.lt_of_le_of_lt (Nat.div_le_self _ b) (by decide)
        by_cases c2 : b ^ v ≤ 9007199254740991 / b
        · rw [if_pos ((lNle hL3 hd).mpr c2)]
          have h3 : b ^ (v + 1) ≤ 9007199254740991 := by
            rw [Nat.pow_succ]
            exact (Nat.le_div_iff_mul_le hb).mp c2
          have h4 := ih (v + 1) (by omega) (by omega) h3
          rw [lN_mul, nI_1, ← Nat.pow_succ]
          exact h4
        · rw [if_neg (fun h => c2 ((lNle hL3 hd).mp h))]
          have h3 : ¬ b ^ (v + 1) ≤ 9007199254740991 := fun h => c2 ((Nat.le_div_iff_mul_le hb).mpr (by rw [← Nat.pow_succ]; exact h))
          have h4 : ¬ b ^ e ≤ 9007199254740991 := fun h => h3 (Nat.le_trans (Nat.pow_le_pow_right hb (by omega)) h)
          exact ⟨fun z => absurd z h4, fun _ => ⟨_, rfl⟩⟩
theorem pO_eq {b e : Nat} (hb : 0 < b) (hb2 : b < 2 ^ 63) (he : e < 2 ^ 31) : f_X0_powerOdd (lN b) (nI e) = pu b e 9007199254740991 := by
  unfold f_X0_powerOdd
  rw [lim_eq]
  exact pu_eq hb hb2 he (by decide) (by decide)
/-- an exponent from 0 on, a base that is not 0 -/
theorem told_pos (T : pT) {g h : Int32} {b e : Nat} (hg : ¬ g = 0) (hb : 0 < b) (hb2 : b < 2 ^ 63) (he6 : e ≤ 64) : ∃ u, f_X1_isTold T g (lN b) h (nI e) = (f_X0_isTold (lN b) h (nI e), u) ∧ keepT T u ∧ thT u = thT T ∧ (f_X0_isTold (lN b) h (nI e) = 1 → psT u = f_X0_powerSign g (nI e) ∧ poT u = f_X0_powerOdd (lN b) (nI e) ∧ phT u = h * nI e) := by
  have he : e < 2 ^ 31 := by omega
  have h0 : f_X0_isTold (lN b) h (nI e) = if b ^ e ≤ 9007199254740991 then in1k (h * nI e) else 0 := by
    unfold f_X0_isTold g_X0_isTold_15
    rw [if_pos (nI_pos' he), pO_eq hb hb2 he]
    unfold pu
    by_cases c : b ^ e ≤ 9007199254740991
    · rw [if_pos c, if_pos c, if_neg (lNneg (Nat.lt_of_le_of_lt c (by decide)))]
      rfl
    · rw [if_neg c, if_neg c, if_pos rfl]
  rw [h0]
  have hsg : ∃ w, f_X0_powerSign g (nI e) = w ∧ f_X1_isTold T g (lN b) h (nI e) = g_X1_isTold_24 T g (lN b) h (nI e) w := by
    unfold f_X0_powerSign f_X1_isTold
    by_cases c : nI e = 0
    · rw [if_pos c, if_pos c]; exact ⟨_, rfl, rfl⟩
    · rw [if_neg c, if_neg c]
      have hpar : ((nI e &&& 1 : Int32) = 0) ↔ ((nI e - nI e / 2 * 2 : Int32) = 0) := by
        have hall : ∀ j, j < 65 → (((nI j &&& 1 : Int32) = 0) ↔ ((nI j - nI j / 2 * 2 : Int32) = 0)) := by decide +kernel
        exact hall e (by omega)
      by_cases c2 : (nI e &&& 1 : Int32) = 0
      · rw [if_pos c2, if_pos (hpar.mp c2)]; exact ⟨_, rfl, rfl⟩
      · rw [if_neg c2, if_neg (fun z => c2 (hpar.mpr z))]; exact ⟨_, rfl, rfl⟩
  obtain ⟨w, hw, hf⟩ := hsg
  rw [hf, hw, pO_eq hb hb2 he]
  unfold g_X1_isTold_24 g_X1_isTold_41 g_X1_isTold_42
  rw [if_neg hg, if_neg hg, ite_self]
  by_cases ce : nI e = 0
  · have e0 : e = 0 := by
      have := (nI_eq he (show 0 < 2 ^ 31 by decide)).mp ce
      exact this
    subst e0
    rw [if_pos ce, if_pos (show b ^ 0 ≤ 9007199254740991 by rw [Nat.pow_zero]; decide)]
    have hz : h * nI 0 = 0 := Int32.mul_zero
    rw [hz]
    refine ⟨ntT T w 1 0, ?_, ntT_keep T w 1 0, rfl, fun _ => ⟨rfl, ?_, rfl⟩⟩
    · rfl
    · unfold pu; rw [Nat.pow_zero, if_pos (by decide)]; rfl
  · rw [if_neg ce, if_pos (nI_pos' he), nI_toInt he, i0]
    have ht := t77 T h w hb hb2 he (((e : Int) - 0).toNat + 1) 0 (Nat.zero_le _) (by omega) (by rw [Nat.pow_zero]; decide)
    rw [Nat.pow_zero] at ht
    by_cases c : b ^ e ≤ 9007199254740991
    · rw [if_pos c]
      refine ⟨_, ht.1 c, ntT_keep _ _ _ _, rfl, fun _ => ⟨rfl, ?_, rfl⟩⟩
      unfold pu
      rw [if_pos c]
    · rw [if_neg c]
      obtain ⟨q, hq⟩ := ht.2 c
      exact ⟨_, hq, ntT_keep _ _ _ _, rfl, fun z => absurd z (by decide)⟩
theorem told_nval {h : Int32} {o : Int64} {k : Nat} (hk : 0 < k) (hk6 : k ≤ 64) : f_X0_isTold o h (-nI k) = if o = 1 then in1k (h * -nI k) else 0 := by
  have hn1 : ¬ (0 : Int32) ≤ -nI k := by
    have hall : ∀ j, j < 65 → 0 < j → ¬ (0 : Int32) ≤ -nI j := by decide +kernel
    exact hall k (by omega) hk
  have hn2 : -nI k ≤ (0 : Int32) := by
    have hall : ∀ j, j < 65 → -nI j ≤ (0 : Int32) := by decide +kernel
    exact hall k (by omega)
  have hn4 : (((-nI k : Int32)).toInt - (0 : Int32).toInt).toNat = 0 := by
    have hall : ∀ j, j < 65 → (((-nI j : Int32)).toInt - (0 : Int32).toInt).toNat = 0 := by decide +kernel
    exact hall k (by omega)
  have hpo : f_X0_powerOdd o (-nI k) = 1 := by
    unfold f_X0_powerOdd f_X0_powerUpTo
    rw [hn4, g_X0_powerUpTo_6, if_pos hn2]
  unfold f_X0_isTold g_X0_isTold_15
  rw [if_neg hn1, hpo, if_neg (show ¬ (1 : Int64) = -1 by decide)]
  rfl
/-- an exponent below 0 -/
theorem told_neg (T : pT) {g h : Int32} {o : Int64} {k : Nat} (hg : ¬ g = 0) (hk : 0 < k) (hk6 : k ≤ 64) : ∃ u, f_X1_isTold T g o h (-nI k) = (f_X0_isTold o h (-nI k), u) ∧ keepT T u ∧ thT u = thT T ∧ (f_X0_isTold o h (-nI k) = 1 → o = 1 ∧ psT u = f_X0_powerSign g (-nI k) ∧ poT u = 1 ∧ f_X0_powerOdd o (-nI k) = 1 ∧ phT u = h * -nI k) := by
  have hn1 : ¬ (0 : Int32) ≤ -nI k := by
    have hall : ∀ j, j < 65 → 0 < j → ¬ (0 : Int32) ≤ -nI j := by decide +kernel
    exact hall k (by omega) hk
  have hn2 : -nI k ≤ (0 : Int32) := by
    have hall : ∀ j, j < 65 → -nI j ≤ (0 : Int32) := by decide +kernel
    exact hall k (by omega)
  have hn3 : ¬ -nI k = (0 : Int32) := by
    have hall : ∀ j, j < 65 → 0 < j → ¬ -nI j = (0 : Int32) := by decide +kernel
    exact hall k (by omega) hk
  have hn4 : (((-nI k : Int32)).toInt - (0 : Int32).toInt).toNat = 0 := by
    have hall : ∀ j, j < 65 → (((-nI j : Int32)).toInt - (0 : Int32).toInt).toNat = 0 := by decide +kernel
    exact hall k (by omega)
  have hpo : f_X0_powerOdd o (-nI k) = 1 := by
    unfold f_X0_powerOdd f_X0_powerUpTo
    rw [hn4, g_X0_powerUpTo_6, if_pos hn2]
  have h0 : f_X0_isTold o h (-nI k) = if o = 1 then in1k (h * -nI k) else 0 := by
    unfold f_X0_isTold g_X0_isTold_15
    rw [if_neg hn1, hpo, if_neg (show ¬ (1 : Int64) = -1 by decide)]
    rfl
  have hsg : ∃ w, f_X0_powerSign g (-nI k) = w ∧ f_X1_isTold T g o h (-nI k) = g_X1_isTold_24 T g o h (-nI k) w := by
    unfold f_X0_powerSign f_X1_isTold
    rw [if_neg hn3, if_neg hn3]
    have hpar : ((-nI k &&& 1 : Int32) = 0) ↔ ((-nI k - -nI k / 2 * 2 : Int32) = 0) := by
      have hall : ∀ j, j < 65 → (((-nI j &&& 1 : Int32) = 0) ↔ ((-nI j - -nI j / 2 * 2 : Int32) = 0)) := by decide +kernel
      exact hall k (by omega)
    by_cases c2 : (-nI k &&& 1 : Int32) = 0
    · rw [if_pos c2, if_pos (hpar.mp c2)]; exact ⟨_, rfl, rfl⟩
    · rw [if_neg c2, if_neg (fun z => c2 (hpar.mpr z))]; exact ⟨_, rfl, rfl⟩
  obtain ⟨w, hw, hf⟩ := hsg
  rw [h0, hf, hw, hpo]
  unfold g_X1_isTold_24 g_X1_isTold_41 g_X1_isTold_42
  rw [if_neg hg, if_neg hg, ite_self, if_neg hn3, if_neg hn1]
  by_cases c : o = 1
  · rw [if_pos c, if_pos c, hn4, g_X1_isTold_77, if_pos hn2, t121]
    exact ⟨_, rfl, ntT_keep _ _ _ _, rfl, fun _ => ⟨c, rfl, rfl, rfl, rfl⟩⟩
  · rw [if_neg c, if_neg c]
    exact ⟨_, rfl, ntT_keep _ _ _ _, rfl, fun z => absurd z (by decide)⟩
/-- the number 0 -/
theorem told_zero (T : pT) {e : Nat} (he : e ≤ 64) : f_X0_isTold 0 0 (nI e) = 1 ∧ f_X1_isTold T 0 0 0 (nI e) = (1, ntT T (f_X0_powerSign 0 (nI e)) (f_X0_powerOdd 0 (nI e)) 0) ∧ f_X0_powerOdd 0 (nI e) = (if e = 0 then 1 else 0) ∧ f_X0_powerSign 0 (nI e) = (if e = 0 then 1 else 0) := by
  have h1 : ∀ j, j < 65 → f_X0_isTold 0 0 (nI j) = 1 ∧ f_X0_powerOdd 0 (nI j) = (if j = 0 then 1 else 0) ∧ f_X0_powerSign 0 (nI j) = (if j = 0 then 1 else 0) := by decide +kernel
  obtain ⟨a1, a2, a3⟩ := h1 e (by omega)
  refine ⟨a1, ?_, a2, a3⟩
  rw [a2, a3]
  unfold f_X1_isTold g_X1_isTold_24 g_X1_isTold_41 g_X1_isTold_42
  by_cases c : e = 0
  · subst c
    rw [if_pos rfl, if_pos rfl, if_pos (show nI 0 = 0 from rfl), if_pos (show nI 0 = 0 from rfl)]
    rfl
  · have c2 : ¬ nI e = 0 := nI_ne0 (by omega) (by omega)
    have c5 : ((0 : Int32) = 0) := rfl
    rw [if_neg c, if_neg c]
    simp only [if_neg c2, if_pos c5]
    rw [show (0 : Int32) * 0 = 0 from rfl, ite_self]
    simp only [if_true]

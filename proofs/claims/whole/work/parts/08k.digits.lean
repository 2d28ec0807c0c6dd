/-! digits: log, digits, digit -/
theorem ng_0 {p : Int32} (c : ¬ p < 0) : (0 : Int32) ≤ p := by
  rw [fa_lt] at c
  rw [fa_le]
  omega
theorem ng_1 {p : Int32} (c : p < 0) : ¬ (0 : Int32) ≤ p := by
  rw [fa_lt] at c
  rw [fa_le]
  omega
theorem lacks_c {S : pS} {T : pT} (hR : rel S T) (p0 p1 p2 : Int32) :
    (f_X0_checkSlot p1 = .error 1 ∧ f_X1_lacks T p0 p1 p2 = (1, thS T 1)) ∨
    (f_X0_checkSlot p1 = .ok () ∧ f_X0_checkDigitBase p0 = .error 2 ∧ f_X1_lacks T p0 p1 p2 = (1, thS T 2)) ∨
    (f_X0_checkSlot p1 = .ok () ∧ f_X0_checkDigitBase p0 = .ok () ∧ ¬ (0 : Int32) ≤ p2 ∧ f_X1_lacks T p0 p1 p2 = (1, thS T 2)) ∨
    (f_X0_checkSlot p1 = .ok () ∧ f_X0_checkDigitBase p0 = .ok () ∧ (0 : Int32) ≤ p2 ∧ f_X0_checkNear S p1 = .error 3 ∧ f_X1_lacks T p0 p1 p2 = (1, thS T 3)) ∨
    (f_X0_checkSlot p1 = .ok () ∧ f_X0_checkDigitBase p0 = .ok () ∧ (0 : Int32) ≤ p2 ∧ f_X0_checkNear S p1 = .ok () ∧ f_X1_lacks T p0 p1 p2 = (0, thS T 0) ∧
      ∃ b z : Nat, p0 = nI b ∧ 2 ≤ b ∧ b ≤ 64 ∧ z < 9007199254740992 ∧ f_X0_nearSize S p1 = lN z ∧ f_X1_sizeOf T p1 = lN z ∧ (sgS S p1.toNatClampNeg = 0 ↔ z = 0)) := by
  rcases slot_c p1 with ⟨h, e0, e1⟩ | ⟨e0, e1⟩
  · have hd1 : f_X0_checkRange p0 2 64 = .ok () → f_X0_checkDigitBase p0 = .ok () := by
      intro hk
      simp only [f_X0_checkDigitBase, hk]
    have hd2 : f_X0_checkRange p0 2 64 = .error 2 → f_X0_checkDigitBase p0 = .error 2 := by
      intro hk
      simp only [f_X0_checkDigitBase, hk]
    rcases range_c p0 2 64 with ⟨h1, h2, e2, e3⟩ | ⟨e2, e3⟩
    · by_cases c : p2 < 0
      · have hl : f_X1_lacks T p0 p1 p2 = (1, thS T 2) := by
          unfold f_X1_lacks
          rw [e1, no_1]
          dsimp only
          rw [if_pos (show (0 : Int32) = 0 from rfl), e3, if_neg (show ¬ (1 : Int32) = 0 by decide), if_pos c]
          unfold g_X1_lacks_31 g_X1_lacks_32
          rw [no_0]
          rfl
        exact Or.inr (Or.inr (Or.inl ⟨e0, hd1 e2, ng_1 c, hl⟩))
      · have hl1 : f_X1_isNear T p1 = 1 → f_X1_lacks T p0 p1 p2 = (0, thS T 0) := by
          intro hr
          unfold f_X1_lacks
          rw [e1, no_1]
          dsimp only
          rw [if_pos (show (0 : Int32) = 0 from rfl), e3, if_neg (show ¬ (1 : Int32) = 0 by decide), if_neg c]
          unfold g_X1_lacks_32
          rw [no_1]
          dsimp only
          rw [if_pos (show (0 : Int32) = 0 from rfl), show f_X1_isNear (thS (thS T 0) 0) p1 = 1 from hr, no_1]
          rfl
        have hl0 : f_X1_isNear T p1 = 0 → f_X1_lacks T p0 p1 p2 = (1, thS T 3) := by
          intro hr
          unfold f_X1_lacks
          rw [e1, no_1]
          dsimp only
          rw [if_pos (show (0 : Int32) = 0 from rfl), e3, if_neg (show ¬ (1 : Int32) = 0 by decide), if_neg c]
          unfold g_X1_lacks_32
          rw [no_1]
          dsimp only
          rw [if_pos (show (0 : Int32) = 0 from rfl), show f_X1_isNear (thS (thS T 0) 0) p1 = 0 from hr, no_0]
          rfl
        rcases near_s hR p1 with ⟨z, hz, n1, n2, n3, n4, n5⟩ | ⟨n3, n4⟩
        · have hl2 := hl1 n4
          obtain ⟨b, hb, rfl⟩ : ∃ b : Nat, b ≤ 64 ∧ p0 = nI b := by
            obtain ⟨hb, eb⟩ := nI_of' (x := p0) (by rw [show (2 : Int32).toInt = 2 by decide] at h1; omega)
            rw [show (64 : Int32).toInt = 64 by decide] at h2
            exact ⟨p0.toInt.toNat, by omega, eb⟩
          rw [nI_toInt (by omega), show (2 : Int32).toInt = 2 by decide] at h1
          exact Or.inr (Or.inr (Or.inr (Or.inr ⟨e0, hd1 e2, ng_0 c, n3, hl2, b, z, rfl, by omega, hb, hz, n1, n2, n5⟩)))
        · have hl2 := hl0 n4
          exact Or.inr (Or.inr (Or.inr (Or.inl ⟨e0, hd1 e2, ng_0 c, n3, hl2⟩)))
    · have hl : f_X1_lacks T p0 p1 p2 = (1, thS T 2) := by
        unfold f_X1_lacks
        rw [e1, no_1]
        dsimp only
        rw [if_pos (show (0 : Int32) = 0 from rfl), e3, if_pos (show (0 : Int32) = 0 from rfl)]
        unfold g_X1_lacks_31 g_X1_lacks_32
        rw [no_0]
        rfl
      exact Or.inr (Or.inl ⟨e0, hd2 e2, hl⟩)
  · have hl : f_X1_lacks T p0 p1 p2 = (1, thS T 1) := by
      unfold f_X1_lacks
      rw [e1, no_0]
      rfl
    exact Or.inl ⟨e0, hl⟩
/-- how often v can be divided -/
def dcn (b v k : Nat) : Prop := v < b ^ k ∧ (k = 0 ∨ b ^ (k - 1) ≤ v)
theorem dcn_ex {b v : Nat} (hb : 2 ≤ b) (hv : v < 4503599627370496) : ∃ k, k ≤ 52 ∧ dcn b v k := by
  have h52 : v < b ^ 52 := Nat.lt_of_lt_of_le hv (by
    have h9 : 2 ^ 52 ≤ b ^ 52 := Nat.pow_le_pow_left hb 52
    have h8 : 2 ^ 52 = 4503599627370496 := by decide
    omega)
  obtain ⟨k, h1, h2⟩ := pk_least (fun k => v < b ^ k) ⟨52, h52⟩
  refine ⟨k, ?_, h1, ?_⟩
  · rcases Nat.lt_or_ge 52 k with c | c
    · exact absurd h52 (h2 52 c)
    · exact c
  · rcases Nat.eq_zero_or_pos k with c | c
    · exact Or.inl c
    · have h3 : ¬ v < b ^ (k - 1) := h2 (k - 1) (by omega)
      exact Or.inr (by omega)
theorem dcn_step {b v k : Nat} (hb : 0 < b) (h : dcn b v (k + 1)) : 0 < v ∧ dcn b (v / b) k := by
  obtain ⟨h1, h2⟩ := h
  have h3 : b ^ k ≤ v := by
    rcases h2 with c | c
    · omega
    · exact c
  have h4 : 0 < b ^ k := Nat.pow_pos hb
  refine ⟨by omega, ?_, ?_⟩
  · rw [Nat.div_lt_iff_lt_mul hb, ← Nat.pow_succ]; exact h1
  · cases k with
    | zero => exact Or.inl rfl
    | succ k =>
      refine Or.inr ?_
      rw [Nat.add_sub_cancel, Nat.le_div_iff_mul_le hb, ← Nat.pow_succ]
      exact h3
theorem dcn_0 {b v : Nat} (h : dcn b v 0) : v = 0 := by
  have h1 := h.1
  rw [Nat.pow_zero] at h1
  omega
theorem cd_go {b : Nat} (hb : 2 ≤ b) (hb2 : b ≤ 64) : ∀ k n c v, dcn b v k → k < n → c + k ≤ 53 → v < 2 ^ 63 → g_X0_countDigits_8 (nI b) n (nI c) (lN v) = nI (c + k) := by
  intro k
  induction k with
  | zero =>
    intro n c v h hn hc hv
    cases n with
    | zero => omega
    | succ n =>
      have h0 := dcn_0 h
      subst h0
      rw [g_X0_countDigits_8]
      by_cases c1 : (53 : Int32) ≤ nI c
      · rw [if_pos c1, Nat.add_zero]
      · rw [if_neg c1, if_pos (show lN 0 ≤ 0 by decide), Nat.add_zero]
  | succ k ih =>
    intro n c v h hn hc hv
    cases n with
    | zero => omega
    | succ n =>
      obtain ⟨h1, h2⟩ := dcn_step (by omega) h
      rw [g_X0_countDigits_8, if_neg (show ¬ (53 : Int32) ≤ nI (c) from nI_ge (a := c) (b := 53) (by omega) (by decide)), if_neg (show ¬ lN v ≤ 0 by rw [lN0, lNle hv (by decide)]; omega), nI_l (by omega), lNdiv hv (by omega) (by omega), nI_1, ih n (c + 1) (v / b) h2 (by omega) (by omega) (Nat.lt_of_le_of_lt (Nat.div_le_self _ _) hv)]
      congr 1
      omega
theorem dg_go {b : Nat} (T u : pT) (hb : 2 ≤ b) (hb2 : b ≤ 64) : ∀ k n c v, dcn b v k → k < n → v < 2 ^ 63 → g_X1_digits_24 T (nI b) u n (nI c) (lN v) = (nI (c + k), u) := by
  intro k
  induction k with
  | zero =>
    intro n c v h hn hv
    cases n with
    | zero => omega
    | succ n =>
      have h0 := dcn_0 h
      subst h0
      rw [g_X1_digits_24, if_pos (show lN 0 ≤ 0 by decide), Nat.add_zero]
  | succ k ih =>
    intro n c v h hn hv
    cases n with
    | zero => omega
    | succ n =>
      obtain ⟨h1, h2⟩ := dcn_step (by omega) h
      rw [g_X1_digits_24, if_neg (show ¬ lN v ≤ 0 by rw [lN0, lNle hv (by decide)]; omega), nI_l (by omega), lNdiv hv (by omega) (by omega), nI_1, ih n (c + 1) (v / b) h2 (by omega) (Nat.lt_of_le_of_lt (Nat.div_le_self _ _) hv)]
      have e : c + 1 + k = c + (k + 1) := by omega
      rw [e]
theorem lg_go {b : Nat} (T u : pT) (hb : 2 ≤ b) (hb2 : b ≤ 64) : ∀ k n c v, dcn b (v / b) k → 0 < v → k < n → v < 2 ^ 63 → g_X1_log_43 T (nI b) u n (nI c) (lN v) = (nI (c + k), u) := by
  intro k
  induction k with
  | zero =>
    intro n c v h hp hn hv
    cases n with
    | zero => omega
    | succ n =>
      have h0 := dcn_0 h
      have h1 : v < b := (Nat.div_eq_zero_iff_lt (by omega)).mp h0
      rw [g_X1_log_43, nI_l (by omega), if_pos ((lNlt hv (by omega)).mpr h1), Nat.add_zero]
  | succ k ih =>
    intro n c v h hp hn hv
    cases n with
    | zero => omega
    | succ n =>
      obtain ⟨h1, h2⟩ := dcn_step (by omega) h
      have h3 : ¬ v < b := fun z => by
        rw [(Nat.div_eq_zero_iff_lt (by omega)).mpr z] at h1
        omega
      rw [g_X1_log_43, nI_l (by omega), if_neg (fun z => h3 ((lNlt hv (by omega)).mp z)), lNdiv hv (by omega) (by omega), nI_1, ih n (c + 1) (v / b) h2 h1 (by omega) (Nat.lt_of_le_of_lt (Nat.div_le_self _ _) hv)]
      have e : c + 1 + k = c + (k + 1) := by omega
      rw [e]
theorem dcn_fuel {b v k : Nat} (hb : 2 ≤ b) (h : dcn b v k) : k ≤ v := by
  rcases h.2 with c | c
  · omega
  · rcases Nat.eq_zero_or_pos k with c2 | c2
    · omega
    · have h1 : k - 1 < 2 ^ (k - 1) := Nat.lt_two_pow_self
      have h2 : 2 ^ (k - 1) ≤ b ^ (k - 1) := Nat.pow_le_pow_left hb _
      omega
theorem cd_eq {b z k : Nat} (hb : 2 ≤ b) (hb2 : b ≤ 64) (hz : z < 9007199254740992) (h : dcn b (z / b) k) (hk : k ≤ 52) : f_X0_countDigits (nI b) (lN z) = nI (1 + k) := by
  have hq : z / b < 2 ^ 63 := Nat.lt_of_le_of_lt (Nat.div_le_self _ _) (by omega)
  unfold f_X0_countDigits
  rw [nI_l (by omega), lNdiv (by omega) (by omega) (by omega)]
  exact cd_go hb hb2 k _ 1 (z / b) h (by
    have h9 : ((53 : Int32).toInt - (1 : Int32).toInt).toNat = 52 := by decide
    omega) (by omega) hq
theorem zb_lt {b z : Nat} (hb : 2 ≤ b) (hz : z < 9007199254740992) : z / b < 4503599627370496 := by
  rw [Nat.div_lt_iff_lt_mul (by omega)]
  have := Nat.mul_le_mul_left 4503599627370496 hb
  omega
theorem ag_digits {S : pS} {T : pT} (hR : rel S T) (o : Nat → Int64) (p0 : Int32) (p1 : Int32) : agI (wrI [1, 2, 3] S o (f_X0_digits S p0 p1)) (f_X1_digits T p0 p1) := by
  unfold f_X0_digits f_X1_digits
  rcases lacks_c hR p0 p1 0 with ⟨e0, e1⟩ | ⟨e0, e2, e1⟩ | ⟨e0, e2, e3, e1⟩ | ⟨e0, e2, e3, e4, e1⟩ | ⟨e0, e2, e3, e4, e1, b, z, rfl, hb, hb2, hz, n1, n2, n3⟩
  · rw [e0, e1]
    exact agI_er (rel_th hR 1) o _ 1 rfl (by decide)
  · rw [e0, e2, e1]
    exact agI_er (rel_th hR 2) o _ 2 rfl (by decide)
  · exact absurd (by decide) e3
  · rw [e0, e2, e4, e1]
    exact agI_er (rel_th hR 3) o _ 3 rfl (by decide)
  · rw [e0, e2, e4, e1]
    dsimp only
    rw [if_pos (show (0 : Int32) = 0 from rfl), n1, show f_X1_sizeOf (thS T 0) p1 = lN z from n2]
    obtain ⟨k, hk, hd⟩ := dcn_ex hb (zb_lt hb hz)
    have hq : z / b < 2 ^ 63 := Nat.lt_of_le_of_lt (Nat.div_le_self _ _) (by omega)
    rw [cd_eq hb hb2 hz hd hk, nI_l (by omega), lNdiv (by omega) (by omega) (by omega)]
    have hX := dg_go T (thS T 0) hb hb2 k ((lN (z / b)).toInt.toNat + 1) 1 (z / b) hd (by
      have h9 := dcn_fuel hb hd
      rw [lNt hq]
      omega) hq
    have hX' : g_X1_digits_24 T (nI b) (thS T 0) ((lN (z / b)).toInt.toNat + 1) 1 (lN (z / b)) = (nI (1 + k), thS T 0) := hX
    rw [hX']
    exact agI_ok (rel_th hR 0) o _ rfl rfl
theorem ag_log {S : pS} {T : pT} (hR : rel S T) (o : Nat → Int64) (p0 : Int32) (p1 : Int32) : agI (wrI [1, 2, 3, 4] S o (f_X0_log S p0 p1)) (f_X1_log T p0 p1) := by
  unfold f_X0_log f_X1_log
  rcases lacks_c hR p0 p1 0 with ⟨e0, e1⟩ | ⟨e0, e2, e1⟩ | ⟨e0, e2, e3, e1⟩ | ⟨e0, e2, e3, e4, e1⟩ | ⟨e0, e2, e3, e4, e1, b, z, rfl, hb, hb2, hz, n1, n2, n3⟩
  · rw [e0, e1]
    exact agI_er (rel_th hR 1) o _ 1 rfl (by decide)
  · rw [e0, e2, e1]
    exact agI_er (rel_th hR 2) o _ 2 rfl (by decide)
  · exact absurd (by decide) e3
  · rw [e0, e2, e4, e1]
    exact agI_er (rel_th hR 3) o _ 3 rfl (by decide)
  · rw [e0, e2, e4, e1]
    dsimp only
    rw [if_pos (show (0 : Int32) = 0 from rfl), n1, show sgT (thS T 0) = sgS S from hR.1.symm]
    by_cases c : sgS S p1.toNatClampNeg ≤ 0
    · have c2 : ¬ (1 : Int32) ≤ sgS S p1.toNatClampNeg := fun h => by
        rw [fa_le, i0] at c
        rw [fa_le, i1] at h
        omega
      rw [if_neg c2, if_pos c]
      unfold g_X1_log_25
      rw [no_0]
      exact agI_er (rel_th hR 4) o _ 4 rfl (by decide)
    · have c2 : (1 : Int32) ≤ sgS S p1.toNatClampNeg := by
        rw [fa_le, i0] at c
        rw [fa_le, i1]
        omega
      have hz0 : 0 < z := by
        rcases Nat.eq_zero_or_pos z with h | h
        · rw [n3.mpr h] at c
          exact absurd (by decide) c
        · exact h
      rw [if_pos c2, if_neg c]
      unfold g_X1_log_25
      rw [no_1]
      dsimp only
      rw [if_pos (show (0 : Int32) = 0 from rfl), show f_X1_sizeOf (thS (thS T 0) 0) p1 = lN z from n2]
      obtain ⟨k, hk, hd⟩ := dcn_ex hb (zb_lt hb hz)
      have hX := lg_go T (thS (thS T 0) 0) hb hb2 k ((lN z).toInt.toNat + 1) 0 z hd hz0 (by
        have h9 := dcn_fuel hb hd
        have h8 : z / b ≤ z := Nat.div_le_self _ _
        rw [lNt (by omega)]
        omega) (by omega)
      have hX' : g_X1_log_43 T (nI b) (thS (thS T 0) 0) ((lN z).toInt.toNat + 1) 0 (lN z) = (nI (0 + k), thS (thS T 0) 0) := hX
      rw [hX', cd_eq hb hb2 hz hd hk]
      refine agI_ok (rel_th (rel_th hR 0) 0) o _ rfl ?_
      rw [Nat.add_comm 1 k, nI_pred, Nat.zero_add]
theorem dt_go (p0 : Int32) (T u : pT) {m : Nat} (hm : m < 2 ^ 31) : ∀ n i v, i ≤ m → m - i < n → ∃ w, g_X0_digit_37 p0 (nI m) n v (nI i) = .ok w ∧ g_X1_digit_22 T p0 (nI m) u n v (nI i) = (w, u) := by
  intro n
  induction n with
  | zero => intro i v h1 h2; omega
  | succ n ih =>
    intro i v h1 h2
    rw [g_X0_digit_37, g_X1_digit_22]
    by_cases c : i = m
    · subst c
      rw [if_pos (nI_le (Nat.le_refl i) hm), if_pos (nI_le (Nat.le_refl i) hm)]
      exact ⟨_, rfl, rfl⟩
    · rw [if_neg (nI_ge (by omega) hm), if_neg (nI_ge (by omega) hm)]
      by_cases c2 : v ≤ 0
      · rw [if_pos c2, if_pos c2]
        exact ⟨_, rfl, rfl⟩
      · rw [if_neg c2, if_neg c2, nI_1]
        exact ih (i + 1) _ (by omega) (by omega)
theorem ag_digit {S : pS} {T : pT} (hR : rel S T) (o : Nat → Int64) (p0 : Int32) (p1 : Int32) (p2 : Int32) : agI (wrI [1, 2, 3] S o (f_X0_digit S p0 p1 p2)) (f_X1_digit T p0 p1 p2) := by
  unfold f_X0_digit f_X1_digit
  rcases lacks_c hR p0 p1 p2 with ⟨e0, e1⟩ | ⟨e0, e2, e1⟩ | ⟨e0, e2, e3, e1⟩ | ⟨e0, e2, e3, e4, e1⟩ | ⟨e0, e2, e3, e4, e1, b, z, rfl, hb, hb2, hz, n1, n2, n3⟩
  · rw [e0, e1]
    exact agI_er (rel_th hR 1) o _ 1 rfl (by decide)
  · rw [e0, e2, e1]
    exact agI_er (rel_th hR 2) o _ 2 rfl (by decide)
  · rw [e0, e2, e1]
    dsimp only
    rw [if_neg e3]
    exact agI_er (rel_th hR 2) o _ 2 rfl (by decide)
  · rw [e0, e2, e1]
    dsimp only
    rw [if_pos e3, e4]
    exact agI_er (rel_th hR 3) o _ 3 rfl (by decide)
  · rw [e0, e2, e1]
    dsimp only
    rw [if_pos e3, e4]
    dsimp only
    rw [if_pos (show (0 : Int32) = 0 from rfl), n1, show f_X1_sizeOf (thS T 0) p1 = lN z from n2]
    obtain ⟨hm, em⟩ := nI_of' (x := p2) (by rw [fa_le, i0] at e3; exact e3)
    generalize hmm : p2.toInt.toNat = m at hm em
    subst em
    obtain ⟨w, w1, w2⟩ := dt_go (nI b) T (thS T 0) hm (((nI m).toInt - (0 : Int32).toInt).toNat + 1) 0 (lN z) (Nat.zero_le _) (by rw [nI_toInt hm, i0]; omega)
    have w1' : g_X0_digit_37 (nI b) (nI m) (((nI m).toInt - (0 : Int32).toInt).toNat + 1) (lN z) 0 = .ok w := w1
    have w2' : g_X1_digit_22 T (nI b) (nI m) (thS T 0) (((nI m).toInt - (0 : Int32).toInt).toNat + 1) (lN z) 0 = (w, thS T 0) := w2
    rw [w1', w2']
    exact agI_ok (rel_th hR 0) o _ rfl rfl

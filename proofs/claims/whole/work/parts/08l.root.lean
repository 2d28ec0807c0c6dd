/-! root -/
theorem pu1 {b d z : Nat} (hb : 0 < b) (hb2 : b < 2 ^ 63) (hd0 : 0 < d) (hd : d < 2 ^ 31) (hz : z < 2 ^ 63) : f_X0_powerUpTo (lN b) (nI d) (lN z) = pu b d z := by
  rcases Nat.eq_zero_or_pos z with c | c
  · subst c
    have hp : 0 < b ^ d := Nat.pow_pos hb
    unfold f_X0_powerUpTo pu
    rw [if_neg (by omega), g_X0_powerUpTo_6, if_neg (show ¬ nI d ≤ 0 from nI_nle hd0 hd), if_neg (show ¬ lN b ≤ 0 by rw [lN0, lNle hb2 (by decide)]; omega), lNdiv (by decide) hb2 hb, Nat.zero_div, if_neg (by decide)]
  · exact pu_eq hb hb2 hd c hz
def rtn (d z r : Nat) : Prop := r ≤ 64 ∧ (∀ j, 0 < j → j ≤ r → j ^ d ≤ z) ∧ (r = 64 ∨ z < (r + 1) ^ d)
theorem rtn_ex (d z : Nat) : ∃ r, rtn d z r := by
  obtain ⟨k, h1, h2⟩ := pk_least (fun k => k = 64 ∨ z < (k + 1) ^ d) ⟨64, Or.inl rfl⟩
  refine ⟨k, ?_, ?_, h1⟩
  · rcases Nat.lt_or_ge 64 k with c | c
    · exact absurd (Or.inl rfl) (h2 64 c)
    · exact c
  · intro j hj hjk
    have h3 : ¬ (j - 1 = 64 ∨ z < (j - 1 + 1) ^ d) := h2 (j - 1) (by omega)
    rw [show j - 1 + 1 = j by omega] at h3
    rcases Nat.lt_or_ge z (j ^ d) with c | c
    · exact absurd (Or.inr c) h3
    · exact c
theorem rtn_iff {d z r b : Nat} (h : rtn d z r) (hb : 0 < b) (hb2 : b ≤ 64) : b ^ d ≤ z ↔ b ≤ r := by
  constructor
  · intro h1
    rcases Nat.lt_or_ge r b with c | c
    · rcases h.2.2 with e | e
      · omega
      · have h3 : (r + 1) ^ d ≤ b ^ d := Nat.pow_le_pow_left c d
        omega
    · exact c
  · intro h1
    exact h.2.1 b hb h1
theorem rt0_go (S : pS) (p1 : Int32) {d z r : Nat} (hd0 : 0 < d) (hd : d < 2 ^ 31) (hz : z < 2 ^ 63) (hs : f_X0_nearSize S p1 = lN z) (h : rtn d z r) : ∀ n i, i ≤ r → 64 - i < n → g_X0_root_44 S (nI d) p1 n (nI i) = .ok (nI r) := by
  intro n
  induction n with
  | zero => intro i h1 h2; omega
  | succ n ih =>
    intro i h1 h2
    have hr := h.1
    rw [g_X0_root_44]
    by_cases c : i = 64
    · subst c
      have e : r = 64 := by omega
      subst e
      rw [if_pos (by decide)]
    · rw [if_neg (show ¬ (64 : Int32) ≤ nI (i) from nI_ge (a := i) (b := 64) (by omega) (by decide)), nI_1, nI_l (by omega), hs, pu1 (by omega) (by omega) hd0 hd hz]
      unfold pu
      by_cases c2 : (i + 1) ^ d ≤ z
      · rw [if_pos c2, if_neg (lNneg (Nat.lt_of_le_of_lt c2 hz))]
        exact ih (i + 1) ((rtn_iff h (by omega) (by omega)).mp c2) (by omega)
      · rw [if_neg c2, if_pos rfl]
        have e : i = r := by
          rcases Nat.lt_or_ge i r with c3 | c3
          · exact absurd ((rtn_iff h (by omega) (by omega)).mpr c3) c2
          · omega
        rw [e]
theorem rt89 (rec76 : Int32 → Int32 → (Int32 × pT)) (T u : pT) (p1 best : Int32) {b d z : Nat} (hb : 0 < b) (hb2 : b ≤ 64) (hd : d < 2 ^ 31) (hz : z < 9007199254740992) (hs : f_X1_sizeOf u p1 = lN z) : ∀ n i, i ≤ d → d - i < n → (i = 0 ∨ b ^ (i - 1) ≤ z) → g_X1_root_89 rec76 T (nI d) p1 u best (nI b) n (lN (b ^ i)) (nI i) = if b ^ d ≤ z then rec76 (nI b) (nI (b + 1)) else rec76 best (nI (b + 1)) := by
  intro n
  induction n with
  | zero => intro i h1 h2; omega
  | succ n ih =>
    intro i h1 h2 h3
    have hv : b ^ i < 2 ^ 63 := by
      rcases h3 with c | c
      · subst c; rw [Nat.pow_zero]; decide
      · rcases Nat.eq_zero_or_pos i with c2 | c2
        · subst c2; rw [Nat.pow_zero]; decide
        · have e : b ^ i = b ^ (i - 1) * b := by rw [← Nat.pow_succ]; congr 1; omega
          have h4 : b ^ (i - 1) * b ≤ 9007199254740992 * 64 := Nat.mul_le_mul (by omega) hb2
          omega
    have h116 : ∀ q : Nat, q < 2 ^ 63 → (q ≤ z ↔ b ^ d ≤ z) → g_X1_root_116 rec76 p1 u best (nI b) (lN q) = if b ^ d ≤ z then rec76 (nI b) (nI (b + 1)) else rec76 best (nI (b + 1)) := by
      intro q hq hqz
      unfold g_X1_root_116
      rw [hs, nI_1]
      by_cases c : b ^ d ≤ z
      · rw [if_pos c, if_neg (fun h => by have h5 := (lNlt (by omega) hq).mp h; have h6 := hqz.mpr c; omega)]
      · rw [if_neg c, if_pos ((lNlt (by omega) hq).mpr (by
          rcases Nat.lt_or_ge z q with h7 | h7
          · exact h7
          · exact absurd (hqz.mp h7) c))]
    rw [g_X1_root_89]
    by_cases c : i = d
    · subst c
      rw [if_pos (nI_le (Nat.le_refl i) hd)]
      exact h116 _ hv Iff.rfl
    · rw [if_neg (nI_ge (by omega) hd), hs]
      by_cases c2 : z < b ^ i
      · rw [if_pos ((lNlt (by omega) hv).mpr c2)]
        have h8 : b ^ i ≤ b ^ d := Nat.pow_le_pow_right hb h1
        exact h116 _ hv ⟨fun h => by omega, fun h => by omega⟩
      · rw [if_neg (fun h => c2 ((lNlt (by omega) hv).mp h)), nI_l (by omega), lN_mul, ← Nat.pow_succ, nI_1]
        exact ih (i + 1) (by omega) (by omega) (Or.inr (by rw [Nat.add_sub_cancel]; omega))
theorem rt76 (T u : pT) (p1 : Int32) {d z r : Nat} (hd : d < 2 ^ 31) (hz : z < 9007199254740992) (hs : f_X1_sizeOf u p1 = lN z) (h : rtn d z r) : ∀ n c, 0 < c → c ≤ 65 → 65 - c < n → g_X1_root_76 T (nI d) p1 u n (nI (min (c - 1) r)) (nI c) = (nI r, u) := by
  intro n
  induction n with
  | zero => intro c h1 h2 h3; omega
  | succ n ih =>
    intro c h1 h2 h3
    have hr := h.1
    rw [g_X1_root_76]
    by_cases c1 : c = 65
    · subst c1
      rw [if_pos (by decide), show min (65 - 1) r = r by omega]
    · rw [if_neg (show ¬ (64 : Int32) < nI (c) from nI_nlt (a := 64) (b := c) (by omega) (by decide))]
      have hf : d - 0 < ((nI d).toInt - (0 : Int32).toInt).toNat + 1 := by rw [nI_toInt hd, i0]; omega
      have hX := rt89 (fun a0 a1 => g_X1_root_76 T (nI d) p1 u n a0 a1) T u p1 (nI (min (c - 1) r)) h1 (by omega) hd hz hs _ 0 (Nat.zero_le _) hf (Or.inl rfl)
      rw [Nat.pow_zero] at hX
      have hY : g_X1_root_89 (fun a0 a1 => g_X1_root_76 T (nI d) p1 u n a0 a1) T (nI d) p1 u (nI (min (c - 1) r)) (nI c) (((nI d).toInt - (0 : Int32).toInt).toNat + 1) 1 0 = _ := hX
      rw [hY]
      have hi := ih (c + 1) (by omega) (by omega) (by omega)
      rw [Nat.add_sub_cancel] at hi
      by_cases c2 : c ^ d ≤ z
      · rw [if_pos c2]
        have h5 := (rtn_iff h h1 (by omega)).mp c2
        rw [show min c r = c by omega] at hi
        exact hi
      · rw [if_neg c2]
        have h5 : ¬ c ≤ r := fun h6 => c2 ((rtn_iff h h1 (by omega)).mpr h6)
        rw [show min (c - 1) r = min c r by omega]
        exact hi
theorem ag_root {S : pS} {T : pT} (hR : rel S T) (o : Nat → Int64) (p0 : Int32) (p1 : Int32) : agI (wrI [1, 2, 3, 4] S o (f_X0_root S p0 p1)) (f_X1_root T p0 p1) := by
  unfold f_X0_root f_X1_root
  rcases slot_c p1 with ⟨h, e0, e1⟩ | ⟨e0, e1⟩
  · rw [e0, e1, no_1]
    dsimp only
    rw [if_pos (show (0 : Int32) = 0 from rfl)]
    rcases range_c p0 1 53 with ⟨h1, h2, e2, e3⟩ | ⟨e2, e3⟩
    · rw [i1] at h1
      rw [show (53 : Int32).toInt = 53 by decide] at h2
      rw [e2, e3, no_1]
      dsimp only
      rw [if_pos (show (0 : Int32) = 0 from rfl)]
      rcases near_s (rel_th (rel_th hR 0) 0) p1 with ⟨z, hz, n1, n2, n3, n4, n5⟩ | ⟨n3, n4⟩
      · rw [n3, n4, no_1]
        dsimp only
        rw [if_pos (show (0 : Int32) = 0 from rfl), show sgT (thS (thS (thS T 0) 0) 0) = sgS S from hR.1.symm]
        by_cases c : sgS S p1.toNatClampNeg < 0
        · rw [if_pos c, if_neg (ng_1 c)]
          unfold g_X1_root_55
          rw [no_0]
          exact agI_er (rel_th (rel_th hR 0) 4) o _ 4 rfl (by decide)
        · rw [if_neg c, if_pos (ng_0 c)]
          unfold g_X1_root_55
          rw [no_1]
          dsimp only
          rw [if_pos (show (0 : Int32) = 0 from rfl)]
          obtain ⟨hd, ed⟩ := nI_of' (x := p0) (by omega)
          generalize hdd : p0.toInt.toNat = d at hd ed
          subst ed
          rw [nI_toInt hd] at h1 h2
          obtain ⟨r, hr⟩ := rtn_ex d z
          have h0 := rt0_go S p1 (by omega) hd (by omega) n1 hr (((64 : Int32).toInt - (0 : Int32).toInt).toNat + 1) 0 (Nat.zero_le _) (by decide)
          have h5 := rt76 T (thS (thS (thS (thS T 0) 0) 0) 0) p1 hd hz n2 hr (((64 : Int32).toInt - (1 : Int32).toInt + 1).toNat + 1) 1 (by decide) (by decide) (by decide)
          rw [show min (1 - 1) r = 0 by omega] at h5
          have h0' : g_X0_root_44 S (nI d) p1 (((64 : Int32).toInt - (0 : Int32).toInt).toNat + 1) 0 = .ok (nI r) := h0
          have h5' : g_X1_root_76 T (nI d) p1 (thS (thS (thS (thS T 0) 0) 0) 0) (((64 : Int32).toInt - (1 : Int32).toInt + 1).toNat + 1) 0 1 = (nI r, thS (thS (thS (thS T 0) 0) 0) 0) := h5
          rw [h0', h5']
          exact agI_ok (rel_th (rel_th hR 0) 0) o _ rfl rfl
      · rw [n3, n4, no_0]
        exact agI_er (rel_th (rel_th hR 0) 3) o _ 3 rfl (by decide)
    · rw [e2, e3, no_0]
      exact agI_er (rel_th hR 2) o _ 2 rfl (by decide)
  · rw [e0, e1, no_0]
    exact agI_er (rel_th hR 1) o _ 1 rfl (by decide)

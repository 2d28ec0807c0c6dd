/-! powers as doubles: isChain, addsUp -/
/-- the sign of a power -/
def sgk (g : Int32) (k : Nat) : Bool := decide (g = -1 ∧ k % 2 = 1)
theorem sgk_add {g : Int32} (i j : Nat) : (sgk g i != sgk g j) = sgk g (i + j) := by
  unfold sgk
  have e : (i + j) % 2 = (i % 2 + j % 2) % 2 := by omega
  by_cases c : g = -1
  · have h1 : i % 2 = 0 ∨ i % 2 = 1 := by omega
    have h2 : j % 2 = 0 ∨ j % 2 = 1 := by omega
    rcases h1 with h1 | h1 <;> rcases h2 with h2 | h2 <;> rw [e, h1, h2] <;> simp [c]
  · simp [c]
theorem sgk_1 {g : Int32} : sgk g 1 = decide (g = -1) := by
  unfold sgk
  simp
theorem sgk_0 {g : Int32} : sgk g 0 = false := by
  unfold sgk
  simp
theorem pS_sgk {g : Int32} (hg : g = -1 ∨ g = 1) {k : Nat} (hk : k < 2 ^ 31) : f_X0_powerSign g (nI k) = (if sgk g k then -1 else 1) ∧ (f_X0_powerSign g (nI k) = -1 ∨ f_X0_powerSign g (nI k) = 1) ∧ decide (f_X0_powerSign g (nI k) = -1) = sgk g k := by
  have e : f_X0_powerSign g (nI k) = (if sgk g k then -1 else 1) := by
    rw [pS_v g hk]
    unfold sgk
    by_cases c : k = 0
    · subst c
      rw [if_pos rfl]
      simp
    · rw [if_neg c]
      by_cases c2 : k % 2 = 0
      · rw [if_pos c2, if_neg (by simp [c2])]
        rcases hg with rfl | rfl <;> decide
      · rw [if_neg c2]
        have c3 : k % 2 = 1 := by omega
        rcases hg with rfl | rfl
        · rw [if_pos (by simp [c3])]
        · rw [if_neg (by simp)]
  rw [e]
  cases sgk g k
  · exact ⟨rfl, Or.inr rfl, by decide⟩
  · exact ⟨rfl, Or.inl rfl, by decide⟩
theorem base_dn {p : Int32} (h1 : -64 ≤ p.toInt) (h2 : p.toInt ≤ 64) : f_X0_signOf p = 0 ∧ p = 0 ∨ (f_X0_signOf p = -1 ∨ f_X0_signOf p = 1) ∧ FP.i2d p = dn (decide (f_X0_signOf p = -1)) (f_X0_oddOf p).toInt.toNat ((f_X0_shiftOf p).toInt) := by
  obtain ⟨k, hk, rfl⟩ := base_of h1 h2
  exact bk k hk (fun p => f_X0_signOf p = 0 ∧ p = 0 ∨ (f_X0_signOf p = -1 ∨ f_X0_signOf p = 1) ∧ FP.i2d p = dn (decide (f_X0_signOf p = -1)) (f_X0_oddOf p).toInt.toNat ((f_X0_shiftOf p).toInt)) (by decide +kernel)
/-- a base that is not 0, as doubles have it -/
theorem base_nz {p : Int32} (h1 : -64 ≤ p.toInt) (h2 : p.toInt ≤ 64) (h0 : ¬ p = 0) : ∃ b s : Nat, f_X0_oddOf p = lN b ∧ f_X0_shiftOf p = nI s ∧ 0 < b ∧ b ≤ 64 ∧ s ≤ 6 ∧ (f_X0_signOf p = -1 ∨ f_X0_signOf p = 1) ∧ FP.i2d p = dn (decide (f_X0_signOf p = -1)) b (s : Int) := by
  obtain ⟨b, s, b1, b2, b3, b4, b5, b6⟩ := base_sz h1 h2
  rcases base_dn h1 h2 with ⟨-, c⟩ | ⟨hg, hi⟩
  · exact absurd c h0
  · rw [b1, b2, lNt (by omega), nI_toInt (by omega), Int.toNat_natCast] at hi
    refine ⟨b, s, b1, b2, ?_, b5, b4, hg, hi⟩
    rcases Nat.eq_zero_or_pos b with c | c
    · have := (b6 c).2
      rw [this] at hg
      rcases hg with hg | hg
      · exact absurd hg (by decide)
      · exact absurd hg (by decide)
    · exact c
theorem pw_nrm {b s k : Nat} (hb : 0 < b) (hs : s ≤ 6) (hk : k ≤ 64) (h : b ^ k ≤ 9007199254740991) : nrm (b ^ k) ((s * k : Nat) : Int) ∧ s * k ≤ 384 ∧ bl (b ^ k) ≤ 53 ∧ 1 ≤ bl (b ^ k) := by
  have hsk : s * k ≤ 6 * 64 := Nat.mul_le_mul hs hk
  have h0 : 0 < b ^ k := Nat.pow_pos hb
  have hl : bl (b ^ k) ≤ 53 := bl_le.mpr (by omega)
  have hl0 := bl_pos h0
  exact ⟨⟨h0, by omega, by omega, by omega⟩, by omega, hl, hl0⟩
/-- the bits of a power that is a double -/
theorem bod_pw {p : Int32} {b s k : Nat} (T : pT) (h1 : -64 ≤ p.toInt) (h2 : p.toInt ≤ 64) (hk : k ≤ 64) (b1 : f_X0_oddOf p = lN b) (b2 : f_X0_shiftOf p = nI s) (hb : 0 < b) (hb2 : b ≤ 64) (hs : s ≤ 6) (hg : f_X0_signOf p = -1 ∨ f_X0_signOf p = 1) (c : f_X0_isTold (f_X0_oddOf p) (f_X0_shiftOf p) (nI k) = 1) : f_X0_bitsOfDouble (dn (sgk (f_X0_signOf p) k) (b ^ k) ((s * k : Nat) : Int)) = f_X0_powerBits p (nI k) := by
  obtain ⟨o1, o2⟩ := told_odd T h1 h2 hk b1 hb2 c
  obtain ⟨n1, n2, n3, n4⟩ := pw_nrm hb hs hk o2
  have hi : (nI (s * k)).toInt = ((s * k : Nat) : Int) := nI_toInt (by omega)
  obtain ⟨g1, g2, g3⟩ := pS_sgk hg (k := k) (by omega)
  have h0 : 0 < b ^ k := Nat.pow_pos hb
  unfold f_X0_powerBits
  rw [o1, b2, pk_mul, g1, ← hi, bod_V (by rw [hi]; exact n1) (by rw [hi]; omega) (by rw [hi]; omega)]
  cases sgk (f_X0_signOf p) k
  · rw [if_neg (by decide), if_neg (by decide), Vb_eq h0 (by omega) (by rw [hi]; omega) (by rw [hi]; omega)]
  · have hV : Vb (b ^ k) (nI (s * k)) < 9223372036854775808 := by
      have hm := (nrm_m h0 (by omega)).2
      have hE : Eb (b ^ k) (nI (s * k)) ≤ 1459 := by
        unfold Eb
        rw [hi]
        omega
      unfold Vb
      omega
    rw [if_pos rfl, if_pos rfl, Vb_neg h0 (by omega) (by rw [hi]; omega) (by rw [hi]; omega) hV]
theorem ch_go {p : Int32} {b s e : Nat} (he : e ≤ 64) (hb : 0 < b) (hs : s ≤ 6) (hi : FP.i2d p = dn (decide (f_X0_signOf p = -1)) b (s : Int)) (h53 : b ^ e ≤ 9007199254740991) (hfin : f_X0_bitsOfDouble (dn (sgk (f_X0_signOf p) e) (b ^ e) ((s * e : Nat) : Int)) = f_X0_powerBits p (nI e)) : ∀ n k, k ≤ e → e - k < n → g_X0_isChain_15 p (nI e) n (dn (sgk (f_X0_signOf p) k) (b ^ k) ((s * k : Nat) : Int)) (nI k) = .ok 1 := by
  intro n
  induction n with
  | zero => intro k h1 h2; omega
  | succ n ih =>
    intro k h1 h2
    rw [g_X0_isChain_15]
    by_cases c : k = e
    · subst c
      rw [if_pos (nI_le (Nat.le_refl k) (by omega)), hfin, if_pos rfl]
    · rw [if_neg (nI_ge (by omega) (by omega)), hi, nI_1]
      have hk1 : b ^ (k + 1) ≤ 9007199254740991 := Nat.le_trans (Nat.pow_le_pow_right hb (by omega)) h53
      have hk0 : b ^ k ≤ 9007199254740991 := Nat.le_trans (Nat.pow_le_pow_right hb (by omega)) h53
      have hb1 : b ^ 1 ≤ 9007199254740991 := Nat.le_trans (Nat.pow_le_pow_right hb (by omega)) h53
      have n0 := (pw_nrm hb hs (by omega) hk0).1
      have n1 := (pw_nrm (k := 1) hb hs (by omega) hb1).1
      have n2 := (pw_nrm hb hs (by omega) hk1).1
      rw [Nat.pow_one, Nat.mul_one] at n1
      have em : b ^ k * b = b ^ (k + 1) := by rw [Nat.pow_succ]
      have es : ((s * k : Nat) : Int) + (s : Int) = ((s * (k + 1) : Nat) : Int) := by
        rw [Nat.mul_succ]
        omega
      have ed := dmul_dn (s := sgk (f_X0_signOf p) k) (t := decide (f_X0_signOf p = -1)) n0 n1 (by rw [em, es]; exact n2)
      rw [em, es, ← sgk_1, sgk_add] at ed
      rw [← sgk_1, ed]
      exact ih (k + 1) (by omega) (by omega)
theorem ch_zero (e : Nat) (he : e < 2 ^ 31) (h : f_X0_powerBits 0 (nI e) = 0) : ∀ n k, k ≤ e → e - k < n → g_X0_isChain_15 0 (nI e) n 0 (nI k) = .ok 1 := by
  have hm : FP.dmul 0 (FP.i2d 0) = 0 := by decide +kernel
  intro n
  induction n with
  | zero => intro k h1 h2; omega
  | succ n ih =>
    intro k h1 h2
    rw [g_X0_isChain_15]
    by_cases c : k = e
    · subst c
      rw [if_pos (nI_le (Nat.le_refl k) he), bod_zero, h, if_pos rfl]
    · rw [if_neg (nI_ge (by omega) he), hm, nI_1]
      exact ih (k + 1) (by omega) (by omega)
theorem pb_0 : ∀ j, j < 65 → f_X0_powerBits 0 (nI j) = if j = 0 then 4607182418800017408 else 0 := by decide +kernel
theorem ch_base0 {e : Nat} (he : e ≤ 64) : g_X0_isChain_15 0 (nI e) (((nI e).toInt - (0 : Int32).toInt).toNat + 1) FP.dconst1 0 = .ok 1 := by
  have hp := pb_0 e (by omega)
  rw [nI_toInt (by omega), i0]
  by_cases c : e = 0
  · subst c
    rw [if_pos rfl] at hp
    rw [g_X0_isChain_15, if_pos (by decide), hp, show f_X0_bitsOfDouble FP.dconst1 = 4607182418800017408 by decide +kernel, if_pos rfl]
  · rw [if_neg c] at hp
    have h1 : FP.dmul FP.dconst1 (FP.i2d 0) = 0 := by decide +kernel
    rw [g_X0_isChain_15, if_neg (nI_nle (by omega) (by omega)), h1]
    exact ch_zero e (by omega) hp (((e : Int) - 0).toNat) 1 (by omega) (by omega)
theorem told01 {p : Int32} {k : Nat} (T : pT) (h1 : -64 ≤ p.toInt) (h2 : p.toInt ≤ 64) (hk : k ≤ 64) : (f_X0_isTold (f_X0_oddOf p) (f_X0_shiftOf p) (nI k) = 0 ∨ f_X0_isTold (f_X0_oddOf p) (f_X0_shiftOf p) (nI k) = 1) ∧ ∃ u, f_X1_isTold_ T p (nI k) = (f_X0_isTold (f_X0_oddOf p) (f_X0_shiftOf p) (nI k), u) ∧ keepT T u ∧ thT u = thT T := by
  have hki : (nI k).toInt = k := nI_toInt (by omega)
  obtain ⟨hc, u, t1, t2, t3, t4⟩ := told_ag T (base_ok h1 h2) (e := nI k) (by omega) (by omega) (fun _ => by omega)
  rw [base_told h1 h2]
  exact ⟨hc, u, t1, t2, t3⟩
theorem chain_1 {p : Int32} {e : Nat} (T : pT) (h1 : -64 ≤ p.toInt) (h2 : p.toInt ≤ 64) (he : e ≤ 64) (c : f_X0_isTold (f_X0_oddOf p) (f_X0_shiftOf p) (nI e) = 1) : g_X0_isChain_15 p (nI e) (((nI e).toInt - (0 : Int32).toInt).toNat + 1) FP.dconst1 0 = .ok 1 := by
  by_cases c0 : p = 0
  · subst c0
    exact ch_base0 he
  · obtain ⟨b, s, b1, b2, hb, hb2, hs, hg, hi⟩ := base_nz h1 h2 c0
    obtain ⟨o1, o2⟩ := told_odd T h1 h2 he b1 hb2 c
    have h := ch_go he hb hs hi o2 (bod_pw T h1 h2 he b1 b2 hb hb2 hs hg c) (((nI e).toInt - (0 : Int32).toInt).toNat + 1) 0 (Nat.zero_le _) (by rw [nI_toInt (by omega), i0]; omega)
    rw [sgk_0, Nat.pow_zero, Nat.mul_zero] at h
    rw [tw_one]
    exact h
theorem ag_isChain {S : pS} {T : pT} (hR : rel S T) (o : Nat → Int64) (p0 : Int32) (p1 : Int32) : agZ (wrZ [2, 5] S o (f_X0_isChain S p0 p1)) (f_X1_isChain T p0 p1) := by
  have hE : g_X1_isChain_19 T p0 p1 = (0, thS T 1) := by
    unfold g_X1_isChain_19 g_X1_isChain_20
    rw [no_0]
    rfl
  unfold f_X0_isChain f_X1_isChain
  rw [hE]
  rcases cbe_c p0 p1 with ⟨h1, h2, h3, h4, e2, e3, e4⟩ | ⟨e2, e3⟩
  · rw [e2, e3, e4, if_neg (show ¬ (1 : Int32) = 0 by decide), if_neg (show ¬ (1 : Int32) = 0 by decide)]
    dsimp only
    obtain ⟨hk, ek⟩ := nI_of' h3
    generalize hkk : p1.toInt.toNat = e at hk ek
    have he : e ≤ 64 := by omega
    subst ek
    unfold g_X1_isChain_20
    rw [no_1]
    dsimp only
    rw [if_pos (show (0 : Int32) = 0 from rfl)]
    obtain ⟨hc, u, t1, t2, t3⟩ := told01 (thS T 0) h1 h2 he
    rw [t1]
    dsimp only
    unfold f_X0_checkTold
    rcases hc with c | c
    · rw [c, if_pos (show (0 : Int32) = 0 from rfl), no_0]
      exact agZ_er (rel_th (rel_keep (rel_th hR 0) t2) 2) o _ 5 rfl (by decide)
    · rw [c, if_neg (show ¬ (1 : Int32) = 0 by decide), no_1]
      dsimp only
      rw [if_pos (show (0 : Int32) = 0 from rfl), chain_1 T h1 h2 he c]
      exact agZ_ok (rel_th (rel_keep (rel_th hR 0) t2) 0) o _ rfl Iff.rfl
  · rw [e2]
    rcases e3 with e3 | ⟨e3, e4⟩
    · rw [e3, if_pos (show (0 : Int32) = 0 from rfl)]
      exact agZ_er (rel_th hR 1) o _ 2 rfl (by decide)
    · rw [e3, e4, if_neg (show ¬ (1 : Int32) = 0 by decide), if_pos (show (0 : Int32) = 0 from rfl)]
      exact agZ_er (rel_th hR 1) o _ 2 rfl (by decide)
theorem pad_0 : ∀ j, j < 65 → f_X0_powerAsDouble 0 (nI j) = if j = 0 then FP.dconst1 else 0 := by decide +kernel
theorem mul_00 : FP.dmul 0 0 = 0 := by decide +kernel
theorem mul_01 : FP.dmul 0 FP.dconst1 = 0 := by decide +kernel
theorem mul_10 : FP.dmul FP.dconst1 0 = 0 := by decide +kernel
theorem mul_11 : FP.dmul FP.dconst1 FP.dconst1 = FP.dconst1 := by decide +kernel
theorem bod_one : f_X0_bitsOfDouble FP.dconst1 = 4607182418800017408 := by decide +kernel
theorem pad_dn {p : Int32} {b s k : Nat} (h1 : -64 ≤ p.toInt) (h2 : p.toInt ≤ 64) (hk : k ≤ 64) (b1 : f_X0_oddOf p = lN b) (b2 : f_X0_shiftOf p = nI s) (hb : 0 < b) (hb2 : b ≤ 64) (hs : s ≤ 6) (hg : f_X0_signOf p = -1 ∨ f_X0_signOf p = 1) (h53 : b ^ k ≤ 9007199254740991) : f_X0_powerAsDouble p (nI k) = dn (sgk (f_X0_signOf p) k) (b ^ k) ((s * k : Nat) : Int) := by
  obtain ⟨n1, n2, n3, n4⟩ := pw_nrm hb hs hk h53
  have hi : (nI (s * k)).toInt = ((s * k : Nat) : Int) := nI_toInt (by omega)
  obtain ⟨g1, g2, g3⟩ := pS_sgk hg (k := k) (by omega)
  have o1 : f_X0_powerOdd (lN b) (nI k) = lN (b ^ k) := by
    have h9 : f_X0_powerOdd (lN b) (nI k) = pu b k 9007199254740991 := puL (by omega) hk
    rw [h9]
    unfold pu
    rw [if_pos h53]
  unfold f_X0_powerAsDouble
  rw [b1, b2, o1, pk_mul, asD_eq g2 (Nat.pow_pos hb) (by omega) (by rw [hi]; exact n1) (by unfold pOk; rw [hi]; omega), g3, hi]
/-- the product of two powers, and that it is a number -/
theorem adds_1 {p : Int32} {e f : Nat} (T : pT) (h1 : -64 ≤ p.toInt) (h2 : p.toInt ≤ 64) (hef : e + f ≤ 64) (c : f_X0_isTold (f_X0_oddOf p) (f_X0_shiftOf p) (nI (e + f)) = 1) : f_X0_bitsOfDouble (FP.dmul (f_X0_powerAsDouble p (nI e)) (f_X0_powerAsDouble p (nI f))) = f_X0_powerBits p (nI (e + f)) ∧ FP.Core.val64 (FP.dmul (f_X0_powerAsDouble p (nI e)) (f_X0_powerAsDouble p (nI f))) ≠ .nan := by
  by_cases c0 : p = 0
  · subst c0
    have hz : FP.Core.val64 0 ≠ .nan := zero_nn
    have ho : FP.Core.val64 FP.dconst1 ≠ .nan := (ch_0 0).1
    rw [pad_0 e (by omega), pad_0 f (by omega), pb_0 (e + f) (by omega)]
    by_cases c1 : e = 0
    · by_cases c2 : f = 0
      · rw [if_pos c1, if_pos c2, if_pos (show e + f = 0 by omega), mul_11, bod_one]
        exact ⟨rfl, ho⟩
      · rw [if_pos c1, if_neg c2, if_neg (show ¬ e + f = 0 by omega), mul_10, bod_zero]
        exact ⟨rfl, hz⟩
    · by_cases c2 : f = 0
      · rw [if_neg c1, if_pos c2, if_neg (show ¬ e + f = 0 by omega), mul_01, bod_zero]
        exact ⟨rfl, hz⟩
      · rw [if_neg c1, if_neg c2, if_neg (show ¬ e + f = 0 by omega), mul_00, bod_zero]
        exact ⟨rfl, hz⟩
  · obtain ⟨b, s, b1, b2, hb, hb2, hs, hg, hi⟩ := base_nz h1 h2 c0
    obtain ⟨o1, o2⟩ := told_odd T h1 h2 hef b1 hb2 c
    have he : b ^ e ≤ 9007199254740991 := Nat.le_trans (Nat.pow_le_pow_right hb (by omega)) o2
    have hf : b ^ f ≤ 9007199254740991 := Nat.le_trans (Nat.pow_le_pow_right hb (by omega)) o2
    have n0 := (pw_nrm (k := e) hb hs (by omega) he).1
    have n1 := (pw_nrm (k := f) hb hs (by omega) hf).1
    have n2 := (pw_nrm (k := e + f) hb hs (by omega) o2).1
    have em : b ^ e * b ^ f = b ^ (e + f) := by rw [Nat.pow_add]
    have es : ((s * e : Nat) : Int) + ((s * f : Nat) : Int) = ((s * (e + f) : Nat) : Int) := by
      rw [Nat.mul_add]
      omega
    have ed := dmul_dn (s := sgk (f_X0_signOf p) e) (t := sgk (f_X0_signOf p) f) n0 n1 (by rw [em, es]; exact n2)
    rw [em, es, sgk_add] at ed
    rw [pad_dn h1 h2 (by omega) b1 b2 hb hb2 hs hg he, pad_dn h1 h2 (by omega) b1 b2 hb hb2 hs hg hf, ed]
    refine ⟨bod_pw T h1 h2 hef b1 b2 hb hb2 hs hg c, ?_⟩
    exact nb_nn (nrm_nok n2)
theorem ag_addsUp {S : pS} {T : pT} (hR : rel S T) (o : Nat → Int64) (p0 : Int32) (p1 : Int32) (p2 : Int32) : agZ (wrZ [2, 5] S o (f_X0_addsUp S p0 p1 p2)) (f_X1_addsUp T p0 p1 p2) := by
  have hE : g_X1_addsUp_34 T p0 p1 p2 = (0, thS T 1) := by
    unfold g_X1_addsUp_34 g_X1_addsUp_35
    rw [no_0]
    rfl
  unfold f_X0_addsUp f_X1_addsUp
  rw [hE]
  rcases cbe_c p0 p1 with ⟨h1, h2, h3, h4, e2, e3, e4⟩ | ⟨e2, e3⟩
  · rw [e2, e3, e4, if_neg (show ¬ (1 : Int32) = 0 by decide), if_neg (show ¬ (1 : Int32) = 0 by decide)]
    dsimp only
    rcases range_c p2 0 64 with ⟨h5, h6, e5, e6⟩ | ⟨e5, e6⟩
    · rw [i0] at h5
      rw [p64] at h6
      rw [e5, show f_X1_isExponent p2 = 1 from e6, if_neg (show ¬ (1 : Int32) = 0 by decide)]
      dsimp only
      rcases range_c (p1 + p2) 0 64 with ⟨h7, h8, e7, e8⟩ | ⟨e7, e8⟩
      · rw [p64] at h8
        rw [e7, show f_X1_isExponent (p1 + p2) = 1 from e8, if_neg (show ¬ (1 : Int32) = 0 by decide)]
        dsimp only
        obtain ⟨hk, ek⟩ := nI_of' h3
        generalize hkk : p1.toInt.toNat = e at hk ek
        obtain ⟨hm, em⟩ := nI_of' h5
        generalize hmm : p2.toInt.toNat = f at hm em
        have he : e ≤ 64 := by omega
        have hf : f ≤ 64 := by omega
        subst ek
        subst em
        rw [nI_add, nI_toInt (by omega)] at h8
        have hef : e + f ≤ 64 := by omega
        rw [nI_add]
        unfold g_X1_addsUp_35
        rw [no_1]
        dsimp only
        rw [if_pos (show (0 : Int32) = 0 from rfl), nI_add]
        obtain ⟨hc, u, t1, t2, t3⟩ := told01 (thS T 0) h1 h2 hef
        rw [t1]
        dsimp only
        unfold f_X0_checkTold
        rcases hc with c | c
        · rw [c, if_pos (show (0 : Int32) = 0 from rfl), no_0]
          exact agZ_er (rel_th (rel_keep (rel_th hR 0) t2) 2) o _ 5 rfl (by decide)
        · rw [c, if_neg (show ¬ (1 : Int32) = 0 by decide), no_1]
          dsimp only
          rw [if_pos (show (0 : Int32) = 0 from rfl), if_pos (adds_1 T h1 h2 hef c).1]
          exact agZ_ok (rel_th (rel_keep (rel_th hR 0) t2) 0) o _ rfl Iff.rfl
      · rw [e7, show f_X1_isExponent (p1 + p2) = 0 from e8, if_pos (show (0 : Int32) = 0 from rfl)]
        exact agZ_er (rel_th hR 1) o _ 2 rfl (by decide)
    · rw [e5, show f_X1_isExponent p2 = 0 from e6, if_pos (show (0 : Int32) = 0 from rfl)]
      exact agZ_er (rel_th hR 1) o _ 2 rfl (by decide)
  · rw [e2]
    rcases e3 with e3 | ⟨e3, e4⟩
    · rw [e3, if_pos (show (0 : Int32) = 0 from rfl)]
      exact agZ_er (rel_th hR 1) o _ 2 rfl (by decide)
    · rw [e3, e4, if_neg (show ¬ (1 : Int32) = 0 by decide), if_pos (show (0 : Int32) = 0 from rfl)]
      exact agZ_er (rel_th hR 1) o _ 2 rfl (by decide)
theorem nn_addsUp (p0 p1 p2 : Int32) : ∀ (u1 u2 u3 u4 : Unit), f_X0_checkBaseAndExponent p0 p1 = .ok u1 → f_X0_checkRange p2 0 64 = .ok u2 → f_X0_checkRange (p1 + p2) 0 64 = .ok u3 → f_X0_checkTold p0 (p1 + p2) = .ok u4 → FP.Core.val64 (FP.dmul (f_X0_powerAsDouble p0 p1) (f_X0_powerAsDouble p0 p2)) ≠ .nan := by
  intro u1 u2 u3 u4 z1 z2 z3 z4
  obtain ⟨h1, h2, h3, h4⟩ := cbe_ok z1
  have h5 := range_in z2
  have h6 := range_in z3
  rw [i0, p64] at h5 h6
  obtain ⟨hk, ek⟩ := nI_of' h3
  generalize hkk : p1.toInt.toNat = e at hk ek
  obtain ⟨hm, em⟩ := nI_of' h5.1
  generalize hmm : p2.toInt.toNat = f at hm em
  have he : e ≤ 64 := by omega
  have hf : f ≤ 64 := by omega
  subst ek
  subst em
  rw [nI_add] at z4 h6
  rw [nI_toInt (by omega)] at h6
  have hef : e + f ≤ 64 := by omega
  obtain ⟨hc, -⟩ := told01 T00 h1 h2 hef
  unfold f_X0_checkTold at z4
  rcases hc with c | c
  · rw [c, if_pos (show (0 : Int32) = 0 from rfl)] at z4
    cases z4
  · exact (adds_1 T00 h1 h2 hef c).2

/-! sums and rests -/
theorem nearX_v {B t : Nat} (hB : B < 2 ^ 63) (ht : t ≤ 1000) (h0 : B = 0 → t = 0) : nearX (lN B) (nI t) = if B * 2 ^ t < 9007199254740992 then 1 else 0 := by
  have hl : bl B ≤ 63 := bl_63 hB
  have hk : bl B + t ≤ 53 ↔ B * 2 ^ t < 9007199254740992 := by
    rcases Nat.eq_zero_or_pos B with c | c
    · have := h0 c
      subst this
      subst c
      decide
    · rw [← bl_shift c]
      exact bl_le (k := 53)
  unfold nearX
  rw [if_neg (nI_pos (by omega)), len_eq hB, nI_add]
  by_cases c : B * 2 ^ t < 9007199254740992
  · rw [if_pos c, if_neg (show ¬ (53 : Int32) < nI (bl B + t) from nI_nlt (a := 53) (hk.mpr c) (by decide))]
  · have c2 : 53 < bl B + t := by
      rcases Nat.lt_or_ge 53 (bl B + t) with h | h
      · exact h
      · exact absurd (hk.mp h) c
    rw [if_neg c, if_pos (show (53 : Int32) < nI (bl B + t) from nI_lt (a := 53) c2 (by omega))]
theorem base_sz {p : Int32} (h1 : -64 ≤ p.toInt) (h2 : p.toInt ≤ 64) : ∃ b s : Nat, f_X0_oddOf p = lN b ∧ f_X0_shiftOf p = nI s ∧ f_X0_sizeOf p = lN (b * 2 ^ s) ∧ s ≤ 6 ∧ b ≤ 64 ∧ (b = 0 → s = 0 ∧ f_X0_signOf p = 0) := by
  obtain ⟨k, hk, rfl⟩ := base_of h1 h2
  exact ⟨_, _, bk k hk (fun p => f_X0_oddOf p = lN (f_X0_oddOf p).toInt.toNat ∧ f_X0_shiftOf p = nI (f_X0_shiftOf p).toInt.toNat ∧ f_X0_sizeOf p = lN ((f_X0_oddOf p).toInt.toNat * 2 ^ (f_X0_shiftOf p).toInt.toNat) ∧ (f_X0_shiftOf p).toInt.toNat ≤ 6 ∧ (f_X0_oddOf p).toInt.toNat ≤ 64 ∧ ((f_X0_oddOf p).toInt.toNat = 0 → (f_X0_shiftOf p).toInt.toNat = 0 ∧ f_X0_signOf p = 0)) (by decide +kernel)⟩
theorem pu_0 : ∀ j, j < 65 → f_X0_powerUpTo (lN 0) (nI j) 9007199254740991 = pu 0 j 9007199254740991 := by decide +kernel
theorem puL {a k : Nat} (ha : a < 2 ^ 63) (hk : k ≤ 64) : f_X0_powerUpTo (lN a) (nI k) 9007199254740991 = pu a k 9007199254740991 := by
  rcases Nat.eq_zero_or_pos a with c | c
  · subst c
    exact pu_0 k (by omega)
  · rw [lim_eq]
    exact pu_eq c ha (by omega) (by decide) (by decide)
theorem near_p {p e : Int32} (T : pT) (h1 : -64 ≤ p.toInt) (h2 : p.toInt ≤ 64) (h3 : 0 ≤ e.toInt) (h4 : e.toInt ≤ 64) :
    (f_X0_checkPowerNear p e = .ok () ∧ ∃ u, f_X1_isToldNear T p e = (1, u) ∧ keepT T u ∧ thT u = thT T ∧ f_X1_powerWhole u = f_X0_nearPower p e) ∨ (f_X0_checkPowerNear p e = .error 5 ∧ ∃ u, f_X1_isToldNear T p e = (0, u) ∧ keepT T u ∧ thT u = thT T) := by
  obtain ⟨hk0, ek⟩ := nI_of' h3
  generalize hkk : e.toInt.toNat = k at hk0 ek
  have hk : k ≤ 64 := by omega
  subst ek
  obtain ⟨b, s, b1, b2, b3, b4, b5, b6⟩ := base_sz h1 h2
  have hok := base_ok h1 h2
  have hA : (b * 2 ^ s) ^ k = b ^ k * 2 ^ (s * k) := by rw [Nat.mul_pow, ← Nat.pow_mul]
  have hsz : b * 2 ^ s ≤ 64 * 2 ^ 6 := Nat.mul_le_mul b5 (Nat.pow_le_pow_right (by decide) b4)
  have hsz2 : b * 2 ^ s < 2 ^ 63 := by omega
  have hsk : s * k ≤ 6 * 64 := Nat.mul_le_mul b4 hk
  have hpu : f_X0_powerUpTo (f_X0_sizeOf p) (nI k) 9007199254740991 = pu (b * 2 ^ s) k 9007199254740991 := by rw [b3]; exact puL hsz2 hk
  have hsh : f_X0_shiftOf p * nI k = nI (s * k) := by rw [b2, pk_mul]
  obtain ⟨hc, u, t1, t2, t3, t4⟩ := told_ag T hok (e := nI k) (by omega) h4 (fun _ => h3)
  have hX : f_X1_isToldNear T p (nI k) = (if (f_X0_isTold (f_X0_oddOf p) (f_X0_shiftOf p) (nI k)) = 0 then (0, u) else (if ((f_X1_isPowerNear u) : Int32) = 0 then (0, u) else (1, u))) := by
    simp only [f_X1_isToldNear, base_told h1 h2, t1]
  have h2p : 0 < 2 ^ (s * k) := Nat.two_pow_pos _
  have hN : ¬ (b * 2 ^ s) ^ k ≤ 9007199254740991 → f_X0_checkPowerNear p (nI k) = .error 5 := by
    intro z
    unfold f_X0_checkPowerNear
    rw [hpu]
    unfold pu
    rw [if_neg z, if_pos rfl]
  rcases hc with c | c
  · refine Or.inr ⟨hN ?_, u, by rw [hX, if_pos c], t2, t3⟩
    intro z
    rw [hA] at z
    rcases Nat.eq_zero_or_pos b with c0 | c0
    · obtain ⟨c1, c2⟩ := b6 c0
      subst c0
      subst c1
      rw [b1, b2, show lN 0 = 0 from rfl, show nI 0 = 0 from rfl, (told_zero T hk).1] at c
      exact absurd c (by decide)
    · have hbk : b ^ k ≤ 9007199254740991 := by
        have h9 : b ^ k * 1 ≤ b ^ k * 2 ^ (s * k) := Nat.mul_le_mul_left _ h2p
        omega
      rw [b1, told_val c0 (by omega) hk0, if_pos hbk, hsh] at c
      unfold in1k at c
      rw [if_neg (show ¬ nI (s * k) < -1000 by rw [fa_lt, nI_toInt (by omega), show ((-1000 : Int32)).toInt = -1000 by decide]; omega), if_neg (show ¬ (1000 : Int32) < nI (s * k) from nI_nlt (a := 1000) (by omega) (by decide))] at c
      exact absurd c (by decide)
  · obtain ⟨t5, t6, t7, t8⟩ := t4 c
    have hB : f_X0_powerOdd (f_X0_oddOf p) (nI k) = lN (b ^ k) ∧ b ^ k ≤ 9007199254740991 := by
      have h9 : f_X0_powerOdd (f_X0_oddOf p) (nI k) = pu b k 9007199254740991 := by
        rw [b1]; exact puL (by omega) hk
      rw [h9]
      have h10 := t8.2.2.1
      rw [h9] at h10
      unfold pu at h10 ⊢
      by_cases z : b ^ k ≤ 9007199254740991
      · rw [if_pos z]; exact ⟨rfl, z⟩
      · rw [if_neg z] at h10
        exact absurd h10 (by decide)
    obtain ⟨hB1, hB2⟩ := hB
    have h0 : b ^ k = 0 → s * k = 0 := by
      intro z
      rcases Nat.eq_zero_or_pos b with c0 | c0
      · rw [(b6 c0).1, Nat.zero_mul]
      · have := Nat.pow_pos (n := k) c0
        omega
    have hPN : f_X1_isPowerNear u = if (b * 2 ^ s) ^ k < 9007199254740992 then 1 else 0 := by
      show nearX (poT u) (phT u) = _
      rw [t6, t7, hB1, hsh, nearX_v (by omega) (by omega) h0, hA]
    rw [if_neg (by rw [c]; decide), hPN] at hX
    by_cases z : (b * 2 ^ s) ^ k < 9007199254740992
    · rw [if_pos z, if_neg (by decide)] at hX
      have hpv : f_X0_powerUpTo (f_X0_sizeOf p) (nI k) 9007199254740991 = lN ((b * 2 ^ s) ^ k) := by
        rw [hpu]; unfold pu; rw [if_pos (by omega)]
      refine Or.inl ⟨?_, u, hX, t2, t3, ?_⟩
      · unfold f_X0_checkPowerNear
        rw [hpv, if_neg (lNneg (by omega))]
      · unfold f_X1_powerWhole f_X0_nearPower
        have hs64 : s * k < 64 := by
          rcases Nat.eq_zero_or_pos (b ^ k) with c0 | c0
          · rw [h0 c0]; decide
          · rcases Nat.lt_or_ge (s * k) 64 with c1 | c1
            · exact c1
            · have h11 : 2 ^ 64 ≤ 2 ^ (s * k) := Nat.pow_le_pow_right (by decide) c1
              have h12 : 1 * 2 ^ (s * k) ≤ b ^ k * 2 ^ (s * k) := Nat.mul_le_mul_right _ c0
              rw [hA] at z
              omega
        rw [t5, t6, t7, hB1, hsh, hpv, wb_shl _ hs64, hA]
    · rw [if_neg z, if_pos rfl] at hX
      exact Or.inr ⟨hN (by omega), u, hX, t2, t3⟩
theorem sum_go (p0 : Int32) (T u : pT) {m : Nat} (hm : m < 2 ^ 31) : ∀ n i (v q : Int64), i ≤ m → m - i < n → v * (p0 : Int32).toInt64 + 1 = v + q → ∃ w, g_X0_sum_15 p0 (nI m) n v (nI i) = .ok w ∧ g_X1_sum_51 T p0 (nI m) u n v q (nI i) = (w, u) := by
  intro n
  induction n with
  | zero => intro i v q h1 h2; omega
  | succ n ih =>
    intro i v q h1 h2 h3
    rw [g_X0_sum_15, g_X1_sum_51]
    by_cases c : i = m
    · subst c
      rw [if_pos (nI_le (Nat.le_refl i) hm), if_pos (nI_le (Nat.le_refl i) hm)]
      exact ⟨_, rfl, rfl⟩
    · rw [if_neg (nI_ge (by omega) hm), if_neg (nI_ge (by omega) hm), nI_1, h3]
      refine ih (i + 1) _ _ (by omega) (by omega) ?_
      rw [Int64.add_mul, Int64.add_assoc, Int64.add_comm (q * (p0 : Int32).toInt64) 1, ← Int64.add_assoc, h3]
theorem ag_sum {S : pS} {T : pT} (hR : rel S T) (o : Nat → Int64) (p0 : Int32) (p1 : Int32) : agL (wrL [2, 5] S o (f_X0_sum S p0 p1)) (f_X1_sum T p0 p1) := by
  unfold f_X0_sum f_X1_sum
  rcases cbe_c p0 p1 with ⟨h1, h2, h3, h4, e2, e3, e4⟩ | ⟨e2, e3⟩
  · rw [e2, e3, e4, if_neg (show ¬ (1 : Int32) = 0 by decide), if_neg (show ¬ (1 : Int32) = 0 by decide)]
    unfold g_X1_sum_20
    rw [no_1]
    dsimp only
    rw [if_pos (show (0 : Int32) = 0 from rfl)]
    rcases near_p (thS T 0) h1 h2 h3 h4 with ⟨n1, u, n2, n3, n4, n5⟩ | ⟨n1, u, n2, n3, n4⟩
    · rw [n1, n2]
      dsimp only
      rw [no_1]
      dsimp only
      rw [if_pos (show (0 : Int32) = 0 from rfl)]
      obtain ⟨hm, em⟩ := nI_of' h3
      generalize hmm : p1.toInt.toNat = m at hm em
      subst em
      obtain ⟨w, w1, w2⟩ := sum_go p0 T (thS u 0) hm (((nI m).toInt - (0 : Int32).toInt).toNat + 1) 0 0 1 (Nat.zero_le _) (by rw [nI_toInt hm, i0]; omega) (by rw [Int64.zero_mul])
      have w1' : g_X0_sum_15 p0 (nI m) (((nI m).toInt - (0 : Int32).toInt).toNat + 1) 0 0 = .ok w := w1
      have w2' : g_X1_sum_51 T p0 (nI m) (thS u 0) (((nI m).toInt - (0 : Int32).toInt).toNat + 1) 0 1 0 = (w, thS u 0) := w2
      rw [w1', w2']
      exact agL_ok (rel_th (rel_keep (rel_th hR 0) n3) 0) o _ rfl rfl
    · rw [n1, n2]
      dsimp only
      rw [no_0]
      exact agL_er (rel_th (rel_keep (rel_th hR 0) n3) 2) o _ 5 rfl (by decide)
  · rw [e2]
    have hz : (if f_X1_isBase p0 = 0 then g_X1_sum_19 T p0 p1 else if f_X1_isExponent p1 = 0 then g_X1_sum_19 T p0 p1 else g_X1_sum_20 T p0 p1 1) = (0, thS T 1) := by
      have h9 : g_X1_sum_19 T p0 p1 = (0, thS T 1) := by
        unfold g_X1_sum_19 g_X1_sum_20
        rw [no_0]
        rfl
      rcases e3 with e3 | ⟨e3, e4⟩
      · rw [e3, if_pos rfl, h9]
      · rw [e3, e4, if_neg (by decide), if_pos rfl, h9]
    rw [hz]
    exact agL_er (rel_th hR 1) o _ 2 rfl (by decide)
/-- floorMod: the rest with the divisor's sign -/
theorem rem_sgn {x y : Int64} (hy : 0 < y.toInt) : (0 ≤ x.toInt → 0 ≤ (x - x / y * y).toInt) ∧ (x.toInt < 0 → (x - x / y * y).toInt ≤ 0) := by
  have hne : y ≠ -1 := by
    intro h
    rw [h] at hy
    exact absurd hy (by decide)
  have hr := fb_rngL x
  have hq : (x / y).toInt = x.toInt.tdiv y.toInt := Int64.toInt_div_of_ne_right x y hne
  constructor
  · intro h
    have e : x.toInt.tdiv y.toInt = x.toInt / y.toInt := Int.tdiv_eq_ediv_of_nonneg h
    have h1 : x.toInt / y.toInt * y.toInt ≤ x.toInt := Int.ediv_mul_le _ (by omega)
    have h2 : 0 ≤ x.toInt / y.toInt * y.toInt := Int.mul_nonneg (Int.ediv_nonneg h (by omega)) (by omega)
    have h3 : (x / y * y).toInt = x.toInt / y.toInt * y.toInt := by
      rw [fb_mulL (by rw [hq, e]; omega) (by rw [hq, e]; omega), hq, e]
    rw [fb_subL (by rw [h3]; omega) (by rw [h3]; omega), h3]
    omega
  · intro h
    have e : x.toInt.tdiv y.toInt = -(-x.toInt / y.toInt) := by
      rw [← Int.tdiv_eq_ediv_of_nonneg (show 0 ≤ -x.toInt by omega), Int.neg_tdiv, Int.neg_neg]
    have h1 : -x.toInt / y.toInt * y.toInt ≤ -x.toInt := Int.ediv_mul_le _ (by omega)
    have h2 : 0 ≤ -x.toInt / y.toInt * y.toInt := Int.mul_nonneg (Int.ediv_nonneg (by omega) (by omega)) (by omega)
    have e2 : (x / y).toInt * y.toInt = -(-x.toInt / y.toInt * y.toInt) := by
      rw [hq, e, Int.neg_mul]
    have h3 : (x / y * y).toInt = -(-x.toInt / y.toInt * y.toInt) := by
      rw [fb_mulL (by rw [e2]; omega) (by rw [e2]; omega), e2]
    rw [fb_subL (by rw [h3]; omega) (by rw [h3]; omega), h3]
    omega
theorem xor_sgn {x y : Int64} (hy : 0 < y.toInt) : (0 ≤ x ^^^ y) ↔ 0 ≤ x.toInt := by
  have hm : ∀ z : Int64, 0 ≤ z ↔ z.toBitVec.msb = false := by
    intro z
    rw [fa_le64, L0, BitVec.msb_eq_toInt, decide_eq_false_iff_not]
    show 0 ≤ z.toInt ↔ ¬ z.toInt < 0
    omega
  have hy2 : y.toBitVec.msb = false := (hm y).mp (by rw [fa_le64, L0]; omega)
  rw [hm, Int64.toBitVec_xor, BitVec.msb_xor, hy2, Bool.xor_false, ← hm, fa_le64, L0]
theorem rest_eq {x y : Int64} (hy : 0 < y.toInt) (p2 : Int32) (u : pT) (h : ((p2 : Int32).toInt64) = y) : g_X1_rest_61n p2 u (x - x / y * y) = ((f_J9_floorMod_f86c9 x y).toInt32, u) := by
  unfold g_X1_rest_61n f_J9_floorMod_f86c9
  obtain ⟨r1, r2⟩ := @rem_sgn x y hy
  rw [h]
  generalize hg : x - x / y * y = r at r1 r2 ⊢
  by_cases c : 0 ≤ x.toInt
  · rw [if_pos ((xor_sgn hy).mpr c), if_pos (show (0 : Int64) ≤ r by rw [fa_le64, L0]; exact r1 c)]
  · rw [if_neg (fun z => c ((xor_sgn hy).mp z))]
    have r3 := r2 (by omega)
    by_cases c2 : r = 0
    · rw [if_pos c2, if_pos (show (0 : Int64) ≤ r by rw [c2]; decide)]
    · have c3 : ¬ (0 : Int64) ≤ r := by
        rw [fa_le64, L0]
        intro z
        exact c2 (by rw [fa_eq64, L0]; omega)
      rw [if_neg c2, if_neg c3]
theorem ag_rest {S : pS} {T : pT} (hR : rel S T) (o : Nat → Int64) (p0 : Int32) (p1 : Int32) (p2 : Int32) : agI (wrI [2, 5] S o (f_X0_rest S p0 p1 p2)) (f_X1_rest T p0 p1 p2) := by
  unfold f_X0_rest f_X1_rest
  rcases cbe_c p0 p1 with ⟨h1, h2, h3, h4, e2, e3, e4⟩ | ⟨e2, e3⟩
  · rw [e2, e3, e4, if_neg (show ¬ (1 : Int32) = 0 by decide), if_neg (show ¬ (1 : Int32) = 0 by decide)]
    dsimp only
    rcases range_c p2 1 1000 with ⟨h5, h6, e5, e6⟩ | ⟨e5, e6⟩
    · rw [i1] at h5
      rw [e5, e6, if_neg (show ¬ (1 : Int32) = 0 by decide), no_1]
      dsimp only
      rw [if_pos (show (0 : Int32) = 0 from rfl)]
      rcases near_p (thS T 0) h1 h2 h3 h4 with ⟨n1, u, n2, n3, n4, n5⟩ | ⟨n1, u, n2, n3, n4⟩
      · rw [n1, n2]
        dsimp only
        rw [no_1]
        dsimp only
        rw [if_pos (show (0 : Int32) = 0 from rfl), show f_X1_powerWhole (thS u 0) = f_X0_nearPower p0 p1 from n5, rest_eq (by rw [Int32.toInt_toInt64]; omega) p2 (thS u 0) rfl]
        exact agI_ok (rel_th (rel_keep (rel_th hR 0) n3) 0) o _ rfl rfl
      · rw [n1, n2]
        dsimp only
        rw [no_0]
        exact agI_er (rel_th (rel_keep (rel_th hR 0) n3) 2) o _ 5 rfl (by decide)
    · rw [e5, e6, if_pos (show (0 : Int32) = 0 from rfl), no_0]
      exact agI_er (rel_th hR 1) o _ 2 rfl (by decide)
  · rw [e2]
    rcases e3 with e3 | ⟨e3, e4⟩
    · rw [e3, if_pos (show (0 : Int32) = 0 from rfl), no_0]
      exact agI_er (rel_th hR 1) o _ 2 rfl (by decide)
    · rw [e3, e4, if_neg (show ¬ (1 : Int32) = 0 by decide), if_pos (show (0 : Int32) = 0 from rfl), no_0]
      exact agI_er (rel_th hR 1) o _ 2 rfl (by decide)
theorem ag_isFermat {S : pS} {T : pT} (hR : rel S T) (o : Nat → Int64) (p0 : Int32) (p1 : Int32) : agZ (wrZ [2, 5] S o (f_X0_isFermat S p0 p1)) (f_X1_isFermat T p0 p1) := by
  unfold f_X0_isFermat f_X1_isFermat
  rcases cbe_c p0 p1 with ⟨h1, h2, h3, h4, e2, e3, e4⟩ | ⟨e2, e3⟩
  · rw [e2, e3, if_neg (show ¬ (1 : Int32) = 0 by decide)]
    dsimp only
    rcases range_c p1 1 64 with ⟨h5, h6, e5, e6⟩ | ⟨e5, e6⟩
    · rw [e5, e6, if_neg (show ¬ (1 : Int32) = 0 by decide), no_1]
      dsimp only
      rw [if_pos (show (0 : Int32) = 0 from rfl)]
      rcases near_p (thS T 0) h1 h2 h3 h4 with ⟨n1, u, n2, n3, n4, n5⟩ | ⟨n1, u, n2, n3, n4⟩
      · rw [n1, n2]
        dsimp only
        rw [no_1]
        dsimp only
        rw [if_pos (show (0 : Int32) = 0 from rfl), show f_X1_powerWhole (thS u 0) = f_X0_nearPower p0 p1 from n5]
        split
        · exact agZ_ok (rel_th (rel_keep (rel_th hR 0) n3) 0) o _ rfl Iff.rfl
        · exact agZ_ok (rel_th (rel_keep (rel_th hR 0) n3) 0) o _ rfl Iff.rfl
      · rw [n1, n2]
        dsimp only
        rw [no_0]
        exact agZ_er (rel_th (rel_keep (rel_th hR 0) n3) 2) o _ 5 rfl (by decide)
    · rw [e5, e6, if_pos (show (0 : Int32) = 0 from rfl), no_0]
      exact agZ_er (rel_th hR 1) o _ 2 rfl (by decide)
  · rw [e2]
    rcases e3 with e3 | ⟨e3, e4⟩
    · rw [e3, if_pos (show (0 : Int32) = 0 from rfl), no_0]
      exact agZ_er (rel_th hR 1) o _ 2 rfl (by decide)
    · have e6 : f_X1_isFrom p1 1 64 = 0 := by
        rcases range_c p1 1 64 with ⟨h5, h6, e5, e6⟩ | ⟨e5, e6⟩
        · exfalso
          unfold f_X1_isExponent at e4
          rcases range_c p1 0 64 with ⟨h7, h8, e7, e8⟩ | ⟨e7, e8⟩
          · rw [e8] at e4
            exact absurd e4 (by decide)
          · unfold f_X0_checkRange g_X0_checkRange_10 at e7
            rw [i1] at h5
            rw [if_neg (show ¬ p1 < 0 by rw [fa_lt, i0]; omega), if_pos (show p1 ≤ 64 by rw [fa_le]; exact h6)] at e7
            exact absurd e7 (by intro z; cases z)
        · exact e6
      rw [e3, e6, if_neg (show ¬ (1 : Int32) = 0 by decide), if_pos (show (0 : Int32) = 0 from rfl), no_0]
      exact agZ_er (rel_th hR 1) o _ 2 rfl (by decide)

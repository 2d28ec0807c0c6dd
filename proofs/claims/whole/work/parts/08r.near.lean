/-! the double nearest to a root: rootBits, isRoot -/
/-- how many digits a root has ahead of the point -/
def rlen (w L : Nat) : Prop := w < 4 ^ L ∧ (∀ j, j < L → 4 ^ j ≤ w)
theorem rlen_ex {w : Nat} (hw : w < 4096) : ∃ L, L ≤ 6 ∧ rlen w L := by
  obtain ⟨k, h1, h2⟩ := pk_least (fun k => w < 4 ^ k) ⟨6, hw⟩
  refine ⟨k, ?_, h1, ?_⟩
  · rcases Nat.lt_or_ge 6 k with c | c
    · exact absurd hw (h2 6 c)
    · exact c
  · intro j hj
    have h3 : ¬ w < 4 ^ j := h2 j hj
    omega
theorem rl_go {w L : Nat} (hw : w < 4096) (hL : L ≤ 6) (h : rlen w L) : ∀ n l, l ≤ L → 6 - l < n → g_X0_rootLength_2 (nI w) n (nI l) = nI L := by
  intro n
  induction n with
  | zero => intro l h1 h2; omega
  | succ n ih =>
    intro l h1 h2
    rw [g_X0_rootLength_2]
    by_cases c : l = 6
    · subst c
      have e : L = 6 := by omega
      subst e
      rw [if_pos (by decide)]
    · rw [if_neg (show ¬ (6 : Int32) ≤ nI (l) from nI_ge (a := l) (b := 6) (by omega) (by decide)), show (2 : Int32) = nI 2 from rfl, pk_mul, pk_shrN (by omega) _ (2 * l) (sh31 (2 * l) (by omega)), p24, nI_1]
      have hq : w / 4 ^ l ≤ w := Nat.div_le_self _ _
      have h4 : 0 < 4 ^ l := Nat.pow_pos (by decide)
      by_cases c2 : l = L
      · subst c2
        rw [Nat.div_eq_of_lt h.1, if_pos (by decide)]
      · have h5 : 4 ^ l ≤ w := h.2 l (by omega)
        have h6 : 0 < w / 4 ^ l := Nat.div_pos h5 h4
        rw [if_neg (nI_nle h6 (by omega))]
        exact ih (l + 1) (by omega) (by omega)
theorem rl_eq {w L : Nat} (hw : w < 4096) (hL : L ≤ 6) (h : rlen w L) : f_X0_rootLength (nI w) = nI L := rl_go hw hL h (((6 : Int32).toInt - (0 : Int32).toInt).toNat + 1) 0 (Nat.zero_le _) (by decide)
theorem sq_le {r a : Nat} (h : a * a ≤ r * r) : a ≤ r := by
  rcases Nat.lt_or_ge r a with c | c
  · have := Nat.mul_lt_mul'' c c
    omega
  · exact c
/-- the root's length -/
theorem bl_root {w L r t : Nat} (hw0 : 0 < w) (h : rlen w L) (h1 : r * r + t = w) (h2 : t ≤ 2 * r) : bl r = L ∧ 0 < L := by
  have hL : 0 < L := by
    rcases Nat.eq_zero_or_pos L with c | c
    · have := h.1
      rw [c, Nat.pow_zero] at this
      omega
    · exact c
  have e1 : 2 ^ (L - 1) * 2 ^ (L - 1) = 4 ^ (L - 1) := (@Nat.mul_pow 2 2 (L - 1)).symm
  have e2 : 2 ^ L * 2 ^ L = 4 ^ L := (@Nat.mul_pow 2 2 L).symm
  have c1 : r < 2 ^ L := sq_lt (by have := h.1; omega)
  have c2 : 2 ^ (L - 1) < r + 1 := sq_lt (by
    have := h.2 (L - 1) (by omega)
    have e : (r + 1) * (r + 1) = r * r + 2 * r + 1 := by
      rw [Nat.add_mul, Nat.mul_add]
      omega
    omega)
  have c3 : bl r ≤ L := bl_le.mpr c1
  have c4 : L - 1 < bl r := bl_gt.mpr (by omega)
  exact ⟨by omega, hL⟩
/-- the reference's further digits -/
theorem nr_go {w : Nat} : ∀ m k n r s, bl r + m = 53 → m < n → 0 < r → r * r + s = w * 4 ^ k → s ≤ 2 * r → ∃ r' s', g_X1_nearestRoot_22 n (lN r) (lN s) (nI k) = g_X1_nearestRoot_85 (nI (k + m)) (if s' ≤ r' then lN r' else lN (r' + 1)) ∧ bl r' = 53 ∧ r' * r' + s' = w * 4 ^ (k + m) ∧ s' ≤ 2 * r' := by
  intro m
  induction m with
  | zero =>
    intro k n r s hb hn hr h1 h2
    cases n with
    | zero => omega
    | succ n =>
      have hr53 : r < 2 ^ 53 := bl_le.mp (by omega)
      refine ⟨r, s, ?_, hb, h1, h2⟩
      rw [g_X1_nearestRoot_22, len_eq (by omega), if_pos (show (53 : Int32) ≤ nI (bl r) from nI_le (a := 53) (b := bl r) (by omega) (by omega)), lN_1]
      by_cases c : s ≤ r
      · rw [if_pos ((lNle (by omega) (by omega)).mpr c), if_pos c]; rfl
      · rw [if_neg (fun z => c ((lNle (by omega) (by omega)).mp z)), if_neg c]; rfl
  | succ m ih =>
    intro k n r s hb hn hr h1 h2
    cases n with
    | zero => omega
    | succ n =>
      have hr53 : r < 2 ^ 53 := bl_le.mp (by omega)
      obtain ⟨d1, d2⟩ := rt_dig (b := 0) h1 h2 (by decide)
      simp only [Nat.add_zero] at d1 d2
      have hX : 4 * (w * 4 ^ k) = w * 4 ^ (k + 1) := by
        have e : w * 4 ^ (k + 1) = w * 4 ^ k * 4 := by rw [Nat.pow_succ, Nat.mul_assoc]
        omega
      rw [g_X1_nearestRoot_22, len_eq (by omega), if_neg (show ¬ (53 : Int32) ≤ nI (bl r) from nI_ge (a := bl r) (b := 53) (by omega) (by decide))]
      have e4 : lN s * 4 = lN (s * 4) := by rw [show (4 : Int64) = lN 4 from rfl, lN_mul]
      have e5 : (2 * (lN r * 2)) + 1 = lN (r * 4 + 1) := by
        rw [lN2, lN_mul, lN_mul, lN_1]
        congr 1
        omega
      have e6 : lN r * 2 = lN (r * 2) := by rw [lN2, lN_mul]
      rw [e5, e4, e6, nI_1]
      have ek : k + (m + 1) = k + 1 + m := by omega
      rw [ek]
      by_cases c : s * 4 < r * 4 + 1
      · obtain ⟨d3, d4⟩ := d1 c
        rw [if_pos ((lNlt (by omega) (by omega)).mpr c)]
        exact ih (k + 1) n (r * 2) (s * 4) (by rw [bl_dbl hr]; omega) (by omega) (by omega) (by rw [← hX]; exact d3) d4
      · obtain ⟨d3, d4⟩ := d2 c
        rw [if_neg (fun z => c ((lNlt (by omega) (by omega)).mp z)), lN_1, lN_sub (by omega)]
        exact ih (k + 1) n (r * 2 + 1) (s * 4 - (r * 4 + 1)) (by rw [bl_dbl1 hr]; omega) (by omega) (by omega) (by rw [← hX]; exact d3) d4
/-- the nearest 53 digits of a root -/
def nrt (w L M : Nat) : Prop := ∃ r s, r * r + s = w * 4 ^ (53 - L) ∧ s ≤ 2 * r ∧ bl r = 53 ∧ M = (if s ≤ r then r else r + 1)
theorem p4_53 {L : Nat} (hL : L ≤ 6) : 4 ^ L * 4 ^ (53 - L) = 81129638414606681695789005144064 ∧ 19807040628566084398385987584 ≤ 4 ^ (53 - L) := by
  constructor
  · have h := @Nat.pow_add 4 L (53 - L)
    rw [show L + (53 - L) = 53 by omega] at h
    exact h.symm
  · have h9 : 4 ^ 47 ≤ 4 ^ (53 - L) := Nat.pow_le_pow_right (by decide) (by omega)
    have h8 : 4 ^ 47 = 19807040628566084398385987584 := by decide
    omega
theorem nrt_lt {w L M : Nat} (hL : L ≤ 6) (h : rlen w L) (hM : nrt w L M) : 4503599627370496 ≤ M ∧ M < 9007199254740992 := by
  obtain ⟨r, s, h1, h2, h3, h4⟩ := hM
  have hr0 : 0 < r := by
    rcases Nat.eq_zero_or_pos r with c | c
    · rw [c, bl_0] at h3; omega
    · exact c
  obtain ⟨b1, b2⟩ := bl_bounds hr0
  rw [h3] at b1 b2
  have b3 : 4503599627370496 ≤ r := b1
  have b4 : r < 9007199254740992 := b2
  obtain ⟨p1, p2⟩ := p4_53 hL
  have hw : (w + 1) * 4 ^ (53 - L) ≤ 4 ^ L * 4 ^ (53 - L) := Nat.mul_le_mul_right _ (by have := h.1; omega)
  rw [Nat.add_mul, Nat.one_mul, p1, ← h1] at hw
  rw [h4]
  split
  · exact ⟨by omega, by omega⟩
  · refine ⟨by omega, ?_⟩
    rcases Nat.lt_or_ge (r + 1) 9007199254740992 with c | c
    · exact c
    · exfalso
      have e : r = 9007199254740991 := by omega
      subst e
      omega
theorem nr_X0 {w L : Nat} (hw : w < 4096) (hL : L ≤ 6) (h : rlen w L) : ∃ M, nrt w L M ∧ f_X0_nearestRoot (nI w) = lN M ∨ w = 0 := by
  rcases Nat.eq_zero_or_pos w with c0 | hw0
  · exact ⟨0, Or.inr c0⟩
  have p1 := (p4_53 hL).1
  have e54 : 4 ^ (54 - L) = 4 ^ (53 - L) * 4 := by rw [← Nat.pow_succ]; congr 1; omega
  have hX : w * 4 ^ (54 - L) < 1329227995784915872903807060280344576 := by
    have h9 : w * 4 ^ (53 - L) ≤ 4 ^ L * 4 ^ (53 - L) := Nat.mul_le_mul_right _ (by have := h.1; omega)
    rw [e54, ← Nat.mul_assoc]
    omega
  have hX3 : w * 4 ^ (53 - L) < 1329227995784915872903807060280344576 := by
    rw [e54, ← Nat.mul_assoc] at hX
    omega
  obtain ⟨q, t, q1, q2, q3⟩ := fr_eq hw (by omega) hX
  obtain ⟨r, s, -, r2, r3⟩ := fr_eq hw (by omega) hX3
  -- the length of r
  have hbl : bl r = 53 := by
    obtain ⟨r0, s0, -, r5, r6⟩ := fr_eq hw (pl := 0) (by omega) (by rw [Nat.pow_zero]; omega)
    rw [Nat.pow_zero, Nat.mul_one] at r5
    have hL0 := (bl_root hw0 h r5 r6).2
    have e1 : 2 ^ 52 * 2 ^ 52 ≤ w * 4 ^ (53 - L) := by
      have h8 : 4 ^ (L - 1) * 4 ^ (53 - L) = 2 ^ 52 * 2 ^ 52 := by
        have h9 := @Nat.pow_add 4 (L - 1) (53 - L)
        rw [show L - 1 + (53 - L) = 52 by omega] at h9
        exact h9.symm
      rw [← h8]
      exact Nat.mul_le_mul_right _ (h.2 (L - 1) (by omega))
    have e2 : w * 4 ^ (53 - L) < 2 ^ 53 * 2 ^ 53 := by
      have h8 : 4 ^ L * 4 ^ (53 - L) = 2 ^ 53 * 2 ^ 53 := p1.trans (by decide)
      rw [← h8]
      exact Nat.mul_lt_mul_of_pos_right h.1 (Nat.pow_pos (by decide))
    have c1 : r < 2 ^ 53 := sq_lt (by omega)
    have c2 : 2 ^ 52 < r + 1 := sq_lt (by
      have e : (r + 1) * (r + 1) = r * r + 2 * r + 1 := by
        rw [Nat.add_mul, Nat.mul_add]
        omega
      omega)
    have c3 : bl r ≤ 53 := bl_le.mpr c1
    have c4 : 52 < bl r := bl_gt.mpr (by omega)
    omega
  refine ⟨if s ≤ r then r else r + 1, Or.inl ⟨⟨r, s, r2, r3, hbl, rfl⟩, ?_⟩⟩
  obtain ⟨d1, d2⟩ := rt_dig (b := 0) r2 r3 (by decide)
  have hq4 : 4 * (w * 4 ^ (53 - L)) + 0 = w * 4 ^ (54 - L) := by
    have e : w * 4 ^ (54 - L) = w * 4 ^ (53 - L) * 4 := by rw [e54, Nat.mul_assoc]
    omega
  rw [hq4] at d1 d2
  have hr53 : r < 2 ^ 53 := bl_le.mp (by omega)
  unfold f_X0_nearestRoot
  rw [rl_eq hw hL h, show (54 : Int32) = nI 54 from rfl, pk_sub (by omega), q1, lN_1, show (1 : Int32) = nI 1 from rfl]
  by_cases c : s ≤ r
  · obtain ⟨d3, d4⟩ := d1 (by omega)
    have e := isq_v q2 q3 d3 d4
    rw [if_pos c, wb_sar (by omega) (by decide), e]
    congr 1
    omega
  · obtain ⟨d3, d4⟩ := d2 (by omega)
    have e := isq_v q2 q3 d3 d4
    rw [if_neg c, wb_sar (by omega) (by decide), e]
    congr 1
    omega
theorem nr_X1 {w L M : Nat} (hw : w < 4096) (hw0 : 0 < w) (hL : L ≤ 6) (h : rlen w L) (hM : nrt w L M) : f_X1_nearestRoot (nI w) = f_X1_bitsOf (lN M) (-(nI (53 - L))) := by
  obtain ⟨r, s, h1, h2, h3, h4⟩ := hM
  obtain ⟨q, b1, b2, b3⟩ := root_spec (n := w) (by omega)
  have hq : q * q + (w - q * q) = w := by omega
  have hq2 : w - q * q ≤ 2 * q := by
    have e : (q + 1) * (q + 1) = q * q + 2 * q + 1 := by
      rw [Nat.add_mul, Nat.mul_add]
      omega
    omega
  obtain ⟨hb, hL0⟩ := bl_root hw0 h hq hq2
  have hq0 : 0 < q := by
    rcases Nat.eq_zero_or_pos q with c | c
    · rw [c, bl_0] at hb; omega
    · exact c
  unfold f_X1_nearestRoot
  rw [if_neg (nI_ne0 hw0 (by omega)), nI_l (by omega), b1]
  unfold g_X1_nearestRoot_18n
  rw [nI_l (by omega), b1, lN_mul, lN_sub b2]
  have hq63 : q < 2 ^ 62 := by
    have : q < 64 := sq_lt (by omega)
    omega
  obtain ⟨r', s', e1, e2, e3, e4⟩ := nr_go (w := w) (53 - L) 0 (((53 : Int32).toInt - (f_X1_lengthOf (lN q)).toInt).toNat + 1) q (w - q * q) (by omega) (by
    rw [len_eq (by omega), nI_toInt (by omega), show (53 : Int32).toInt = 53 by decide]
    omega) hq0 (by rw [Nat.pow_zero, Nat.mul_one]; exact hq) hq2
  rw [Nat.zero_add] at e1 e3
  have hr : r = r' := isq_v h1 h2 e3 e4
  subst hr
  have hs : s = s' := by omega
  subst hs
  have e1' : g_X1_nearestRoot_22 (((53 : Int32).toInt - (f_X1_lengthOf (lN q)).toInt).toNat + 1) (lN q) (lN (w - q * q)) 0 = _ := e1
  rw [e1']
  unfold g_X1_nearestRoot_85
  rw [h4]
  by_cases c : s ≤ r
  · rw [if_pos c, if_pos c]
  · rw [if_neg c, if_neg c]
theorem nk_toInt {L : Nat} (hL : L ≤ 6) : (-(nI (53 - L)) : Int32).toInt = (L : Int) - 53 := by
  have h1 : (nI (53 - L)).toInt = ((53 - L : Nat) : Int) := nI_toInt (by omega)
  rw [fb_negI (by rw [h1]; omega), h1]
  omega
theorem re_toInt {w L : Nat} (hw : w < 4096) (hL : L ≤ 6) (h : rlen w L) : (f_X0_rootExponent (nI w)).toInt = (L : Int) - 53 := by
  unfold f_X0_rootExponent
  have h1 : (nI L).toInt = (L : Int) := nI_toInt (by omega)
  have h2 : (53 : Int32).toInt = 53 := by decide
  rw [rl_eq hw hL h, fb_subI (by rw [h1, h2]; omega) (by rw [h1, h2]; omega), h1, h2]
theorem bl_53 {M : Nat} (h1 : 4503599627370496 ≤ M) (h2 : M < 9007199254740992) : bl M = 53 := by
  have c3 : bl M ≤ 53 := bl_le.mpr (by omega)
  have c4 : 52 < bl M := bl_gt.mpr (by omega)
  omega
theorem b1_53 {M : Nat} {e : Int32} {E : Nat} (h1 : 4503599627370496 ≤ M) (h2 : M < 9007199254740992) (h3 : -1022 ≤ e.toInt) (h4 : e.toInt ≤ 2000) (hE : e.toInt + 1075 = E) : f_X1_bitsOf (lN M) e = lN (M - 4503599627370496 + E * 4503599627370496) := by
  rw [b1_v (by omega) h2 h3 h4]
  have hb := bl_53 h1 h2
  unfold Vb Eb
  rw [hb, Nat.sub_self, Nat.pow_zero, Nat.mul_one]
  have e : (e.toInt - (0 : Nat) + 1075).toNat = E := by omega
  rw [e]
theorem root_ag {w L M : Nat} (hw : w < 4096) (hw0 : 0 < w) (hL : L ≤ 6) (h : rlen w L) (hM : nrt w L M) (hX : f_X0_nearestRoot (nI w) = lN M) : f_X1_nearestRoot (nI w) = lN (M - 4503599627370496 + (L + 1022) * 4503599627370496) ∧ f_X0_nearestRootBits (nI w) = lN (M - 4503599627370496 + (L + 1022) * 4503599627370496) := by
  obtain ⟨m1, m2⟩ := nrt_lt hL h hM
  have hk := nk_toInt hL
  have hr := re_toInt hw hL h
  constructor
  · rw [nr_X1 hw hw0 hL h hM]
    exact b1_53 m1 m2 (by omega) (by omega) (by omega)
  · unfold f_X0_nearestRootBits
    rw [if_neg (nI_ne0 hw0 (by omega)), hX]
    exact pack_0 m1 (by omega)
theorem ag_rootBits {S : pS} {T : pT} (hR : rel S T) (o : Nat → Int64) (p0 : Int32) : agL (wrL [2] S o (f_X0_rootBits S p0)) (f_X1_rootBits T p0) := by
  unfold f_X0_rootBits f_X1_rootBits
  rcases r4k p0 with ⟨w, hw, rfl, e0, e1⟩ | ⟨e0, e1⟩
  · rw [e0, e1, no_1]
    dsimp only
    rw [if_pos (show (0 : Int32) = 0 from rfl)]
    refine agL_ok (rel_th hR 0) o _ rfl ?_
    rcases Nat.eq_zero_or_pos w with c | c
    · subst c
      unfold f_X0_nearestRootBits f_X1_nearestRoot
      rw [if_pos (show nI 0 = 0 from rfl), if_pos (show nI 0 = 0 from rfl)]
    · obtain ⟨L, hL, h⟩ := rlen_ex hw
      obtain ⟨M, ⟨hM, hX⟩ | c2⟩ := nr_X0 hw hL h
      · obtain ⟨a1, a2⟩ := root_ag hw c hL h hM hX
        rw [a1, a2]
      · omega
  · rw [e0, e1, no_0]
    exact agL_er (rel_th hR 1) o _ 2 rfl (by decide)
/-! squares of 53 digits -/
theorem sqLow {M : Nat} : f_X0_squareLow (lN M) = lN (M * M % 18014398509481984) := by
  unfold f_X0_squareLow
  rw [lN_mul, wb_mod (M * M), show (18014398509481983 : Int64) = lN (18014398509481984 - 1) from rfl, g_mask (s := 54) (p := 18014398509481984) (by decide) (by decide) (Nat.mod_lt _ (by decide)), Nat.mod_mod_of_dvd _ (by decide)]
theorem sq_parts (M : Nat) : M * M = (M / 134217728 * (M / 134217728) + M / 134217728 * (M % 134217728) / 67108864) * 18014398509481984 + (M % 134217728 * (M % 134217728) + M / 134217728 * (M % 134217728) % 67108864 * 268435456) := by
  have e : M = M / 134217728 * 134217728 + M % 134217728 := by omega
  generalize M / 134217728 = U at e ⊢
  generalize M % 134217728 = l at e ⊢
  subst e
  rw [Nat.add_mul, Nat.mul_add, Nat.mul_add]
  have e1 : U * 134217728 * (U * 134217728) = U * U * 18014398509481984 := by
    rw [Nat.mul_mul_mul_comm]
  have e2 : U * 134217728 * l = U * l * 134217728 := by rw [Nat.mul_right_comm]
  have e3 : l * (U * 134217728) = U * l * 134217728 := by rw [← Nat.mul_assoc, Nat.mul_comm l U]
  rw [e1, e2, e3]
  generalize U * U = a
  generalize U * l = c
  generalize l * l = d
  omega
theorem sqHigh {M : Nat} (hM : M < 9007199254740992) : f_X0_squareHigh (lN M) = lN (M * M / 18014398509481984) := by
  have hp := sq_parts M
  have hU : M / 134217728 < 67108864 := by omega
  have hl : M % 134217728 < 134217728 := by omega
  have h27 : lN M >>> ((27 : Int32).toInt64 &&& 63) = lN (M / 134217728) := wb_sar (k := 27) (by omega) (by decide)
  have hm27 : lN M &&& 134217727 = lN (M % 134217728) := by
    rw [show (134217727 : Int64) = lN (134217728 - 1) from rfl, g_mask (s := 27) (by decide) (by decide) (by omega)]
  have hc : M / 134217728 * (M % 134217728) < 9007199254740992 := by
    have := Nat.mul_lt_mul'' hU hl
    omega
  have hd : M % 134217728 * (M % 134217728) < 18014398509481984 := by
    have := Nat.mul_lt_mul'' hl hl
    omega
  have hx : M / 134217728 * (M % 134217728) % 67108864 < 67108864 := by omega
  unfold f_X0_squareHigh g_X0_squareHigh_33n
  rw [h27, hm27, lN_mul, lN_mul, lN_mul]
  have e26 : lN (M / 134217728 * (M % 134217728)) >>> ((26 : Int32).toInt64 &&& 63) = lN (M / 134217728 * (M % 134217728) / 67108864) := wb_sar (k := 26) (by omega) (by decide)
  have em26 : lN (M / 134217728 * (M % 134217728)) &&& 67108863 = lN (M / 134217728 * (M % 134217728) % 67108864) := by
    rw [show (67108863 : Int64) = lN (67108864 - 1) from rfl, g_mask (s := 26) (by decide) (by decide) (by omega)]
  have e28 : lN (M / 134217728 * (M % 134217728) % 67108864) <<< ((28 : Int32).toInt64 &&& 63) = lN (M / 134217728 * (M % 134217728) % 67108864 * 268435456) := wb_shl (k := 28) _ (by decide)
  rw [e26, em26, e28, lN_add, lN_add]
  have e54 : lN (M % 134217728 * (M % 134217728) + M / 134217728 * (M % 134217728) % 67108864 * 268435456) >>> ((54 : Int32).toInt64 &&& 63) = lN ((M % 134217728 * (M % 134217728) + M / 134217728 * (M % 134217728) % 67108864 * 268435456) / 18014398509481984) := wb_sar (k := 54) (by omega) (by decide)
  rw [e54, lN_add]
  congr 1
  rw [hp]
  omega
theorem diff_c {H G Lo M P : Nat} (hM : 0 < M) (hD : (H * P + Lo ≤ (H + G) * P ∧ (H + G) * P - (H * P + Lo) ≤ M) ∨ ((H + G) * P < H * P + Lo ∧ H * P + Lo - (H + G) * P < M)) : Lo < G * P + M ∧ G * P ≤ M + Lo := by
  rw [Nat.add_mul] at hD
  generalize H * P = a at hD
  generalize G * P = b at hD ⊢
  omega
theorem diff_i {b Lo M : Nat} (h : Lo < b + M ∧ b ≤ M + Lo) : ¬ ((b : Int) - Lo ≤ -(M : Int)) ∧ ¬ ((M : Int) < (b : Int) - Lo) := by
  omega
theorem isRoot_1 {w L M : Nat} (hw : w < 4096) (hw0 : 0 < w) (hL : L ≤ 6) (h : rlen w L) (hM : nrt w L M) : f_X0_isNearestRoot (nI w) (lN M) = 1 := by
  obtain ⟨m1, m2⟩ := nrt_lt hL h hM
  obtain ⟨r, s, h1, h2, h3, h4⟩ := hM
  have e52 : (52 - (2 * nI L) : Int32) = nI (52 - 2 * L) := by
    rw [show (2 : Int32) = nI 2 from rfl, pk_mul, show (52 : Int32) = nI 52 from rfl, pk_sub (by omega)]
  have hX : w * 4 ^ (53 - L) = w * 2 ^ (52 - 2 * L) * 18014398509481984 := by
    have e : 4 ^ (53 - L) = 2 ^ (52 - 2 * L) * 18014398509481984 := by
      have e1 : (4 : Nat) ^ (53 - L) = 2 ^ (2 * (53 - L)) := (p24 _).symm
      have e2 : (18014398509481984 : Nat) = 2 ^ 54 := by decide
      rw [e1, e2, ← Nat.pow_add]
      congr 1
      omega
    rw [e, Nat.mul_assoc]
  rw [hX] at h1
  have hD : (M * M ≤ w * 2 ^ (52 - 2 * L) * 18014398509481984 ∧ w * 2 ^ (52 - 2 * L) * 18014398509481984 - M * M ≤ M) ∨ (w * 2 ^ (52 - 2 * L) * 18014398509481984 < M * M ∧ M * M - w * 2 ^ (52 - 2 * L) * 18014398509481984 < M) := by
    rw [← h1, h4]
    by_cases c : s ≤ r
    · rw [if_pos c]
      exact Or.inl ⟨by omega, by omega⟩
    · rw [if_neg c]
      have e : (r + 1) * (r + 1) = r * r + 2 * r + 1 := by
        rw [Nat.add_mul, Nat.mul_add]
        omega
      rw [e]
      exact Or.inr ⟨by omega, by omega⟩
  have hw2 : w * 2 ^ (52 - 2 * L) < 9007199254740992 := by
    have h5 : 4 ^ L * 2 ^ (52 - 2 * L) = 4503599627370496 := by
      have e1 : (4 : Nat) ^ L = 2 ^ (2 * L) := (p24 L).symm
      have h9 := @Nat.pow_add 2 (2 * L) (52 - 2 * L)
      rw [show 2 * L + (52 - 2 * L) = 52 by omega] at h9
      rw [e1]
      exact h9.symm
    have h6 : w * 2 ^ (52 - 2 * L) ≤ 4 ^ L * 2 ^ (52 - 2 * L) := Nat.mul_le_mul_right _ (by have := h.1; omega)
    omega
  unfold f_X0_isNearestRoot
  rw [if_neg (nI_ne0 hw0 (by omega)), rl_eq hw hL h, e52, nI_l (by omega), wb_shl w (by omega), sqHigh m2]
  generalize w * 2 ^ (52 - 2 * L) = W at hD hw2 ⊢
  have hHL : M * M = M * M / 18014398509481984 * 18014398509481984 + M * M % 18014398509481984 := by omega
  have hLo : M * M % 18014398509481984 < 18014398509481984 := Nat.mod_lt _ (by decide)
  unfold g_X0_isNearestRoot_33n
  rw [sqLow]
  generalize M * M / 18014398509481984 = H at hHL ⊢
  generalize M * M % 18014398509481984 = Lo at hHL hLo ⊢
  rw [hHL] at hD
  have hH : H ≤ W ∧ W ≤ H + 1 := by
    rcases hD with ⟨c1, c2⟩ | ⟨c1, c2⟩
    · omega
    · omega
  rw [lN_sub hH.1]
  generalize hg : W - H = G
  have hG : G ≤ 1 := by omega
  have hWG : W = H + G := by omega
  subst hWG
  obtain ⟨k1, k2⟩ := diff_i (diff_c (show 0 < M by omega) hD)
  clear hD hHL hH
  have eG : lN G <<< ((54 : Int32).toInt64 &&& 63) = lN (G * 18014398509481984) := wb_shl (k := 54) _ (by decide)
  have tM : (lN M).toInt = M := lNt (by omega)
  have tG : (lN (G * 18014398509481984)).toInt = ((G * 18014398509481984 : Nat) : Int) := lNt (by omega)
  have tL : (lN Lo).toInt = Lo := lNt (by omega)
  have tD : (lN (G * 18014398509481984) - lN Lo).toInt = ((G * 18014398509481984 : Nat) : Int) - Lo := by
    rw [fb_subL (by rw [tG, tL]; omega) (by rw [tG, tL]; omega), tG, tL]
  have tN : (-(lN M) : Int64).toInt = -(M : Int) := by rw [fb_negL (by rw [tM]; omega), tM]
  rw [eG, if_neg (show ¬ lN G < 0 by rw [lN0, lNlt (by omega) (by decide)]; omega), if_pos (show lN G ≤ 1 by rw [lN1, lNle (by omega) (by decide)]; omega)]
  rw [if_neg (show ¬ (lN (G * 18014398509481984) - lN Lo) ≤ -(lN M) by rw [fa_le64, tD, tN]; exact k1), if_neg (show ¬ lN M < (lN (G * 18014398509481984) - lN Lo) by rw [fa_lt64, tD, tM]; exact k2)]
theorem ag_isRoot {S : pS} {T : pT} (hR : rel S T) (o : Nat → Int64) (p0 : Int32) : agZ (wrZ [2] S o (f_X0_isRoot S p0)) (f_X1_isRoot T p0) := by
  unfold f_X0_isRoot f_X1_isRoot
  rcases r4k p0 with ⟨w, hw, rfl, e0, e1⟩ | ⟨e0, e1⟩
  · rw [e0, e1, no_1]
    dsimp only
    rw [if_pos (show (0 : Int32) = 0 from rfl)]
    have h1 : f_X0_isNearestRoot (nI w) (f_X0_nearestRoot (nI w)) = 1 := by
      rcases Nat.eq_zero_or_pos w with c | c
      · subst c
        decide +kernel
      · obtain ⟨L, hL, h⟩ := rlen_ex hw
        obtain ⟨M, ⟨hM, hX⟩ | c2⟩ := nr_X0 hw hL h
        · rw [hX, isRoot_1 hw c hL h hM]
        · omega
    rw [h1]
    exact agZ_ok (rel_th hR 0) o _ rfl Iff.rfl
  · rw [e0, e1, no_0]
    exact agZ_er (rel_th hR 1) o _ 2 rfl (by decide)

/-! doubles: what bitsOfDouble tells of a normal number -/
theorem nb_key {s : Bool} {c : Nat} {q : Int} (h : nok c q) : FP.Core.dkey (nb s c q) = if s then -(((q + 1075).toNat * 4503599627370496 + (c - 4503599627370496) : Nat) : Int) else (((q + 1075).toNat * 4503599627370496 + (c - 4503599627370496) : Nat) : Int) := by
  have hb := nb_bits (s := s) h
  obtain ⟨h1, h2, h3, h4⟩ := h
  have hE : (q + 1075).toNat ≤ 2046 := by omega
  unfold FP.Core.dkey
  rw [hb]
  generalize (q + 1075).toNat = E at hE ⊢
  cases s
  · have c1 : ¬ (2 : Nat) ^ 63 ≤ (if false = true then 2 ^ 63 else 0) + (E * 2 ^ 52 + (c - 2 ^ 52)) := by
      rw [if_neg (by decide)]
      omega
    rw [if_neg c1, if_neg (by decide), if_neg (by decide)]
    omega
  · have c1 : (2 : Nat) ^ 63 ≤ (if true = true then 2 ^ 63 else 0) + (E * 2 ^ 52 + (c - 2 ^ 52)) := by
      rw [if_pos rfl]
      omega
    rw [if_pos c1, if_pos rfl, if_pos rfl]
    omega
theorem zero_nn : FP.Core.val64 FP.dconst0 ≠ .nan := by
  show FP.Core.val64 0 ≠ .nan
  rw [FP.Core.val64_zero]
  exact fun e => by cases e
theorem zero_key : FP.Core.dkey FP.dconst0 = 0 := by decide +kernel
theorem nb_gt0 {c : Nat} {q : Int} (h : nok c q) : FP.dcmp (nb false c q) FP.dconst0 = some .gt := by
  refine (FP.Core.dcmp_gt_key (nb_nn h) zero_nn).mpr ?_
  rw [zero_key, nb_key h, if_neg (by decide)]
  obtain ⟨h1, h2, h3, h4⟩ := h
  omega
theorem nb_lt0 {c : Nat} {q : Int} (h : nok c q) : FP.dcmp (nb true c q) FP.dconst0 = some .lt := by
  refine (FP.Core.dcmp_lt_key (nb_nn h) zero_nn).mpr ?_
  rw [zero_key, nb_key h, if_pos rfl]
  obtain ⟨h1, h2, h3, h4⟩ := h
  omega
theorem nb_neg {c : Nat} {q : Int} (h : nok c q) : FP.dneg (nb true c q) = nb false c q := by
  have e : FP.Core.val64 (FP.dneg (nb true c q)) = .fin false c q := by
    rw [FP.val64_dneg, nb_val h]
    rfl
  apply FP.Core.val64_inj
  · rw [e]; exact fun z => by cases z
  · rw [e, nb_val h]
theorem tw_nb (k : Int) : tw k = nb false 4503599627370496 (k - 52) := by
  have h : (1 : Nat) * 2 ^ (53 - bl 1) = 4503599627370496 ∧ ((53 - bl 1 : Nat) : Int) = 52 := by decide +kernel
  unfold tw dn
  rw [h.1, h.2]
theorem tw_nok2 {k : Int} (h1 : -1022 ≤ k) (h2 : k ≤ 1023) : nok 4503599627370496 (k - 52) := ⟨by decide, by decide, by omega, by omega⟩
theorem cmp_tw {c : Nat} {q k : Int} (h : nok c q) (h1 : -1022 ≤ k) (h2 : k ≤ 1023) : (Op.cmpValue (FP.dcmp (nb false c q) (tw k)) CmpOp.l < 0) ↔ q + 52 < k := by
  have hk := tw_nok2 h1 h2
  have a := nb_nn (s := false) h
  have b := nb_nn (s := false) hk
  have ka := nb_key (s := false) h
  have kb := nb_key (s := false) hk
  rw [if_neg (by decide)] at ka kb
  obtain ⟨h3, h4, h5, h6⟩ := h
  rw [tw_nb]
  rcases Int.lt_trichotomy (FP.Core.dkey (nb false c q)) (FP.Core.dkey (nb false 4503599627370496 (k - 52))) with z | z | z
  · have e : FP.dcmp (nb false c q) (nb false 4503599627370496 (k - 52)) = some .lt := (FP.Core.dcmp_lt_key a b).mpr z
    rw [e]
    rw [ka, kb] at z
    exact ⟨fun _ => by omega, fun _ => by decide⟩
  · have e : FP.dcmp (nb false c q) (nb false 4503599627370496 (k - 52)) = some .eq := (FP.Core.dcmp_eq_key a b).mpr z
    rw [e]
    rw [ka, kb] at z
    exact ⟨fun y => absurd y (by decide), fun y => by omega⟩
  · have e : FP.dcmp (nb false c q) (nb false 4503599627370496 (k - 52)) = some .gt := (FP.Core.dcmp_gt_key a b).mpr z
    rw [e]
    rw [ka, kb] at z
    exact ⟨fun y => absurd y (by decide), fun y => by omega⟩
theorem exo_go {c : Nat} {q : Int} (h : nok c q) : ∀ k n (w a : Int32), k ≤ 11 → k < n → exI w a → w.toInt ≤ q + 52 → q + 52 < a.toInt → a.toInt - w.toInt ≤ ((2 ^ k : Nat) : Int) → (g_X0_exponentOf_11 (nb false c q) n w a (nI (11 - k))).toInt = q + 52 := by
  intro k
  induction k with
  | zero =>
    intro n w a hk hn he h1 h2 h3
    cases n with
    | zero => omega
    | succ n =>
      rw [g_X0_exponentOf_11, if_pos (by decide)]
      have e : ((2 ^ 0 : Nat) : Int) = 1 := rfl
      rw [e] at h3
      omega
  | succ k ih =>
    intro n w a hk hn he h1 h2 h3
    cases n with
    | zero => omega
    | succ n =>
      have hm := ex_mid_toInt he
      have hp := ex_mid he
      have e2 : ((2 ^ (k + 1) : Nat) : Int) = 2 * ((2 ^ k : Nat) : Int) := by
        rw [Nat.pow_succ]
        omega
      rw [e2] at h3
      rw [g_X0_exponentOf_11, if_neg (show ¬ (11 : Int32) ≤ nI (11 - (k + 1)) from nI_ge (a := 11 - (k + 1)) (b := 11) (by omega) (by decide)), twoAsDouble_eq hp, nI_1, show 11 - (k + 1) + 1 = 11 - k by omega]
      have hc := cmp_tw (k := ((w + a) >>> ((1 : Int32) &&& 31)).toInt) h (by have := hp.1; omega) (by have := hp.2; omega)
      by_cases c1 : q + 52 < ((w + a) >>> ((1 : Int32) &&& 31)).toInt
      · rw [if_pos (hc.mpr c1)]
        exact ih n _ _ (by omega) (by omega) (ex_a he) h1 c1 (by rw [hm]; omega)
      · rw [if_neg (fun z => c1 (hc.mp z))]
        exact ih n _ _ (by omega) (by omega) (ex_w he) (by omega) h2 (by rw [hm]; omega)
theorem exo_eq {c : Nat} {q : Int} (h : nok c q) (h1 : -1000 ≤ q + 52) (h2 : q + 52 ≤ 1000) : (f_X0_exponentOf (nb false c q)).toInt = q + 52 := by
  have m : (-1000 : Int32).toInt = -1000 := by decide
  have p : (1001 : Int32).toInt = 1001 := by decide
  have e : ((2 ^ 11 : Nat) : Int) = 2048 := rfl
  exact exo_go h 11 (((11 : Int32).toInt - (0 : Int32).toInt).toNat + 1) (-1000) 1001 (by decide) (by decide) ex_0 (by rw [m]; exact h1) (by rw [p]; omega) (by rw [m, p, e]; decide)
theorem man_eq {c : Nat} {q : Int} (h : nok c q) (h1 : -1000 ≤ q + 52) (h2 : q + 52 ≤ 1000) : FP.d2l (FP.dmul (FP.dmul (nb false c q) (f_X0_twoAsDouble (-(f_X0_exponentOf (nb false c q))))) 4841369599423283200) = lN c := by
  have hn := ex_neg (nb false c q)
  have he := exo_eq h h1 h2
  have ht : (-(f_X0_exponentOf (nb false c q)) : Int32).toInt = -(q + 52) := by
    rw [fb_negI (by rw [he]; omega), he]
  obtain ⟨h3, h4, h5, h6⟩ := h
  have n1 : nok c (-52) := ⟨h3, h4, by decide, by decide⟩
  have n2 : nok c 0 := ⟨h3, h4, by decide, by decide⟩
  have e1 : FP.dmul (nb false c q) (nb false 4503599627370496 (-(q + 52) - 52)) = nb false c (-52) := by
    refine dmul_nb (s := false) (t := false) ⟨h3, h4, h5, h6⟩ (tw_nok2 (by omega) (by omega)) n1 ?_
    rw [show (q + (-(q + 52) - 52) - -52).toNat = 0 by omega, show (-52 - (q + (-(q + 52) - 52))).toNat = 52 by omega]
    omega
  have e2 : FP.dmul (nb false c (-52)) (nb false 4503599627370496 (52 - 52)) = nb false c 0 := by
    refine dmul_nb (s := false) (t := false) n1 (tw_nok2 (by decide) (by decide)) n2 ?_
    rw [show (-52 + (52 - 52) - (0 : Int)).toNat = 0 by decide, show ((0 : Int) - (-52 + (52 - 52))).toNat = 52 by decide]
    omega
  rw [twoAsDouble_eq hn, ht, tw_nb, e1, tw_52, tw_nb, e2]
  refine FP.Core.d2l_int (a := lN c) ?_
  unfold FP.Core.DInt
  rw [nb_val n2, lNt (by omega)]
  show FP.Core.signed false (c * 2 ^ (0 : Int).toNat) = (c : Int) * ((2 ^ (-(0 : Int)).toNat : Nat) : Int)
  rw [show (0 : Int).toNat = 0 from rfl, show (-(0 : Int)).toNat = 0 from rfl, Nat.pow_zero, Nat.mul_one]
  show (c : Int) = (c : Int) * 1
  rw [Int.mul_one]
theorem bod_e {c : Nat} {q : Int} (h : nok c q) (h1 : -1000 ≤ q + 52) (h2 : q + 52 ≤ 1000) : (f_X0_exponentOf (nb false c q) - 52 : Int32).toInt + 1075 = ((q + 1075).toNat : Int) := by
  have he := exo_eq h h1 h2
  have c2 : (52 : Int32).toInt = 52 := by decide
  rw [fb_subI (by rw [he, c2]; omega) (by rw [he, c2]; omega), he, c2]
  omega
theorem bod_pos {c : Nat} {q : Int} (h : nok c q) (h1 : -1000 ≤ q + 52) (h2 : q + 52 ≤ 1000) : f_X0_bitsOfDouble (nb false c q) = lN (c - 4503599627370496 + (q + 1075).toNat * 4503599627370496) := by
  have hg := nb_gt0 h
  unfold f_X0_bitsOfDouble
  rw [hg, if_neg (show ¬ Op.cmpValue (some .gt) CmpOp.l = 0 by decide), if_pos (show (0 : Int32) ≤ Op.cmpValue (some .gt) CmpOp.g by decide)]
  unfold g_X0_bitsOfDouble_20
  rw [man_eq h h1 h2]
  unfold g_X0_bitsOfDouble_40n
  rw [hg, if_pos (show (0 : Int32) ≤ Op.cmpValue (some .gt) CmpOp.g by decide)]
  exact pack_0 h.1 (bod_e h h1 h2)
theorem bod_neg {c : Nat} {q : Int} (h : nok c q) (h1 : -1000 ≤ q + 52) (h2 : q + 52 ≤ 1000) : f_X0_bitsOfDouble (nb true c q) = lN (c - 4503599627370496 + (q + 1075).toNat * 4503599627370496 + 9223372036854775808) := by
  have hg := nb_lt0 h
  unfold f_X0_bitsOfDouble
  rw [hg, if_neg (show ¬ Op.cmpValue (some .lt) CmpOp.l = 0 by decide), if_neg (show ¬ (0 : Int32) ≤ Op.cmpValue (some .lt) CmpOp.g by decide), nb_neg h]
  unfold g_X0_bitsOfDouble_20
  rw [man_eq h h1 h2]
  unfold g_X0_bitsOfDouble_40n
  rw [hg, if_neg (show ¬ (0 : Int32) ≤ Op.cmpValue (some .lt) CmpOp.g by decide)]
  refine pack_1 h.1 (bod_e h h1 h2) ?_
  obtain ⟨h3, h4, h5, h6⟩ := h
  omega
theorem bod_zero : f_X0_bitsOfDouble 0 = 0 := by decide +kernel
/-- the bits of a double told by its parts -/
theorem bod_V {s : Bool} {b : Nat} {h : Int32} (hn : nrm b h.toInt) (h1 : -1000 ≤ h.toInt + bl b - 1) (h2 : h.toInt + bl b - 1 ≤ 1000) : f_X0_bitsOfDouble (dn s b h.toInt) = if s then lN (Vb b h + 9223372036854775808) else lN (Vb b h) := by
  have hl : bl b ≤ 53 := bl_le.mpr hn.2.1
  have hk := nrm_nok hn
  unfold dn
  cases s
  · rw [bod_pos hk (by omega) (by omega), if_neg (by decide)]
    rfl
  · rw [bod_neg hk (by omega) (by omega), if_pos rfl]
    rfl
theorem i2d_p1 : FP.i2d 1 = dn false 1 0 := by decide +kernel
theorem i2d_m1 : FP.i2d (-1) = dn true 1 0 := by decide +kernel
theorem dn_dint {b : Nat} (h0 : 0 < b) (hb : b < 9007199254740992) : FP.Core.DInt (b : Int) (dn false b 0) := by
  have hl : bl b ≤ 53 := bl_le.mpr (by omega)
  have hk := nrm_nok (m := b) (e := 0) ⟨h0, by omega, by omega, by omega⟩
  unfold FP.Core.DInt dn
  rw [nb_val hk]
  show FP.Core.signed false (b * 2 ^ (53 - bl b) * 2 ^ (0 - ((53 - bl b : Nat) : Int)).toNat) = (b : Int) * ((2 ^ (-(0 - ((53 - bl b : Nat) : Int))).toNat : Nat) : Int)
  rw [show (0 - ((53 - bl b : Nat) : Int)).toNat = 0 by omega, show (-(0 - ((53 - bl b : Nat) : Int))).toNat = 53 - bl b by omega, Nat.pow_zero, Nat.mul_one]
  show ((b * 2 ^ (53 - bl b) : Nat) : Int) = _
  exact Int.natCast_mul _ _
theorem l2d_dn {b : Nat} (h0 : 0 < b) (hb : b < 9007199254740992) : FP.l2d (lN b) = dn false b 0 := by
  have h1 : FP.Core.DInt (lN b).toInt (FP.Core.l2d (lN b)) := FP.Core.l2d_int (by rw [lNt (by omega)]; omega)
  rw [lNt (by omega)] at h1
  exact FP.Core.dint_unique (i := (b : Int)) (by omega) h1 (dn_dint h0 hb)
theorem asD_eq {g : Int32} {b : Nat} {h : Int32} (hg : g = -1 ∨ g = 1) (h0 : 0 < b) (hb : b < 9007199254740992) (hn : nrm b h.toInt) (hp : pOk h) : f_X0_asDouble g (lN b) h = dn (decide (g = -1)) b h.toInt := by
  have hl : bl b ≤ 53 := bl_le.mpr (by omega)
  have n1 : nrm 1 0 := ⟨by decide, by decide, by decide, by decide⟩
  have nb0 : nrm b 0 := ⟨h0, by omega, by omega, by omega⟩
  have nt : nrm 1 h.toInt := tw_nrm (by have := hp.1; omega) (by have := hp.2; omega)
  have hi : FP.i2d g = dn (decide (g = -1)) 1 0 := by
    rcases hg with rfl | rfl
    · exact i2d_m1
    · exact i2d_p1
  have e1 : FP.dmul (dn (decide (g = -1)) 1 0) (dn false b 0) = dn (decide (g = -1)) b 0 := by
    have e := dmul_dn (s := decide (g = -1)) (t := false) n1 nb0 (by rw [Nat.one_mul]; exact nb0)
    rw [Nat.one_mul, Bool.bne_false] at e
    exact e
  have e2 : FP.dmul (dn (decide (g = -1)) b 0) (dn false 1 h.toInt) = dn (decide (g = -1)) b h.toInt := by
    have e := dmul_dn (s := decide (g = -1)) (t := false) nb0 nt (by rw [Nat.mul_one, Int.zero_add]; exact hn)
    rw [Nat.mul_one, Int.zero_add, Bool.bne_false] at e
    exact e
  unfold f_X0_asDouble
  rw [hi, l2d_dn h0 hb, e1, twoAsDouble_eq hp]
  exact e2
theorem asD_0 : f_X0_asDouble 0 0 0 = 0 := by decide +kernel
/-- what a number's parts say of the double -/
theorem okN_nrm {g : Int32} {o : Int64} {h : Int32} (hk : okN g o h) (h0 : ¬ g = 0) : ∃ b : Nat, o = lN b ∧ 0 < b ∧ b < 9007199254740992 ∧ nrm b h.toInt ∧ -1000 ≤ h.toInt + bl b - 1 ∧ h.toInt + bl b - 1 ≤ 1000 ∧ Vb b h < 9223372036854775808 ∧ pOk h ∧ (g = -1 ∨ g = 1) := by
  obtain ⟨b, e, hb, hb2, hE0, hE, hV, hEe⟩ := okN_V hk h0
  obtain ⟨b', e', -, hb2', h3⟩ := okN_nat hk h0
  have hbb : b = b' := by
    have := e.symm.trans e'
    exact (lNeq (by omega) (by omega)).mp this
  subst hbb
  obtain ⟨k1, k2, k3, k4, k5, k6, k7, k8⟩ := hk
  have hl : bl b ≤ 53 := bl_le.mpr (by omega)
  have hl0 := bl_pos hb
  have hE2 : h.toInt + bl b - 1 ≤ 1000 := by
    by_cases c : 1 < b
    · obtain ⟨h4, h5⟩ := h3 c
      rcases Nat.lt_or_ge h.toInt.toNat 212 with z | z
      · omega
      · exfalso
        have h6 : 3 ^ 212 ≤ 3 ^ h.toInt.toNat := Nat.pow_le_pow_right (by decide) z
        have h7 : b ^ 4 ≤ 9007199254740992 ^ 4 := Nat.pow_le_pow_left (by omega) 4
        have h8 : 9007199254740992 ^ 4 < 3 ^ 212 := by decide
        omega
    · have e1 : b = 1 := by omega
      rw [e1, bl_1]
      omega
  refine ⟨b, e, hb, hb2, ⟨hb, by omega, by omega, by omega⟩, by omega, hE2, hV, ⟨k6, k7⟩, ?_⟩
  rcases k1 with c | c | c
  · exact Or.inl c
  · exact absurd c h0
  · exact Or.inr c
theorem sound1 {g : Int32} {o : Int64} {h : Int32} (hk : okN g o h) : f_X0_bitsOfDouble (f_X0_asDouble g o h) = f_X0_bitsOf g o h := by
  by_cases c : g = 0
  · obtain ⟨e1, e2⟩ := okN_0' hk c
    subst e1
    subst e2
    subst c
    rw [asD_0, bod_zero]
    rfl
  · obtain ⟨b, e, hb, hb2, hn, h1, h2, hV, hp, hg⟩ := okN_nrm hk c
    subst e
    have := hp.1
    have := hp.2
    rw [asD_eq hg hb hb2 hn hp, bod_V hn h1 h2]
    rcases hg with rfl | rfl
    · rw [if_pos (by decide), Vb_neg hb hb2 (by omega) (by omega) hV]
    · rw [if_neg (by decide), Vb_eq hb hb2 (by omega) (by omega)]
theorem ag_isSound {S : pS} {T : pT} (hR : rel S T) : f_X0_isSound S = 1 := by
  have hgo : ∀ n i, i ≤ 8 → 8 - i < n → g_X0_isSound_2 S n (nI i) = 1 := by
    intro n
    induction n with
    | zero => intro i h1 h2; omega
    | succ n ih =>
      intro i h1 h2
      rw [g_X0_isSound_2]
      by_cases c : i = 8
      · subst c
        rw [if_pos (by decide)]
      · rw [if_neg (show ¬ (8 : Int32) ≤ nI (i) from nI_ge (a := i) (b := 8) (by omega) (by decide)), if_pos (show f_X0_bitsOfDouble (f_X0_asDouble (sgS S (nI i).toNatClampNeg) (odS S (nI i).toNatClampNeg) (shS S (nI i).toNatClampNeg)) = f_X0_slotBits S (nI i) from sound1 (hR.2.2.2.1 _)), nI_1]
        exact ih (i + 1) (by omega) (by omega)
  exact hgo (((8 : Int32).toInt - (0 : Int32).toInt).toNat + 1) 0 (by decide) (by decide)

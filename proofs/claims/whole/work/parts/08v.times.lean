/-! isTimes: the square as a double -/
theorem log2_of {n k : Nat} (h1 : 2 ^ k ≤ n) (h2 : n < 2 ^ (k + 1)) : n.log2 = k := by
  have h0 : n ≠ 0 := by
    have := Nat.two_pow_pos k
    omega
  have a := (Nat.log2_lt h0).mpr h2
  have b : k < bl n := bl_gt.mpr h1
  unfold bl at b
  rw [if_neg h0] at b
  omega
theorem near_rnd {Q w : Nat} (hw : w = 52 ∨ w = 53) : FP.Core.nearest Q (2 ^ w) = rnd (Q / 2 ^ w) (Q % 2 ^ w) w := by
  unfold FP.Core.nearest rnd
  obtain ⟨t1, t2, t3⟩ := two_w hw
  generalize Q / 2 ^ w = q
  generalize Q % 2 ^ w = r
  generalize 2 ^ (w - 1) = d at t2 t3 ⊢
  rw [← t3]
  by_cases c1 : d < r
  · rw [if_pos c1, if_neg (by omega), if_pos (by omega)]
  · rw [if_neg c1]
    by_cases c2 : r = d
    · rw [if_pos c2, if_neg (by omega), if_neg (by omega)]
      by_cases c3 : q % 2 = 1
      · rw [if_pos c3]; omega
      · rw [if_neg c3]; omega
    · rw [if_neg c2, if_pos (by omega)]
theorem b64_p : FP.Core.b64.p = 53 := by decide
theorem dsq {s : Bool} {m : Nat} {q : Int} (h : nok m q) (h1 : -500 ≤ q) (h2 : q ≤ 450) : FP.Core.val64 (FP.dmul (nb s m q) (nb s m q)) = if sqR (m * m) < 9007199254740992 then .fin false (sqR (m * m)) (q + q + sqW (m * m)) else .fin false 4503599627370496 (q + q + sqW (m * m) + 1) := by
  obtain ⟨q1, q2⟩ := sq_Q h.1 h.2.1
  have hw := sqW_c (m * m)
  have hlead : (m * m).log2 = 52 + sqW (m * m) := by
    unfold sqW
    split
    · exact log2_of (k := 104) (by omega) (by omega)
    · exact log2_of (k := 105) (by omega) (by omega)
  show FP.Core.val64 (FP.Core.dmul _ _) = _
  rw [FP.Core.val64_dmul, nb_val h]
  show FP.Core.roundRatio FP.Core.b64 (s != s) (m * m) 1 (q + q) = _
  have hs : (s != s) = false := by cases s <;> rfl
  rw [hs]
  have hr := sqR_b q1 q2
  have hqr : sqR (m * m) = rnd (m * m / 2 ^ sqW (m * m)) (m * m % 2 ^ sqW (m * m)) (sqW (m * m)) := rfl
  generalize m * m = Q at *
  generalize sqW Q = w at *
  have hl : FP.Core.leading Q 1 = ((52 + w : Nat) : Int) := by
    unfold FP.Core.leading
    rw [hlead, show Nat.log2 1 = 0 by decide]
    dsimp only
    have hpos : (1 * 2 ^ (((52 + w : Nat) : Int) - ((0 : Nat) : Int)).toNat ≤ Q * 2 ^ (-(((52 + w : Nat) : Int) - ((0 : Nat) : Int))).toNat) := by
      rw [show (((52 + w : Nat) : Int) - ((0 : Nat) : Int)).toNat = 52 + w by omega, show (-(((52 + w : Nat) : Int) - ((0 : Nat) : Int))).toNat = 0 by omega, Nat.pow_zero, Nat.mul_one, Nat.one_mul, ← hlead]
      exact Nat.log2_self_le (by omega)
    rw [if_pos hpos]
    omega
  have hq : FP.Core.quantum FP.Core.b64 Q 1 (q + q) = q + q + w := by
    unfold FP.Core.quantum
    rw [hl, b64_qmin, b64_p]
    omega
  unfold FP.Core.roundRatio
  rw [if_neg (by omega), hq]
  unfold FP.Core.roundAt FP.Core.unitsNum FP.Core.unitsDen
  rw [show (q + q - (q + q + w)).toNat = 0 by omega, show (q + q + w - (q + q)).toNat = w by omega, Nat.pow_zero, Nat.mul_one, Nat.one_mul, near_rnd hw, ← hqr]
  unfold FP.Core.settle FP.Core.bound
  rw [b64_p, b64_qmax, b64_tails]
  by_cases c : sqR Q < 9007199254740992
  · rw [if_pos c, if_pos (show sqR Q < 2 ^ 53 by omega), if_pos (by omega)]
  · rw [if_neg c, if_neg (show ¬ sqR Q < 2 ^ 53 by omega), if_pos (by omega)]
theorem times_1 {g : Int32} {o : Int64} {h : Int32} (hk : okN g o h) (h1 : -400 ≤ h.toInt) (h2 : h.toInt ≤ 400) : f_X0_bitsOfDouble (FP.dmul (f_X0_asDouble g o h) (f_X0_asDouble g o h)) = f_X0_nearestSquareBits o h := by
  by_cases c : g = 0
  · obtain ⟨e1, e2⟩ := okN_0' hk c
    subst e1
    subst e2
    subst c
    rw [asD_0, mul_00, bod_zero]
    rfl
  · obtain ⟨b, e, hb, hb2, hn, h3, h4, hV, hp, hg⟩ := okN_nrm hk c
    subst e
    have hl : bl b ≤ 53 := bl_le.mpr (by omega)
    have hl0 := bl_pos hb
    obtain ⟨m1, m2⟩ := nrm_m hb hb2
    obtain ⟨q1, q2⟩ := sq_Q m1 m2
    have hr := sqR_b q1 q2
    have hw := sqW_c (b * 2 ^ (53 - bl b) * (b * 2 ^ (53 - bl b)))
    have hd := dsq (s := decide (g = -1)) (nrm_nok hn) (by omega) (by omega)
    have hE := (sqe_toInt (b := b) (h := h) hw (by omega) (by omega))
    have hEv : (sqE b h (sqW (b * 2 ^ (53 - bl b) * (b * 2 ^ (53 - bl b)))) : Int) = h.toInt - (53 - bl b : Nat) + (h.toInt - (53 - bl b : Nat)) + sqW (b * 2 ^ (53 - bl b) * (b * 2 ^ (53 - bl b))) + 1075 := by
      rw [← hE.2, hE.1]
      omega
    rw [asD_eq hg hb hb2 hn hp, nsq_X0 hb hb2 (by omega) (by omega)]
    unfold dn
    unfold sqV
    generalize b * 2 ^ (53 - bl b) * (b * 2 ^ (53 - bl b)) = Q at *
    generalize sqE b h (sqW Q) = E at *
    by_cases c1 : sqR Q < 9007199254740992
    · rw [if_pos c1] at hd
      have hnk : nok (sqR Q) (h.toInt - (53 - bl b : Nat) + (h.toInt - (53 - bl b : Nat)) + sqW Q) := ⟨by omega, by omega, by omega, by omega⟩
      have e : FP.dmul (nb (decide (g = -1)) (b * 2 ^ (53 - bl b)) (h.toInt - (53 - bl b : Nat))) (nb (decide (g = -1)) (b * 2 ^ (53 - bl b)) (h.toInt - (53 - bl b : Nat))) = nb false (sqR Q) (h.toInt - (53 - bl b : Nat) + (h.toInt - (53 - bl b : Nat)) + sqW Q) := by
        apply FP.Core.val64_inj
        · rw [hd]; exact fun z => by cases z
        · rw [hd, nb_val hnk]
      rw [e, bod_pos hnk (by omega) (by omega)]
      have eE : (h.toInt - (53 - bl b : Nat) + (h.toInt - (53 - bl b : Nat)) + sqW Q + 1075).toNat = E := by omega
      rw [eE]
    · rw [if_neg c1] at hd
      have hnk : nok 4503599627370496 (h.toInt - (53 - bl b : Nat) + (h.toInt - (53 - bl b : Nat)) + sqW Q + 1) := ⟨by omega, by omega, by omega, by omega⟩
      have e : FP.dmul (nb (decide (g = -1)) (b * 2 ^ (53 - bl b)) (h.toInt - (53 - bl b : Nat))) (nb (decide (g = -1)) (b * 2 ^ (53 - bl b)) (h.toInt - (53 - bl b : Nat))) = nb false 4503599627370496 (h.toInt - (53 - bl b : Nat) + (h.toInt - (53 - bl b : Nat)) + sqW Q + 1) := by
        apply FP.Core.val64_inj
        · rw [hd]; exact fun z => by cases z
        · rw [hd, nb_val hnk]
      rw [e, bod_pos hnk (by omega) (by omega)]
      have eE : (h.toInt - (53 - bl b : Nat) + (h.toInt - (53 - bl b : Nat)) + sqW Q + 1 + 1075).toNat = E + 1 := by omega
      rw [eE]
      exact congrArg lN (by omega)
theorem ag_isTimes {S : pS} {T : pT} (hR : rel S T) (o : Nat → Int64) (p0 : Int32) : agZ (wrZ [1, 5] S o (f_X0_isTimes S p0)) (f_X1_isTimes T p0) := by
  unfold f_X0_isTimes f_X1_isTimes
  rcases lsq_c hR p0 with ⟨e0, e1⟩ | ⟨e0, e2, e1⟩ | ⟨e0, e2, e1, h1, h2⟩
  · rw [e0, e1]
    exact agZ_er (rel_th hR 1) o _ 1 rfl (by decide)
  · rw [e0, e2, e1]
    exact agZ_er (rel_th hR 2) o _ 5 rfl (by decide)
  · rw [e0, e2, e1]
    dsimp only
    rw [if_pos (show (0 : Int32) = 0 from rfl), if_pos (times_1 (hR.2.2.2.1 p0.toNatClampNeg) h1 h2)]
    exact agZ_ok (rel_th hR 0) o _ rfl Iff.rfl

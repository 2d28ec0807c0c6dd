/-! bits of a number -/
theorem dbl_step {b p st : Nat} (n : Nat) (hb : 0 < b) (hb2 : b < 9007199254740992) (hp : p ≤ 53 - bl b) (hs0 : 0 < st) (hs : st ≤ 32) : g_X0_doublings_5 (lN b) (n + 1) (nI p) (nI st) = g_X0_doublings_5 (lN b) n (nI (if p + st ≤ 53 - bl b then p + st else p)) (nI (st / 2)) := by
  have hl : bl b ≤ 53 := bl_le.mpr (by omega)
  have hl0 := bl_pos hb
  have e1 : ((1 : Int64) <<< (((53 - nI st : Int32)).toInt64 &&& 63)) = lN (2 ^ (53 - st)) := by
    rw [show (53 : Int32) = nI 53 from rfl, pk_sub (by omega), lN1, wb_shl 1 (by omega), Nat.one_mul]
  have e2 : lN b <<< ((nI p).toInt64 &&& 63) = lN (b * 2 ^ p) := wb_shl b (by omega)
  have e3 : (nI st >>> ((1 : Int32) &&& 31)) = nI (st / 2) := pk_shrN (by omega) _ 1 (by decide)
  have hk : b * 2 ^ p < 2 ^ (53 - st) ↔ p + st ≤ 53 - bl b := by
    rw [← bl_le, bl_shift hb]
    omega
  have h53 : b * 2 ^ p < 2 ^ 53 := by
    rw [← bl_le, bl_shift hb]
    omega
  have h54 : 2 ^ (53 - st) ≤ 2 ^ 53 := Nat.pow_le_pow_right (by decide) (by omega)
  have h55 : (2 : Nat) ^ 53 < 2 ^ 63 := by decide
  rw [g_X0_doublings_5, if_neg (nI_nle hs0 (by omega)), e1, e2]
  unfold g_X0_doublings_26
  rw [e3, nI_add]
  by_cases c : p + st ≤ 53 - bl b
  · have c2 : ¬ lN (2 ^ (53 - st)) ≤ lN (b * 2 ^ p) := by
      rw [lNle (by omega) (by omega)]
      have := hk.mpr c
      omega
    rw [if_pos c, if_neg c2]
  · have c2 : lN (2 ^ (53 - st)) ≤ lN (b * 2 ^ p) := by
      rw [lNle (by omega) (by omega)]
      rcases Nat.lt_or_ge (b * 2 ^ p) (2 ^ (53 - st)) with h | h
      · exact absurd (hk.mp h) c
      · exact h
    rw [if_neg c, if_pos c2]
def dbf (d p st : Nat) : Nat := if p + st ≤ d then p + st else p
theorem dbf_le {d p st : Nat} (h : p ≤ d) : dbf d p st ≤ d := by
  unfold dbf
  split
  · assumption
  · exact h
theorem dbf_all : ∀ d, d < 64 → dbf d (dbf d (dbf d (dbf d (dbf d (dbf d 0 32) 16) 8) 4) 2) 1 = d := by decide +kernel
theorem dbl_eq {b : Nat} (hb : 0 < b) (hb2 : b < 9007199254740992) : f_X0_doublings (lN b) = nI (53 - bl b) := by
  have st := fun (n p s : Nat) (hp : p ≤ 53 - bl b) (h0 : 0 < s) (h1 : s ≤ 32) => dbl_step (b := b) (p := p) (st := s) n hb hb2 hp h0 h1
  have a0 : 0 ≤ 53 - bl b := Nat.zero_le _
  have a1 := dbf_le (st := 32) a0
  have a2 := dbf_le (st := 16) a1
  have a3 := dbf_le (st := 8) a2
  have a4 := dbf_le (st := 4) a3
  have a5 := dbf_le (st := 2) a4
  have a6 := dbf_all (53 - bl b) (by omega)
  have e : f_X0_doublings (lN b) = g_X0_doublings_5 (lN b) (26 + 1 + 1 + 1 + 1 + 1 + 1 + 1) (nI 0) (nI 32) := rfl
  rw [e, st _ 0 32 a0 (by decide) (by decide)]
  refine (st _ _ 16 a1 (by decide) (by decide)).trans ?_
  refine (st _ _ 8 a2 (by decide) (by decide)).trans ?_
  refine (st _ _ 4 a3 (by decide) (by decide)).trans ?_
  refine (st _ _ 2 a4 (by decide) (by decide)).trans ?_
  refine (st _ _ 1 a5 (by decide) (by decide)).trans ?_
  rw [g_X0_doublings_5, if_pos (show nI (1 / 2) ≤ 0 by decide)]
  exact congrArg nI a6
theorem c52 : (4503599627370496 : Int64) = lN 4503599627370496 := rfl
theorem c63 : (-9223372036854775808 : Int64) = lN (1 * 9223372036854775808) := by decide
theorem e1075 {e : Int32} {E : Nat} (h : e.toInt + 1075 = E) : ((e : Int32).toInt64) + 1075 = lN E := by
  have hr := fb_rng e
  have h1 : ((e : Int32).toInt64).toInt = e.toInt := Int32.toInt_toInt64 e
  have h2 : (1075 : Int64).toInt = 1075 := by decide
  rw [fa_eq64, fb_addL (by rw [h1, h2]; omega) (by rw [h1, h2]; omega), h1, h2, h, lNt (by omega)]
theorem pack_in {m : Nat} {e : Int32} {E : Nat} (hm : 4503599627370496 ≤ m) (h : e.toInt + 1075 = E) : (lN m - 4503599627370496) + ((((e : Int32).toInt64) + 1075) * 4503599627370496) = lN (m - 4503599627370496 + E * 4503599627370496) := by
  rw [e1075 h, c52, lN_sub hm, lN_mul, lN_add]
theorem pack_0 {m : Nat} {e : Int32} {E : Nat} (hm : 4503599627370496 ≤ m) (h : e.toInt + 1075 = E) : f_X0_pack 0 (lN m) e = lN (m - 4503599627370496 + E * 4503599627370496) := by
  unfold f_X0_pack g_X0_pack_16n
  rw [if_pos rfl, pack_in hm h]
theorem or_63 {v : Nat} (hv : v < 9223372036854775808) : lN v ||| (-9223372036854775808) = lN (v + 9223372036854775808) := by
  have h := g_or' (k := 63) (p := 9223372036854775808) (a := v) (b := 1) (by decide) hv (by omega)
  rw [c63, h, Nat.one_mul]
theorem pack_1 {m : Nat} {e : Int32} {E : Nat} (hm : 4503599627370496 ≤ m) (h : e.toInt + 1075 = E) (hv : m - 4503599627370496 + E * 4503599627370496 < 9223372036854775808) : f_X0_pack 1 (lN m) e = lN (m - 4503599627370496 + E * 4503599627370496 + 9223372036854775808) := by
  unfold f_X0_pack g_X0_pack_16n
  rw [if_neg (by decide), pack_in hm h, or_63 hv]
/-- the place of the leading digit's exponent, as the bits have it -/
def Eb (b : Nat) (h : Int32) : Nat := (h.toInt - (53 - bl b : Nat) + 1075).toNat
def Vb (b : Nat) (h : Int32) : Nat := b * 2 ^ (53 - bl b) - 4503599627370496 + Eb b h * 4503599627370496
theorem nrm_m {b : Nat} (hb : 0 < b) (hb2 : b < 9007199254740992) : 4503599627370496 ≤ b * 2 ^ (53 - bl b) ∧ b * 2 ^ (53 - bl b) < 9007199254740992 := by
  have hl : bl b ≤ 53 := bl_le.mpr (by omega)
  have hl0 := bl_pos hb
  obtain ⟨h1, h2⟩ := bl_bounds hb
  have e1 : 2 ^ (bl b - 1) * 2 ^ (53 - bl b) = 4503599627370496 := by
    have h := @Nat.pow_add 2 (bl b - 1) (53 - bl b)
    rw [show bl b - 1 + (53 - bl b) = 52 by omega] at h
    exact h.symm
  have e2 : 2 ^ bl b * 2 ^ (53 - bl b) = 9007199254740992 := by
    have h := @Nat.pow_add 2 (bl b) (53 - bl b)
    rw [show bl b + (53 - bl b) = 53 by omega] at h
    exact h.symm
  refine ⟨?_, ?_⟩
  · rw [← e1]; exact Nat.mul_le_mul_right _ h1
  · rw [← e2]; exact Nat.mul_lt_mul_of_pos_right h2 (Nat.two_pow_pos _)
theorem d_toInt {b : Nat} {h : Int32} (h1 : -2000 ≤ h.toInt) (h2 : h.toInt ≤ 2000) : (h - nI (53 - bl b)).toInt = h.toInt - (53 - bl b : Nat) := by
  have e : (nI (53 - bl b)).toInt = ((53 - bl b : Nat) : Int) := nI_toInt (by omega)
  rw [fb_subI (by rw [e]; omega) (by rw [e]; omega), e]
theorem b0_v {b : Nat} {h : Int32} (hb : 0 < b) (hb2 : b < 9007199254740992) (h1 : -1022 ≤ h.toInt) (h2 : h.toInt ≤ 2000) {w : Int32} : g_X0_bitsOf_21 (lN b) h w = f_X0_pack w (lN (b * 2 ^ (53 - bl b))) (h - nI (53 - bl b)) ∧ (h - nI (53 - bl b)).toInt + 1075 = Eb b h := by
  unfold g_X0_bitsOf_21
  rw [dbl_eq hb hb2, wb_shl b (by omega), d_toInt (by omega) h2]
  refine ⟨rfl, ?_⟩
  unfold Eb
  omega
theorem b1_v {b : Nat} {h : Int32} (hb : 0 < b) (hb2 : b < 9007199254740992) (h1 : -1022 ≤ h.toInt) (h2 : h.toInt ≤ 2000) : f_X1_bitsOf (lN b) h = lN (Vb b h) := by
  have hl : bl b ≤ 53 := bl_le.mpr (by omega)
  have hl0 := bl_pos hb
  have e0 : ¬ lN b = 0 := by rw [lN0, lNeq (by omega) (by decide)]; omega
  have e1 : (53 - f_X1_lengthOf (lN b) : Int32) = nI (53 - bl b) := by
    rw [len_eq (by omega), show (53 : Int32) = nI 53 from rfl, pk_sub (by omega)]
  have hd := d_toInt (b := b) (h := h) (by omega) h2
  have e2 : ((((h - nI (53 - bl b)) + 1075) : Int32).toInt64) = (((h - nI (53 - bl b)) : Int32).toInt64) + 1075 := by
    have c0 : (1075 : Int32).toInt = 1075 := by decide
    have c1 : (1075 : Int64).toInt = 1075 := by decide
    have c2 : (((h - nI (53 - bl b)) : Int32).toInt64).toInt = (h - nI (53 - bl b)).toInt := Int32.toInt_toInt64 _
    rw [fa_eq64, Int32.toInt_toInt64, fb_addI (by rw [hd, c0]; omega) (by rw [hd, c0]; omega), fb_addL (by rw [c2, hd, c1]; omega) (by rw [c2, hd, c1]; omega), c0, c1, c2]
  unfold f_X1_bitsOf
  rw [if_neg e0, e1, wb_shl b (by omega), e2]
  exact pack_in (nrm_m hb hb2).1 (b0_v hb hb2 h1 h2 (w := 0)).2
theorem Vb_eq {b : Nat} {h : Int32} (hb : 0 < b) (hb2 : b < 9007199254740992) (h1 : -1022 ≤ h.toInt) (h2 : h.toInt ≤ 2000) : f_X0_bitsOf 1 (lN b) h = lN (Vb b h) := by
  obtain ⟨a1, a2⟩ := b0_v (w := 0) hb hb2 h1 h2
  unfold f_X0_bitsOf
  rw [if_neg (by decide), if_pos (by decide), a1, pack_0 (nrm_m hb hb2).1 a2]
  rfl
theorem Vb_neg {b : Nat} {h : Int32} (hb : 0 < b) (hb2 : b < 9007199254740992) (h1 : -1022 ≤ h.toInt) (h2 : h.toInt ≤ 2000) (hv : Vb b h < 9223372036854775808) : f_X0_bitsOf (-1) (lN b) h = lN (Vb b h + 9223372036854775808) := by
  obtain ⟨a1, a2⟩ := b0_v (w := 1) hb hb2 h1 h2
  unfold f_X0_bitsOf
  rw [if_neg (by decide), if_neg (by decide), a1, pack_1 (nrm_m hb hb2).1 a2 hv]
  rfl
/-- a number that is not 0: its odd part, and where its bits lie -/
theorem okN_V {g : Int32} {o : Int64} {h : Int32} (hk : okN g o h) (h0 : ¬ g = 0) : ∃ b : Nat, o = lN b ∧ 0 < b ∧ b < 9007199254740992 ∧ 0 < Eb b h ∧ Eb b h < 2047 ∧ Vb b h < 9223372036854775808 ∧ (Eb b h : Int) = h.toInt - (53 - bl b : Nat) + 1075 := by
  obtain ⟨b, e, hb, hb2, h3⟩ := okN_nat hk h0
  obtain ⟨k1, k2, k3, k4, k5, k6, k7, k8⟩ := hk
  have hl : bl b ≤ 53 := bl_le.mpr (by omega)
  have hl0 := bl_pos hb
  have hE : h.toInt - (53 - bl b : Nat) ≤ 948 := by
    by_cases c : 1 < b
    · obtain ⟨h4, h5⟩ := h3 c
      rcases Nat.lt_or_ge h.toInt.toNat 212 with z | z
      · omega
      · exfalso
        have h6 : 3 ^ 212 ≤ 3 ^ h.toInt.toNat := Nat.pow_le_pow_right (by decide) z
        have h7 : b ^ 4 ≤ 9007199254740992 ^ 4 := Nat.pow_le_pow_left (by omega) 4
        have h8 : 9007199254740992 ^ 4 < 3 ^ 212 := by decide
        omega
    · have e1 : b = 1 := by omega
      rw [e1, bl_1]
      omega
  have hEe : (Eb b h : Int) = h.toInt - (53 - bl b : Nat) + 1075 := by
    unfold Eb
    omega
  have hm := (nrm_m hb hb2).2
  refine ⟨b, e, hb, hb2, by omega, by omega, ?_, hEe⟩
  unfold Vb
  have : Eb b h ≤ 2023 := by omega
  omega
theorem okN_0' {g : Int32} {o : Int64} {h : Int32} (hk : okN g o h) (h0 : g = 0) : o = 0 ∧ h = 0 := by
  obtain ⟨k1, k2, k3, k4, k5, k6, k7, k8⟩ := hk
  exact ⟨k2.mp h0, k5 (k2.mp h0)⟩
/-- the bits of a number, on both sides -/
theorem bits_ag {g : Int32} {o : Int64} {h : Int32} (hk : okN g o h) : (if (0 : Int32) ≤ g then f_X1_bitsOf o h else f_X1_bitsOf o h ||| (-9223372036854775808)) = f_X0_bitsOf g o h := by
  have hk0 := hk
  obtain ⟨k1, k2, k3, k4, k5, k6, k7, k8⟩ := hk0
  by_cases c : g = 0
  · obtain ⟨e1, e2⟩ := okN_0' hk c
    subst e1
    subst e2
    subst c
    decide
  · obtain ⟨b, rfl, hb, hb2, hE0, hE, hV, -⟩ := okN_V hk c
    rw [b1_v hb hb2 (by omega) (by omega)]
    rcases k1 with rfl | rfl | rfl
    · rw [if_neg (by decide), Vb_neg hb hb2 (by omega) (by omega) hV, or_63 hV]
    · exact absurd rfl c
    · rw [if_pos (by decide), Vb_eq hb hb2 (by omega) (by omega)]
theorem ag_bits {S : pS} {T : pT} (hR : rel S T) (o : Nat → Int64) (p0 : Int32) : agL (wrL [1] S o (f_X0_bits S p0)) (f_X1_bits T p0) := by
  unfold f_X0_bits f_X1_bits
  rcases slot_c p0 with ⟨h, e0, e1⟩ | ⟨e0, e1⟩
  · rw [e0, e1, no_1]
    dsimp only
    rw [if_pos (show (0 : Int32) = 0 from rfl), show sgT (thS T 0) = sgS S from hR.1.symm, show odT (thS T 0) = odS S from hR.2.1.symm, show shT (thS T 0) = shS S from hR.2.2.1.symm]
    have hb := bits_ag (hR.2.2.2.1 p0.toNatClampNeg)
    by_cases c : (0 : Int32) ≤ sgS S p0.toNatClampNeg
    · rw [if_pos c] at hb ⊢
      exact agL_ok (rel_th hR 0) o _ rfl hb.symm
    · rw [if_neg c] at hb ⊢
      exact agL_ok (rel_th hR 0) o _ rfl hb.symm
  · rw [e0, e1, no_0]
    exact agL_er (rel_th hR 1) o _ 1 rfl (by decide)

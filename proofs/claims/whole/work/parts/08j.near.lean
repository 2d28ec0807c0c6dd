/-! near numbers -/
theorem sD (k : Nat) (hk : k < 64) : (((nI k).toInt64 &&& 63 : Int64).toBitVec.smod 64).toNat = k := by
  have hall : ∀ j, j < 64 → (((nI j).toInt64 &&& 63 : Int64).toBitVec.smod 64).toNat = j := by decide +kernel
  exact hall k hk
theorem wb_sar {a k : Nat} (ha : a < 2 ^ 62) (hk : k < 64) : lN a >>> ((nI k).toInt64 &&& 63) = lN (a / 2 ^ k) := pf_shr (sD k hk) ha
def nearX (o : Int64) (h : Int32) : Int32 := if h < 0 then 0 else if 53 < f_X1_lengthOf o + h then 0 else 1
theorem near_c {g : Int32} {o : Int64} {h : Int32} (hk : okN g o h) : ((∃ b s : Nat, o = lN b ∧ h = nI s ∧ s ≤ 52 ∧ b * 2 ^ s < 9007199254740992 ∧ (g = 0 ↔ b = 0)) ∧ f_X0_isNear o h = 1 ∧ nearX o h = 1) ∨ (f_X0_isNear o h = 0 ∧ nearX o h = 0) := by
  obtain ⟨k1, k2, k3, k4, k5, k6, k7, k8⟩ := hk
  unfold f_X0_isNear nearX
  by_cases c : h < 0
  · rw [if_pos c, if_pos c]; exact Or.inr ⟨rfl, rfl⟩
  · rw [if_neg c, if_neg c]
    have ch : 0 ≤ h.toInt := by rw [fa_lt, i0] at c; omega
    obtain ⟨hs, es⟩ := nI_of' ch
    obtain ⟨hb, eb⟩ := lN_of k3
    generalize hss : h.toInt.toNat = s at hs es
    generalize hbb : o.toInt.toNat = b at hb eb
    have hb53 : b < 9007199254740992 := by omega
    have hs1 : s ≤ 1000 := by omega
    have hbl : bl b ≤ 53 := bl_le.mpr (by omega)
    have h0 : o = 0 ↔ b = 0 := by rw [eb, show (0 : Int64) = lN 0 from rfl, lNeq hb (by decide)]
    subst es; subst eb
    rw [len_eq hb, nI_add]
    by_cases c2 : 52 < s
    · have c3 : (52 : Int32) < nI s := nI_lt (a := 52) c2 hs
      have hb0 : ¬ b = 0 := fun z => by
        have h9 := k5 (h0.mpr z)
        rw [show (0 : Int32) = nI 0 from rfl, nI_eq hs (by decide)] at h9
        omega
      have hb1 : 1 ≤ bl b := bl_gt.mpr (by omega)
      have c4 : (53 : Int32) < nI (bl b + s) := nI_lt (a := 53) (by omega) (by omega)
      rw [if_pos c3, if_pos c4]
      exact Or.inr ⟨rfl, rfl⟩
    · have c3 : ¬ (52 : Int32) < nI s := nI_nlt (a := 52) (b := s) (by omega) (by decide)
      rw [if_neg c3, lim_eq, wb_sar (by decide) (by omega)]
      have hp : 2 ^ (53 - s) * 2 ^ s = 9007199254740992 := by
        rw [← Nat.pow_add, show 53 - s + s = 53 by omega]
      have hps : 0 < 2 ^ s := Nat.pow_pos (by decide)
      have hq : 9007199254740991 / 2 ^ s < 2 ^ 63 := Nat.lt_of_le_of_lt (Nat.div_le_self _ _) (by decide)
      have hd1 : 9007199254740991 / 2 ^ s < b ↔ 9007199254740992 ≤ b * 2 ^ s := by
        rw [Nat.div_lt_iff_lt_mul hps]; omega
      by_cases c4 : b * 2 ^ s < 9007199254740992
      · have c5 : ¬ lN (9007199254740991 / 2 ^ s) < lN b := by rw [lNlt hq hb, hd1]; omega
        have c6 : ¬ (53 : Int32) < nI (bl b + s) := by
          refine nI_nlt (a := 53) (b := bl b + s) ?_ (by decide)
          have h9 : bl b ≤ 53 - s := bl_le.mpr (by
            refine Nat.lt_of_mul_lt_mul_right (a := 2 ^ s) ?_
            rw [hp]; exact c4)
          omega
        rw [if_neg c5, if_neg c6]
        exact Or.inl ⟨⟨b, s, rfl, rfl, by omega, c4, k2.trans h0⟩, rfl, rfl⟩
      · have c5 : lN (9007199254740991 / 2 ^ s) < lN b := by rw [lNlt hq hb, hd1]; omega
        have c6 : (53 : Int32) < nI (bl b + s) := by
          refine nI_lt (a := 53) ?_ (by omega)
          have h9 : 53 - s < bl b := bl_gt.mpr (by
            refine Nat.le_of_mul_le_mul_right (c := 2 ^ s) ?_ hps
            rw [hp]; omega)
          omega
        rw [if_pos c5, if_pos c6]
        exact Or.inr ⟨rfl, rfl⟩
/-- both sides' test of a slot, and the size where it is near -/
theorem near_s {S : pS} {T : pT} (hR : rel S T) (p : Int32) : (∃ z : Nat, z < 9007199254740992 ∧ f_X0_nearSize S p = lN z ∧ f_X1_sizeOf T p = lN z ∧ f_X0_checkNear S p = .ok () ∧ f_X1_isNear T p = 1 ∧ (sgS S p.toNatClampNeg = 0 ↔ z = 0)) ∨ (f_X0_checkNear S p = .error 3 ∧ f_X1_isNear T p = 0) := by
  have hX : f_X1_isNear T p = nearX (odS S p.toNatClampNeg) (shS S p.toNatClampNeg) := by
    unfold f_X1_isNear nearX
    rw [← hR.2.1, ← hR.2.2.1]
  rw [hX]
  unfold f_X0_checkNear f_X0_nearSize f_X1_sizeOf
  rw [← hR.2.1, ← hR.2.2.1]
  rcases near_c (hR.2.2.2.1 p.toNatClampNeg) with ⟨⟨b, s, e1, e2, e3, e4, e5⟩, e6, e7⟩ | ⟨e6, e7⟩
  · rw [e6, e7, if_neg (show ¬ (1 : Int32) = 0 by decide), e1, e2, wb_shl b (by omega)]
    refine Or.inl ⟨b * 2 ^ s, e4, rfl, rfl, rfl, rfl, ?_⟩
    rw [e5]
    have hps : 0 < 2 ^ s := Nat.pow_pos (by decide)
    constructor
    · intro z; rw [z, Nat.zero_mul]
    · intro z
      rcases Nat.mul_eq_zero.mp z with z | z
      · exact z
      · omega
  · rw [e6, e7, if_pos rfl]
    exact Or.inr ⟨rfl, rfl⟩
theorem ag_whole {S : pS} {T : pT} (hR : rel S T) (o : Nat → Int64) (p0 : Int32) : agL (wrL [1, 3] S o (f_X0_whole S p0)) (f_X1_whole T p0) := by
  unfold f_X0_whole f_X1_whole
  rcases slot_c p0 with ⟨h, e0, e1⟩ | ⟨e0, e1⟩
  · rw [e0, e1, no_1]
    dsimp only
    rw [if_pos (show (0 : Int32) = 0 from rfl)]
    rcases near_s (rel_th hR 0) p0 with ⟨z, hz, n1, n2, n3, n4, n5⟩ | ⟨n3, n4⟩
    · rw [n3, n4, no_1]
      dsimp only
      rw [if_pos (show (0 : Int32) = 0 from rfl)]
      refine agL_ok (rel_th hR 0) o _ rfl ?_
      rw [n1, show f_X1_sizeOf (thS (thS T 0) 0) p0 = lN z from n2, show sgT (thS (thS T 0) 0) = sgS S from hR.1.symm]
    · rw [n3, n4, no_0]
      exact agL_er (rel_th hR 2) o _ 3 rfl (by decide)
  · rw [e0, e1, no_0]
    exact agL_er (rel_th hR 1) o _ 1 rfl (by decide)

/-! isNested: a power of a power -/
theorem pS_v (g : Int32) {k : Nat} (hk : k < 2 ^ 31) : f_X0_powerSign g (nI k) = if k = 0 then 1 else if k % 2 = 0 then g * g else g := by
  unfold f_X0_powerSign
  rw [pk_andN (n := k) (m := 1) (by omega) 1 (by decide)]
  by_cases c : k = 0
  · subst c
    rw [if_pos (show nI 0 = 0 from rfl), if_pos rfl]
  · rw [if_neg (nI_ne0 (by omega) hk), if_neg c, show (2 : Nat) ^ 1 = 2 from rfl]
    by_cases c2 : k % 2 = 0
    · rw [if_pos c2, c2, if_pos (show nI 0 = 0 from rfl)]
    · have e : k % 2 = 1 := by omega
      rw [if_neg c2, e, if_neg (show ¬ nI 1 = 0 by decide)]
theorem pS_pS {g : Int32} (hg : g = -1 ∨ g = 0 ∨ g = 1) {e f : Nat} (he : e ≤ 64) (hf : f ≤ 64) : f_X0_powerSign (f_X0_powerSign g (nI e)) (nI f) = f_X0_powerSign g (nI (e * f)) := by
  have hef : e * f ≤ 64 * 64 := Nat.mul_le_mul he hf
  rw [pS_v _ (by omega), pS_v _ (by omega), pS_v _ (by omega)]
  by_cases c1 : e = 0
  · subst c1
    rw [Nat.zero_mul]
    simp
  · by_cases c2 : f = 0
    · subst c2
      rw [Nat.mul_zero]
      simp
    · have c3 : ¬ e * f = 0 := fun z => by
        rcases Nat.mul_eq_zero.mp z with h | h
        · exact c1 h
        · exact c2 h
      rw [if_neg c1, if_neg c2, if_neg c3, Nat.mul_mod]
      have h1 : e % 2 = 0 ∨ e % 2 = 1 := by omega
      have h2 : f % 2 = 0 ∨ f % 2 = 1 := by omega
      rcases h1 with h1 | h1 <;> rcases h2 with h2 | h2 <;> rw [h1, h2] <;> rcases hg with rfl | rfl | rfl <;> decide
theorem told_odd {p : Int32} {k b : Nat} (T : pT) (h1 : -64 ≤ p.toInt) (h2 : p.toInt ≤ 64) (hk : k ≤ 64) (hb : f_X0_oddOf p = lN b) (hb2 : b ≤ 64) (c : f_X0_isTold (f_X0_oddOf p) (f_X0_shiftOf p) (nI k) = 1) : f_X0_powerOdd (f_X0_oddOf p) (nI k) = lN (b ^ k) ∧ b ^ k ≤ 9007199254740991 := by
  have hki : (nI k).toInt = k := nI_toInt (by omega)
  obtain ⟨-, u, t1, t2, t3, t4⟩ := told_ag T (base_ok h1 h2) (e := nI k) (by omega) (by omega) (fun _ => by omega)
  obtain ⟨t5, t6, t7, t8⟩ := t4 c
  have h9 : f_X0_powerOdd (f_X0_oddOf p) (nI k) = pu b k 9007199254740991 := by
    rw [hb]; exact puL (by omega) hk
  rw [h9]
  have h10 := t8.2.2.1
  rw [h9] at h10
  unfold pu at h10 ⊢
  by_cases z : b ^ k ≤ 9007199254740991
  · rw [if_pos z]; exact ⟨rfl, z⟩
  · rw [if_neg z] at h10
    exact absurd h10 (by decide)
theorem nest_bits {p : Int32} {e f : Nat} (T : pT) (h1 : -64 ≤ p.toInt) (h2 : p.toInt ≤ 64) (he : e ≤ 64) (hf : f ≤ 64) (hef : e * f ≤ 64) (c1 : f_X0_isTold (f_X0_oddOf p) (f_X0_shiftOf p) (nI e) = 1) (c2 : f_X0_isTold (f_X0_oddOf p) (f_X0_shiftOf p) (nI (e * f)) = 1) :
    f_X0_bitsOf (f_X0_powerSign (f_X0_powerSign (f_X0_signOf p) (nI e)) (nI f)) (f_X0_powerOdd (f_X0_powerOdd (f_X0_oddOf p) (nI e)) (nI f)) (((f_X0_shiftOf p) * nI e) * nI f) = f_X0_powerBits p (nI (e * f)) := by
  obtain ⟨b, s, b1, b2, b3, b4, b5, b6⟩ := base_sz h1 h2
  obtain ⟨o1, o2⟩ := told_odd T h1 h2 he b1 b5 c1
  obtain ⟨o3, o4⟩ := told_odd T h1 h2 hef b1 b5 c2
  have o5 : f_X0_powerOdd (lN (b ^ e)) (nI f) = lN (b ^ (e * f)) := by
    have h9 : f_X0_powerOdd (lN (b ^ e)) (nI f) = pu (b ^ e) f 9007199254740991 := puL (by omega) hf
    rw [h9]
    unfold pu
    rw [← Nat.pow_mul, if_pos o4]
  unfold f_X0_powerBits
  rw [pS_pS (base_ok h1 h2).1 he hf, o1, o3, o5, Int32.mul_assoc, pk_mul]
theorem ag_isNested {S : pS} {T : pT} (hR : rel S T) (o : Nat → Int64) (p0 : Int32) (p1 : Int32) (p2 : Int32) : agZ (wrZ [2, 5] S o (f_X0_isNested S p0 p1 p2)) (f_X1_isNested T p0 p1 p2) := by
  have hE : g_X1_isNested_34 T p0 p1 p2 = (0, thS T 1) := by
    unfold g_X1_isNested_34 g_X1_isNested_35
    rw [no_0]
    rfl
  have hF : ∀ u : pT, g_X1_isNested_72 (sgT u) (odT u) (shT u) (ksT u) (kgT u) (koT u) (khT u) (kpT u) (psT u) (poT u) (phT u) (thT u) = (0, thS u 2) := by
    intro u
    unfold g_X1_isNested_72 g_X1_isNested_73
    rw [no_0]
    rfl
  unfold f_X0_isNested f_X1_isNested
  rw [hE]
  rcases cbe_c p0 p1 with ⟨h1, h2, h3, h4, e2, e3, e4⟩ | ⟨e2, e3⟩
  · rw [e2, e3, e4, if_neg (show ¬ (1 : Int32) = 0 by decide), if_neg (show ¬ (1 : Int32) = 0 by decide)]
    dsimp only
    rcases range_c p2 0 64 with ⟨h5, h6, e5, e6⟩ | ⟨e5, e6⟩
    · rw [i0] at h5
      rw [p64] at h6
      rw [e5, show f_X1_isExponent p2 = 1 from e6, if_neg (show ¬ (1 : Int32) = 0 by decide)]
      dsimp only
      rcases range_c (p1 * p2) 0 64 with ⟨h7, h8, e7, e8⟩ | ⟨e7, e8⟩
      · rw [p64] at h8
        rw [e7, show f_X1_isExponent (p1 * p2) = 1 from e8, if_neg (show ¬ (1 : Int32) = 0 by decide)]
        dsimp only
        obtain ⟨hk, ek⟩ := nI_of' h3
        generalize hkk : p1.toInt.toNat = e at hk ek
        obtain ⟨hm, em⟩ := nI_of' h5
        generalize hmm : p2.toInt.toNat = f at hm em
        have he : e ≤ 64 := by omega
        have hf : f ≤ 64 := by omega
        subst ek
        subst em
        have hef0 : e * f ≤ 64 * 64 := Nat.mul_le_mul he hf
        rw [pk_mul, nI_toInt (by omega)] at h8
        have hef : e * f ≤ 64 := by omega
        unfold g_X1_isNested_35
        rw [no_1]
        dsimp only
        rw [if_pos (show (0 : Int32) = 0 from rfl), base_told h1 h2]
        obtain ⟨hc, u, t1, t2, t3, t4⟩ := told_ag (thS T 0) (base_ok h1 h2) (e := nI e) (by omega) h4 (fun _ => h3)
        rw [t1]
        dsimp only
        unfold f_X0_checkTold
        rcases hc with c | c
        · rw [c, if_pos (show (0 : Int32) = 0 from rfl), if_pos (show (0 : Int32) = 0 from rfl), hF]
          exact agZ_er (rel_th (rel_keep (rel_th hR 0) t2) 2) o _ 5 rfl (by decide)
        · rw [c, if_neg (show ¬ (1 : Int32) = 0 by decide), if_neg (show ¬ (1 : Int32) = 0 by decide), base_told h1 h2, pk_mul]
          dsimp only
          obtain ⟨hc2, u2, t5, t6, t7, t8⟩ := told_ag u (base_ok h1 h2) (e := nI (e * f)) (by rw [nI_toInt (by omega)]; omega) (by rw [nI_toInt (by omega)]; omega) (fun _ => by rw [nI_toInt (by omega)]; omega)
          rw [t5]
          dsimp only
          have hR2 := rel_keep (rel_keep (rel_th hR 0) t2) t6
          rcases hc2 with c2 | c2
          · rw [c2, if_pos (show (0 : Int32) = 0 from rfl), if_pos (show (0 : Int32) = 0 from rfl), hF]
            exact agZ_er (rel_th hR2 2) o _ 5 rfl (by decide)
          · rw [c2, if_neg (show ¬ (1 : Int32) = 0 by decide), if_neg (show ¬ (1 : Int32) = 0 by decide)]
            dsimp only
            unfold g_X0_isNested_80n g_X1_isNested_73
            rw [nest_bits T h1 h2 he hf hef c c2, pk_mul, if_pos rfl, no_1]
            dsimp only
            rw [if_pos (show (0 : Int32) = 0 from rfl)]
            exact agZ_ok (rel_th hR2 0) o _ rfl Iff.rfl
      · rw [e7, show f_X1_isExponent (p1 * p2) = 0 from e8, if_pos (show (0 : Int32) = 0 from rfl)]
        exact agZ_er (rel_th hR 1) o _ 2 rfl (by decide)
    · rw [e5, show f_X1_isExponent p2 = 0 from e6, if_pos (show (0 : Int32) = 0 from rfl)]
      exact agZ_er (rel_th hR 1) o _ 2 rfl (by decide)
  · rw [e2]
    rcases e3 with e3 | ⟨e3, e4⟩
    · rw [e3, if_pos (show (0 : Int32) = 0 from rfl)]
      exact agZ_er (rel_th hR 1) o _ 2 rfl (by decide)
    · rw [e3, e4, if_neg (show ¬ (1 : Int32) = 0 by decide), if_pos (show (0 : Int32) = 0 from rfl)]
      exact agZ_er (rel_th hR 1) o _ 2 rfl (by decide)

/-! twoTo, copy, undo -/
theorem ag_twoTo {S : pS} {T : pT} (hR : rel S T) (o : Nat → Int64) (p0 : Int32) (p1 : Int32) : agI (wrM [1, 2] S o (f_X0_twoTo S p0 p1)) (f_X1_twoTo T p0 p1) := by
  unfold f_X0_twoTo f_X1_twoTo
  rcases slot_c p0 with ⟨h, e0, e1⟩ | ⟨e0, e1⟩
  · rw [e0, e1, no_1]
    dsimp only
    rw [if_pos (show (0 : Int32) = 0 from rfl)]
    rcases range_c p1 (-1000) 1000 with ⟨h1, h2, e2, e3⟩ | ⟨e2, e3⟩
    · rw [e2, e3, no_1]
      dsimp only
      rw [if_pos (show (0 : Int32) = 0 from rfl)]
      have hok : okN 1 1 p1 := ⟨Or.inr (Or.inr rfl), ⟨fun z => absurd z (by decide), fun z => absurd z (by decide)⟩, by decide, by decide, fun z => absurd z (by decide), h1, h2, fun z => absurd z (by decide)⟩
      obtain ⟨S', T', f0, f1, hr, ht⟩ := become_rel (rel_th hR 0) h hok
      rw [f0, f1]
      exact agM_ok hr _ o _ ht rfl
    · rw [e2, e3, no_0]
      exact agM_er (rel_th hR 2) o _ 2 rfl (by decide)
  · rw [e0, e1, no_0]
    exact agM_er (rel_th hR 1) o _ 1 rfl (by decide)
theorem ag_copy {S : pS} {T : pT} (hR : rel S T) (o : Nat → Int64) (p0 : Int32) (p1 : Int32) : agI (wrM [1] S o (f_X0_copy S p0 p1)) (f_X1_copy T p0 p1) := by
  unfold f_X0_copy f_X1_copy
  rcases slot_c p0 with ⟨h, e0, e1⟩ | ⟨e0, e1⟩
  · rw [e0, e1, if_neg (show ¬ (1 : Int32) = 0 by decide)]
    dsimp only
    rcases slot_c p1 with ⟨h2, e2, e3⟩ | ⟨e2, e3⟩
    · rw [e2, e3, if_neg (show ¬ (1 : Int32) = 0 by decide), no_1]
      dsimp only
      rw [if_pos (show (0 : Int32) = 0 from rfl)]
      obtain ⟨S', T', f0, f1, hr, ht⟩ := become_rel (rel_th hR 0) h2 (hR.2.2.2.1 p0.toNatClampNeg)
      have f1' : f_X1_become (thS T 0) p1 (sgT (thS T 0) p0.toNatClampNeg) (odT (thS T 0) p0.toNatClampNeg) (shT (thS T 0) p0.toNatClampNeg) = (shS S p0.toNatClampNeg, T') := by
        rw [← f1, show sgT (thS T 0) = sgS S from hR.1.symm, show odT (thS T 0) = odS S from hR.2.1.symm, show shT (thS T 0) = shS S from hR.2.2.1.symm]
      rw [f0, f1']
      exact agM_ok hr _ o _ ht rfl
    · rw [e2, e3, if_pos (show (0 : Int32) = 0 from rfl), no_0]
      exact agM_er (rel_th hR 1) o _ 1 rfl (by decide)
  · rw [e0, e1, if_pos (show (0 : Int32) = 0 from rfl), no_0]
    exact agM_er (rel_th hR 1) o _ 1 rfl (by decide)
theorem ag_undo {S : pS} {T : pT} (hR : rel S T) (o : Nat → Int64) : agI (wrM [6] S o (f_X0_undo S)) (f_X1_undo T) := by
  have h := hR
  obtain ⟨r1, r2, r3, r4, r5, r6, r7, r8, r9, r10, r11⟩ := h
  obtain ⟨n, hn, en⟩ := vp_in_of r7 (by decide)
  obtain ⟨hk1, hk2⟩ := r9
  obtain ⟨hk3, ek⟩ := nI_of' hk1
  generalize hkk : (kpT T).toInt.toNat = k at hk3 ek
  have hk8 : k ≤ 8 := by omega
  have ec : cnS S = nI k := r8.trans ek
  unfold f_X0_undo f_X1_undo
  by_cases c0 : k = 0
  · subst c0
    rw [if_pos (show cnS S = 0 from ec), if_pos (show kpT T ≤ 0 by rw [ek]; decide), no_0]
    exact agM_er (rel_th hR 1) o _ 6 rfl (by decide)
  · have c1 : ¬ cnS S = 0 := by rw [ec]; exact nI_ne0 (by omega) (by omega)
    have c2 : ¬ kpT T ≤ 0 := by rw [ek]; exact nI_nle (by omega) (by omega)
    rw [if_neg c1, if_neg c2, no_1]
    dsimp only
    rw [if_pos (show (0 : Int32) = 0 from rfl)]
    have hrg : ∀ j, rgI S j = (n + 8 - k + j) % 8 := fun j => by
      unfold rgI
      rw [en, ec, nIt (by omega), nIt (by omega)]
    have r11 : ∀ j, j < k → ksT T j = ksS S ((n + 8 - k + j) % 8) ∧ kgT T j = kgS S ((n + 8 - k + j) % 8) ∧ koT T j = koS S ((n + 8 - k + j) % 8) ∧ khT T j = khS S ((n + 8 - k + j) % 8) := fun j hj => by
      have h9 := r11 j (by rw [ec, nIt (by omega)]; exact hj)
      rw [hrg j] at h9
      exact h9
    obtain ⟨q, rfl⟩ : ∃ q, k = q + 1 := ⟨k - 1, by omega⟩
    have eq1 : (kpT T - 1 : Int32) = nI q := by rw [ek, nI_pred]
    have h9 := r11 q (by omega)
    rw [show (n + 8 - (q + 1) + q) % 8 = (n + 7) % 8 by omega] at h9
    obtain ⟨g1, g2, g3, g4⟩ := h9
    have hm : (n + 7) % 8 < 8 := Nat.mod_lt _ (by decide)
    rw [en, prv8 hn, nI_clamp (n := (n + 7) % 8) (by omega)]
    unfold g_X0_undo_52n
    rw [en, prv8 hn, nI_clamp (n := (n + 7) % 8) (by omega)]
    show agI _ (ksT T (kpT T - 1).toNatClampNeg, ((upd (sgT T) (ksT T (kpT T - 1).toNatClampNeg).toNatClampNeg (kgT T (kpT T - 1).toNatClampNeg)), (vp_updL (odT T) (ksT T (kpT T - 1).toNatClampNeg).toNatClampNeg (koT T (kpT T - 1).toNatClampNeg)), (upd (shT T) (ksT T (kpT T - 1).toNatClampNeg).toNatClampNeg (khT T (kpT T - 1).toNatClampNeg)), ksT T, kgT T, koT T, khT T, kpT T - 1, psT T, poT T, phT T, (0 : Int32)))
    rw [eq1, nI_clamp (n := q) (by omega), g1, g2, g3, g4]
    refine agM_ok ?_ _ o _ rfl rfl
    refine ⟨?_, ?_, ?_, okN_upd r4 _ (r5 _), r5, r6, vp_in_iff.mpr ?_, ?_, ⟨?_, ?_⟩, r10, ?_⟩
    · show upd (sgS S) _ _ = upd (sgT T) _ _; rw [r1]
    · show vp_updL (odS S) _ _ = vp_updL (odT T) _ _; rw [r2]
    · show upd (shS S) _ _ = upd (shT T) _ _; rw [r3]
    · show 0 ≤ (nI ((n + 7) % 8)).toInt ∧ (nI ((n + 7) % 8)).toInt < (8 : Nat)
      rw [nI_toInt (by omega)]; omega
    · show cnS S - 1 = nI q
      rw [ec, nI_pred]
    · show 0 ≤ (nI q).toInt
      rw [nI_toInt (by omega)]; omega
    · show (nI q).toInt ≤ 8
      rw [nI_toInt (by omega)]; omega
    · intro j hj
      have hj : j < q := by
        have h9 : j < (cnS S - 1).toInt.toNat := hj
        rw [ec, nI_pred, nIt (by omega)] at h9; exact h9
      have h9 := r11 j (by omega)
      have hi : ∀ (a b c d e g : Nat → Int32) (f i : Nat → Int64), rgI (a, f, b, c, d, i, e, nI ((n + 7) % 8), cnS S - 1) j = (n + 8 - (q + 1) + j) % 8 := by
        intro a b c d e g f i
        show ((nI ((n + 7) % 8)).toInt.toNat + 8 - (cnS S - 1).toInt.toNat + j) % 8 = _
        rw [ec, nI_pred, nIt (by omega), nIt (by omega)]
        omega
      rw [hi _ _ _ _ _ (fun _ => 0)]
      exact h9

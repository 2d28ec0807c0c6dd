/-! raise -/
theorem raise_go {S : pS} {T : pT} (hR : rel S T) (o : Nat → Int64) {p0 p1 p2 : Int32} (hp2 : vp_in p2 8) (h1 : -64 ≤ p1.toInt) (h2 : p1.toInt ≤ 64) (h0 : sgS S p0.toNatClampNeg = 0 → 0 ≤ p1.toInt) : agI (wrM [1, 2, 3, 4, 5] S o (g_X0_raise_58 S p0 p1 p2)) (g_X1_raise_81 p0 p1 p2 T) := by
  unfold g_X0_raise_58 g_X1_raise_81 g_X1_raise_86
  rw [no_1]
  dsimp only
  rw [if_pos (show (0 : Int32) = 0 from rfl)]
  rw [show sgT (thS T 0) = sgS S from hR.1.symm, show odT (thS T 0) = odS S from hR.2.1.symm, show shT (thS T 0) = shS S from hR.2.2.1.symm]
  obtain ⟨hc, u, t1, t2, t3, t4⟩ := told_ag (thS T 0) (hR.2.2.2.1 p0.toNatClampNeg) (e := p1) h1 h2 h0
  rw [t1]
  dsimp only
  rcases hc with c | c
  · rw [c, if_pos (show (0 : Int32) = 0 from rfl), no_0]
    exact agM_er (rel_th (rel_keep (rel_th hR 0) t2) 5) o _ 5 rfl (by decide)
  · obtain ⟨t5, t6, t7, t8⟩ := t4 c
    rw [c, if_neg (show ¬ (1 : Int32) = 0 by decide), no_1]
    dsimp only
    rw [if_pos (show (0 : Int32) = 0 from rfl)]
    obtain ⟨S', T', f0, f1, hr, ht⟩ := become_rel (rel_th (rel_keep (rel_th hR 0) t2) 0) hp2 t8
    rw [t5, t6, t7, f0, f1]
    exact agM_ok hr _ o _ ht rfl
theorem ag_raise {S : pS} {T : pT} (hR : rel S T) (o : Nat → Int64) (p0 : Int32) (p1 : Int32) (p2 : Int32) : agI (wrM [1, 2, 3, 4, 5] S o (f_X0_raise S p0 p1 p2)) (f_X1_raise T p0 p1 p2) := by
  unfold f_X0_raise f_X1_raise
  rcases slot_c p0 with ⟨h, e0, e1⟩ | ⟨e0, e1⟩
  · rw [e0, e1, if_neg (show ¬ (1 : Int32) = 0 by decide)]
    dsimp only
    rcases slot_c p2 with ⟨hp2, e2, e3⟩ | ⟨e2, e3⟩
    · rw [e2, e3, if_neg (show ¬ (1 : Int32) = 0 by decide), no_1]
      dsimp only
      rw [if_pos (show (0 : Int32) = 0 from rfl)]
      rcases range_c p1 (-64) 64 with ⟨h1, h2, e4, e5⟩ | ⟨e4, e5⟩
      · rw [m64] at h1
        rw [p64] at h2
        rw [e4, e5, no_1]
        dsimp only
        rw [if_pos (show (0 : Int32) = 0 from rfl), show shT (thS (thS T 0) 0) = shS S from hR.2.2.1.symm]
        unfold g_X1_raise_58
        by_cases c : shS S p0.toNatClampNeg < 0
        · have c2 : ¬ (0 : Int32) ≤ shS S p0.toNatClampNeg := fun z => by
            rw [fa_lt] at c
            rw [fa_le] at z
            omega
          rw [if_pos c, if_neg c2, no_0]
          exact agM_er (rel_th hR 3) o _ 3 rfl (by decide)
        · have c2 : (0 : Int32) ≤ shS S p0.toNatClampNeg := by
            rw [fa_lt] at c
            rw [fa_le]
            omega
          rw [if_neg c, if_pos c2, no_1]
          dsimp only
          rw [if_pos (show (0 : Int32) = 0 from rfl), show sgT (thS (thS (thS T 0) 0) 0) = sgS S from hR.1.symm]
          by_cases c3 : sgS S p0.toNatClampNeg = 0
          · rw [if_pos c3, if_pos c3]
            by_cases c4 : p1 < 0
            · have c5 : ¬ (0 : Int32) ≤ p1 := fun z => by
                rw [fa_lt] at c4
                rw [fa_le] at z
                omega
              rw [if_pos c4, if_neg c5]
              unfold g_X1_raise_86
              rw [no_0]
              exact agM_er (rel_th hR 4) o _ 4 rfl (by decide)
            · have c5 : (0 : Int32) ≤ p1 := by
                rw [fa_lt] at c4
                rw [fa_le]
                omega
              rw [if_neg c4, if_pos c5]
              exact raise_go (rel_th hR 0) o hp2 h1 h2 (fun _ => by rw [fa_le, i0] at c5; exact c5)
          · rw [if_neg c3, if_neg c3]
            exact raise_go (rel_th hR 0) o hp2 h1 h2 (fun z => absurd z c3)
      · rw [e4, e5, no_0]
        exact agM_er (rel_th hR 2) o _ 2 rfl (by decide)
    · rw [e2, e3, if_pos (show (0 : Int32) = 0 from rfl), no_0]
      exact agM_er (rel_th hR 1) o _ 1 rfl (by decide)
  · rw [e0, e1, if_pos (show (0 : Int32) = 0 from rfl), no_0]
    exact agM_er (rel_th hR 1) o _ 1 rfl (by decide)

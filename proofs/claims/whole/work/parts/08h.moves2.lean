/-! put, power, raise -/
theorem base_1 {p : Int32} (h1 : -64 ≤ p.toInt) (h2 : p.toInt ≤ 64) : f_X0_isTold (f_X0_oddOf p) (f_X0_shiftOf p) 1 = 1 ∧ f_X0_powerSign (f_X0_signOf p) 1 = f_X0_signOf p ∧ f_X0_powerOdd (f_X0_oddOf p) 1 = f_X0_oddOf p ∧ f_X0_shiftOf p * 1 = f_X0_shiftOf p := by
  obtain ⟨k, hk, rfl⟩ := base_of h1 h2
  exact bk k hk (fun p => f_X0_isTold (f_X0_oddOf p) (f_X0_shiftOf p) 1 = 1 ∧ f_X0_powerSign (f_X0_signOf p) 1 = f_X0_signOf p ∧ f_X0_powerOdd (f_X0_oddOf p) 1 = f_X0_oddOf p ∧ f_X0_shiftOf p * 1 = f_X0_shiftOf p) (by decide +kernel)
theorem m64 : ((-64 : Int32)).toInt = -64 := by decide
theorem p64 : ((64 : Int32)).toInt = 64 := by decide
theorem ag_put {S : pS} {T : pT} (hR : rel S T) (o : Nat → Int64) (p0 : Int32) (p1 : Int32) : agI (wrM [1, 2] S o (f_X0_put S p0 p1)) (f_X1_put T p0 p1) := by
  unfold f_X0_put f_X1_put f_X1_isBase
  rcases slot_c p0 with ⟨h, e0, e1⟩ | ⟨e0, e1⟩
  · rw [e0, e1, no_1]
    dsimp only
    rw [if_pos (show (0 : Int32) = 0 from rfl)]
    rcases range_c p1 (-64) 64 with ⟨h1, h2, e2, e3⟩ | ⟨e2, e3⟩
    · rw [m64] at h1
      rw [p64] at h2
      rw [e2, e3, no_1]
      dsimp only
      rw [if_pos (show (0 : Int32) = 0 from rfl), base_told h1 h2]
      obtain ⟨b1, b2, b3, b4⟩ := base_1 h1 h2
      obtain ⟨-, u, t1, t2, t3, t4⟩ := told_ag (thS (thS T 0) 0) (base_ok h1 h2) (e := 1) (by decide) (by decide) (fun _ => by decide)
      obtain ⟨t5, t6, t7, t8⟩ := t4 b1
      rw [b2, b3, b4] at t8
      rw [b2] at t5
      rw [b3] at t6
      rw [b4] at t7
      obtain ⟨S', T', f0, f1, hr, ht⟩ := become_rel (rel_keep (rel_th hR 0) t2) h t8
      rw [t1]
      dsimp only
      rw [t5, t6, t7, f0, f1]
      exact agM_ok hr _ o _ (ht.trans t3) rfl
    · rw [e2, e3, no_0]
      exact agM_er (rel_th hR 2) o _ 2 rfl (by decide)
  · rw [e0, e1, no_0]
    exact agM_er (rel_th hR 1) o _ 1 rfl (by decide)
theorem cbe_c (a b : Int32) : (-64 ≤ a.toInt ∧ a.toInt ≤ 64 ∧ 0 ≤ b.toInt ∧ b.toInt ≤ 64 ∧ f_X0_checkBaseAndExponent a b = .ok () ∧ f_X1_isBase a = 1 ∧ f_X1_isExponent b = 1) ∨ (f_X0_checkBaseAndExponent a b = .error 2 ∧ (f_X1_isBase a = 0 ∨ f_X1_isBase a = 1 ∧ f_X1_isExponent b = 0)) := by
  unfold f_X0_checkBaseAndExponent f_X1_isBase f_X1_isExponent
  rcases range_c a (-64) 64 with ⟨h1, h2, e2, e3⟩ | ⟨e2, e3⟩
  · rw [e2, e3]
    rcases range_c b 0 64 with ⟨h3, h4, e4, e5⟩ | ⟨e4, e5⟩
    · rw [e4, e5]
      rw [m64] at h1
      rw [p64] at h2 h4
      exact Or.inl ⟨h1, h2, h3, h4, rfl, rfl, rfl⟩
    · rw [e4, e5]
      exact Or.inr ⟨rfl, Or.inr ⟨rfl, rfl⟩⟩
  · rw [e2, e3]
    exact Or.inr ⟨rfl, Or.inl rfl⟩
theorem ag_power {S : pS} {T : pT} (hR : rel S T) (o : Nat → Int64) (p0 : Int32) (p1 : Int32) (p2 : Int32) : agI (wrM [1, 2, 5] S o (f_X0_power S p0 p1 p2)) (f_X1_power T p0 p1 p2) := by
  unfold f_X0_power f_X1_power
  rcases slot_c p0 with ⟨h, e0, e1⟩ | ⟨e0, e1⟩
  · rw [e0, e1, no_1]
    dsimp only
    rw [if_pos (show (0 : Int32) = 0 from rfl)]
    rcases cbe_c p1 p2 with ⟨h1, h2, h3, h4, e2, e3, e4⟩ | ⟨e2, e3⟩
    · rw [e2, e3, e4, if_neg (show ¬ (1 : Int32) = 0 by decide), if_neg (show ¬ (1 : Int32) = 0 by decide)]
      unfold g_X1_power_32
      rw [no_1]
      dsimp only
      rw [if_pos (show (0 : Int32) = 0 from rfl), base_told h1 h2]
      obtain ⟨hc, u, t1, t2, t3, t4⟩ := told_ag (thS (thS T 0) 0) (base_ok h1 h2) (e := p2) (by omega) h4 (fun _ => h3)
      rw [t1]
      unfold f_X0_checkTold
      rcases hc with c | c
      · rw [c, if_pos (show (0 : Int32) = 0 from rfl)]
        dsimp only
        rw [no_0]
        exact agM_er (rel_th (rel_keep (rel_th hR 0) t2) 3) o _ 5 rfl (by decide)
      · obtain ⟨t5, t6, t7, t8⟩ := t4 c
        rw [c, if_neg (show ¬ (1 : Int32) = 0 by decide)]
        dsimp only
        rw [no_1]
        dsimp only
        rw [if_pos (show (0 : Int32) = 0 from rfl)]
        obtain ⟨S', T', f0, f1, hr, ht⟩ := become_rel (rel_th (rel_keep (rel_th hR 0) t2) 0) h t8
        rw [t5, t6, t7, f0, f1]
        exact agM_ok hr _ o _ ht rfl
    · rw [e2]
      have hz : (if f_X1_isBase p1 = 0 then g_X1_power_31 p0 p1 p2 (thS T 0) else if f_X1_isExponent p2 = 0 then g_X1_power_31 p0 p1 p2 (thS T 0) else g_X1_power_32 p0 p1 p2 (thS T 0) 1) = (0, thS (thS T 0) 2) := by
        have h9 : g_X1_power_31 p0 p1 p2 (thS T 0) = (0, thS (thS T 0) 2) := by
          unfold g_X1_power_31 g_X1_power_32
          rw [no_0]
          rfl
        rcases e3 with e3 | ⟨e3, e4⟩
        · rw [e3, if_pos rfl, h9]
        · rw [e3, e4, if_neg (by decide), if_pos rfl, h9]
      rw [hz]
      exact agM_er (rel_th hR 2) o _ 2 rfl (by decide)
  · rw [e0, e1, no_0]
    exact agM_er (rel_th hR 1) o _ 1 rfl (by decide)

/-! put, power, raise -/
theorem base_1 {p : Int32} (h1 : -64 ≤ p.toInt) (h2 : p.toInt ≤ 64) : f_X0_isTold (f_X0_oddOf p) (f_X0_shiftOf p) 1 = 1 ∧ f_X0_powerSign (f_X0_signOf p) 1 = f_X0_signOf p ∧ f_X0_powerOdd (f_X0_oddOf p) 1 = f_X0_oddOf p ∧ f_X0_shiftOf p * 1 = f_X0_shiftOf p := by
  obtain ⟨k, hk, rfl⟩ := base_of h1 h2
  exact bk k hk (fun p => f_X0_isTold (f_X0_oddOf p) (f_X0_shiftOf p) 1 = 1 ∧ f_X0_powerSign (f_X0_signOf p) 1 = f_X0_signOf p ∧ f_X0_powerOdd (f_X0_oddOf p) 1 = f_X0_oddOf p ∧ f_X0_shiftOf p * 1 = f_X0_shiftOf p) (by decide +kernel)
theorem m64 : ((-64 : Int32)).toInt = -64 := by decide
theorem p64 : ((64 : Int32)).toInt = 64 := by decide
theorem ag_put {S : pS} {T : pT} (hR : rel S T) (o : Nat → Int64) (p0 : Int32) (p1 : Int32) : agI (wrM [1, 2] S o (f_X0_put S p0 p1)) (f_X1_put T p0 p1) := by
  unfold f_X0_put f_X1_put f_X1_isBase
  rcases slot_c p0 with ⟨h, e0, e1⟩ | ⟨e0, e1⟩
  · rw [e0, e1, no_1]
    dsimp only
    rw [if_pos (show (0 : Int32) = 0 from rfl)]
    rcases range_c p1 (-64) 64 with ⟨h1, h2, e2, e3⟩ | ⟨e2, e3⟩
    · rw [m64] at h1
      rw [p64] at h2
      rw [e2, e3, no_1]
      dsimp only
      rw [if_pos (show (0 : Int32) = 0 from rfl), base_told h1 h2]
      obtain ⟨b1, b2, b3, b4⟩ := base_1 h1 h2
      obtain ⟨-, u, t1, t2, t3, t4⟩ := told_ag (thS (thS T 0) 0) (base_ok h1 h2) (e := 1) (by decide) (by decide) (fun _ => by decide)
      obtain ⟨t5, t6, t7, t8⟩ := t4 b1
      rw [b2, b3, b4] at t8
      rw [b2] at t5
      rw [b3] at t6
      rw [b4] at t7
      obtain ⟨S', T', f0, f1, hr, ht⟩ := become_rel (rel_keep (rel_th hR 0) t2) h t8
      rw [t1]
      dsimp only
      rw [t5, t6, t7, f0, f1]
      exact agM_ok hr _ o _ (ht.trans t3) rfl
    · rw [e2, e3, no_0]
      exact agM_er (rel_th hR 2) o _ 2 rfl (by decide)
  · rw [e0, e1, no_0]
    exact agM_er (rel_th hR 1) o _ 1 rfl (by decide)

theorem ag_put {S : pS} {T : pT} (hR : rel S T) (o : Nat → Int64) (p0 : Int32) (p1 : Int32) : agI (wrM [1, 2] S o (f_X0_put S p0 p1)) (f_X1_put T p0 p1) := by
  sorry

theorem ag_power {S : pS} {T : pT} (hR : rel S T) (o : Nat → Int64) (p0 : Int32) (p1 : Int32) (p2 : Int32) : agI (wrM [1, 2, 5] S o (f_X0_power S p0 p1 p2)) (f_X1_power T p0 p1 p2) := by
  sorry

theorem ag_twoTo {S : pS} {T : pT} (hR : rel S T) (o : Nat → Int64) (p0 : Int32) (p1 : Int32) : agI (wrM [1, 2] S o (f_X0_twoTo S p0 p1)) (f_X1_twoTo T p0 p1) := by
  sorry

theorem ag_raise {S : pS} {T : pT} (hR : rel S T) (o : Nat → Int64) (p0 : Int32) (p1 : Int32) (p2 : Int32) : agI (wrM [1, 2, 3, 4, 5] S o (f_X0_raise S p0 p1 p2)) (f_X1_raise T p0 p1 p2) := by
  sorry

theorem ag_copy {S : pS} {T : pT} (hR : rel S T) (o : Nat → Int64) (p0 : Int32) (p1 : Int32) : agI (wrM [1] S o (f_X0_copy S p0 p1)) (f_X1_copy T p0 p1) := by
  sorry

theorem ag_undo {S : pS} {T : pT} (hR : rel S T) (o : Nat → Int64) : agI (wrM [6] S o (f_X0_undo S)) (f_X1_undo T) := by
  sorry

theorem ag_sign {S : pS} {T : pT} (hR : rel S T) (o : Nat → Int64) (p0 : Int32) : agI (wrI [1] S o (f_X0_sign S p0)) (f_X1_sign T p0) := by
  sorry

theorem ag_odd {S : pS} {T : pT} (hR : rel S T) (o : Nat → Int64) (p0 : Int32) : agL (wrL [1] S o (f_X0_odd S p0)) (f_X1_odd T p0) := by
  sorry

theorem ag_shift {S : pS} {T : pT} (hR : rel S T) (o : Nat → Int64) (p0 : Int32) : agI (wrI [1] S o (f_X0_shift S p0)) (f_X1_shift T p0) := by
  sorry

theorem ag_bits {S : pS} {T : pT} (hR : rel S T) (o : Nat → Int64) (p0 : Int32) : agL (wrL [1] S o (f_X0_bits S p0)) (f_X1_bits T p0) := by
  sorry

theorem ag_isWhole {S : pS} {T : pT} (hR : rel S T) (o : Nat → Int64) (p0 : Int32) : agZ (wrZ [1] S o (f_X0_isWhole S p0)) (f_X1_isWhole T p0) := by
  sorry

theorem ag_whole {S : pS} {T : pT} (hR : rel S T) (o : Nat → Int64) (p0 : Int32) : agL (wrL [1, 3] S o (f_X0_whole S p0)) (f_X1_whole T p0) := by
  sorry

theorem ag_compare {S : pS} {T : pT} (hR : rel S T) (o : Nat → Int64) (p0 : Int32) (p1 : Int32) : agI (wrI [1] S o (f_X0_compare S p0 p1)) (f_X1_compare T p0 p1) := by
  sorry

theorem ag_rank {S : pS} {T : pT} (hR : rel S T) (o : Nat → Int64) (p0 : Int32) : agI (wrI [1] S o (f_X0_rank S p0)) (f_X1_rank T p0) := by
  sorry

theorem ag_at {S : pS} {T : pT} (hR : rel S T) (o : Nat → Int64) (p0 : Int32) : agI (wrI [1] S o (f_X0_at S p0)) (f_X1_at T p0) := by
  sorry

theorem ag_log {S : pS} {T : pT} (hR : rel S T) (o : Nat → Int64) (p0 : Int32) (p1 : Int32) : agI (wrI [1, 2, 3, 4] S o (f_X0_log S p0 p1)) (f_X1_log T p0 p1) := by
  sorry

theorem ag_digits {S : pS} {T : pT} (hR : rel S T) (o : Nat → Int64) (p0 : Int32) (p1 : Int32) : agI (wrI [1, 2, 3] S o (f_X0_digits S p0 p1)) (f_X1_digits T p0 p1) := by
  sorry

theorem ag_digit {S : pS} {T : pT} (hR : rel S T) (o : Nat → Int64) (p0 : Int32) (p1 : Int32) (p2 : Int32) : agI (wrI [1, 2, 3] S o (f_X0_digit S p0 p1 p2)) (f_X1_digit T p0 p1 p2) := by
  sorry

theorem ag_root {S : pS} {T : pT} (hR : rel S T) (o : Nat → Int64) (p0 : Int32) (p1 : Int32) : agI (wrI [1, 2, 3, 4] S o (f_X0_root S p0 p1)) (f_X1_root T p0 p1) := by
  sorry

theorem ag_sum {S : pS} {T : pT} (hR : rel S T) (o : Nat → Int64) (p0 : Int32) (p1 : Int32) : agL (wrL [2, 5] S o (f_X0_sum S p0 p1)) (f_X1_sum T p0 p1) := by
  sorry

theorem ag_rest {S : pS} {T : pT} (hR : rel S T) (o : Nat → Int64) (p0 : Int32) (p1 : Int32) (p2 : Int32) : agI (wrI [2, 5] S o (f_X0_rest S p0 p1 p2)) (f_X1_rest T p0 p1 p2) := by
  sorry

theorem ag_isFermat {S : pS} {T : pT} (hR : rel S T) (o : Nat → Int64) (p0 : Int32) (p1 : Int32) : agZ (wrZ [2, 5] S o (f_X0_isFermat S p0 p1)) (f_X1_isFermat T p0 p1) := by
  sorry

theorem ag_isChain {S : pS} {T : pT} (hR : rel S T) (o : Nat → Int64) (p0 : Int32) (p1 : Int32) : agZ (wrZ [2, 5] S o (f_X0_isChain S p0 p1)) (f_X1_isChain T p0 p1) := by
  sorry

theorem ag_addsUp {S : pS} {T : pT} (hR : rel S T) (o : Nat → Int64) (p0 : Int32) (p1 : Int32) (p2 : Int32) : agZ (wrZ [2, 5] S o (f_X0_addsUp S p0 p1 p2)) (f_X1_addsUp T p0 p1 p2) := by
  sorry

theorem ag_isNested {S : pS} {T : pT} (hR : rel S T) (o : Nat → Int64) (p0 : Int32) (p1 : Int32) (p2 : Int32) : agZ (wrZ [2, 5] S o (f_X0_isNested S p0 p1 p2)) (f_X1_isNested T p0 p1 p2) := by
  sorry

theorem ag_rootBits {S : pS} {T : pT} (hR : rel S T) (o : Nat → Int64) (p0 : Int32) : agL (wrL [2] S o (f_X0_rootBits S p0)) (f_X1_rootBits T p0) := by
  sorry

theorem ag_isRoot {S : pS} {T : pT} (hR : rel S T) (o : Nat → Int64) (p0 : Int32) : agZ (wrZ [2] S o (f_X0_isRoot S p0)) (f_X1_isRoot T p0) := by
  sorry

theorem ag_rootAt {S : pS} {T : pT} (hR : rel S T) (o : Nat → Int64) (p0 : Int32) (p1 : Int32) : agL (wrL [2] S o (f_X0_rootAt S p0 p1)) (f_X1_rootAt T p0 p1) := by
  sorry

theorem ag_backBits {S : pS} {T : pT} (hR : rel S T) (o : Nat → Int64) (p0 : Int32) : agL (wrL [2] S o (f_X0_backBits S p0)) (f_X1_backBits T p0) := by
  sorry

theorem ag_isBack {S : pS} {T : pT} (hR : rel S T) (o : Nat → Int64) (p0 : Int32) : agZ (wrZ [2] S o (f_X0_isBack S p0)) (f_X1_isBack T p0) := by
  sorry

theorem ag_squareBits {S : pS} {T : pT} (hR : rel S T) (o : Nat → Int64) (p0 : Int32) : agL (wrL [1, 5] S o (f_X0_squareBits S p0)) (f_X1_squareBits T p0) := by
  sorry

theorem ag_isTimes {S : pS} {T : pT} (hR : rel S T) (o : Nat → Int64) (p0 : Int32) : agZ (wrZ [1, 5] S o (f_X0_isTimes S p0)) (f_X1_isTimes T p0) := by
  sorry

theorem ag_isSound {S : pS} {T : pT} (hR : rel S T) : f_X0_isSound S = 1 := by
  sorry

theorem nn_addsUp (p0 p1 p2 : Int32) : ∀ (u1 u2 u3 u4 : Unit), f_X0_checkBaseAndExponent p0 p1 = .ok u1 → f_X0_checkRange p2 0 64 = .ok u2 → f_X0_checkRange (p1 + p2) 0 64 = .ok u3 → f_X0_checkTold p0 (p1 + p2) = .ok u4 → FP.Core.val64 (FP.dmul (f_X0_powerAsDouble p0 p1) (f_X0_powerAsDouble p0 p2)) ≠ .nan := by
  sorry

/-! squares: the double nearest to one, on both sides -/
def rnd (q r w : Nat) : Nat := if 2 ^ (w - 1) < r then q + 1 else if r = 2 ^ (w - 1) then (if q % 2 = 1 then q + 1 else q) else q
theorem rnd_c (q r w : Nat) : rnd q r w = q ∨ rnd q r w = q + 1 := by
  unfold rnd
  repeat' split
  all_goals first | exact Or.inl rfl | exact Or.inr rfl
theorem two_w {w : Nat} (h1 : w = 52 ∨ w = 53) : (2 ^ w = 4503599627370496 ∨ 2 ^ w = 9007199254740992) ∧ 2 ^ (w - 1) < 9007199254740992 ∧ 2 ^ (w - 1) * 2 = 2 ^ w := by
  rcases h1 with rfl | rfl <;> decide
theorem lNsh (k : Nat) (hk : k < 64) : ((1 : Int64) <<< (((nI k) : Int32).toInt64 &&& 63)) = lN (2 ^ k) := by
  rw [lN1, wb_shl 1 hk, Nat.one_mul]
theorem sq45 (p0 : Int64) (p1 : Int32) {H Lo w : Nat} (hw : w = 52 ∨ w = 53) (hH : H < 4503599627370496) (hLo : Lo < 18014398509481984) : g_X0_nearestSquareBits_45 p0 p1 (lN H) (lN Lo) (nI w) = g_X0_nearestSquareBits_113 p0 p1 (nI w) (lN (rnd (H * 2 ^ (54 - w) + Lo / 2 ^ w) (Lo % 2 ^ w) w)) := by
  obtain ⟨t1, t2, t3⟩ := two_w hw
  have hp : H * 2 ^ (54 - w) + Lo / 2 ^ w < 36028797018963968 := by
    rcases hw with rfl | rfl
    · rw [show 2 ^ (54 - 52) = 4 from rfl, show 2 ^ 52 = 4503599627370496 from rfl]; omega
    · rw [show 2 ^ (54 - 53) = 2 from rfl, show 2 ^ 53 = 9007199254740992 from rfl]; omega
  have hm : Lo % 2 ^ w < 2 ^ w := Nat.mod_lt _ (Nat.two_pow_pos _)
  unfold g_X0_nearestSquareBits_45 g_X0_nearestSquareBits_61n
  rw [show (54 : Int32) = nI 54 from rfl, pk_sub (by omega), wb_shl H (by omega), wb_sar (a := Lo) (k := w) (by omega) (by omega), lN_add, show (nI w - 1 : Int32) = nI (w - 1) from pk_sub (b := 1) (by omega), lNsh w (by omega), lNsh (w - 1) (by omega), show lN (2 ^ w) - 1 = lN (2 ^ w - 1) from lN_sub (b := 1) (by omega), wb_mask (n := Lo) (k := w) (by omega) (by omega), wb_a1 (by omega)]
  unfold rnd g_X0_nearestSquareBits_107
  rw [lN_1]
  by_cases c1 : 2 ^ (w - 1) < Lo % 2 ^ w
  · rw [if_pos c1, if_pos ((lNlt (by omega) (by omega)).mpr c1)]
  · rw [if_neg c1, if_neg (fun z => c1 ((lNlt (by omega) (by omega)).mp z))]
    by_cases c2 : Lo % 2 ^ w = 2 ^ (w - 1)
    · rw [if_pos c2, if_pos (by rw [c2])]
      by_cases c3 : (H * 2 ^ (54 - w) + Lo / 2 ^ w) % 2 = 1
      · rw [if_pos c3, if_pos (by rw [c3]; rfl)]
      · have c4 : ¬ lN ((H * 2 ^ (54 - w) + Lo / 2 ^ w) % 2) = 1 := fun z => c3 ((lNeq (b := 1) (by omega) (by decide)).mp z)
        rw [if_neg c3, if_neg c4]
    · rw [if_neg c2, if_neg (fun z => c2 ((lNeq (by omega) (by omega)).mp z))]
theorem sq107 (p0 : Int64) (p1 : Int32) {H Y w : Nat} (hw : w = 52 ∨ w = 53) (hH : H < 4503599627370496) (hY : Y < 9223372036854775808) : g_X1_nearestSquare_107 p0 p1 (lN Y) (lN H) (nI w) = g_X1_nearestSquare_177 p0 p1 (nI w) (lN (rnd (H * 2 ^ (54 - w) + Y % 18014398509481984 / 2 ^ w) (Y % 18014398509481984 % 2 ^ w) w)) := by
  obtain ⟨t1, t2, t3⟩ := two_w hw
  have hLo : Y % 18014398509481984 < 18014398509481984 := Nat.mod_lt _ (by decide)
  have eY : lN Y - lN Y / 18014398509481984 * 18014398509481984 = lN (Y % 18014398509481984) := pk_lRem (b := 18014398509481984) hY (by decide) (by decide)
  unfold g_X1_nearestSquare_107 g_X1_nearestSquare_131n g_X1_nearestSquare_142n
  rw [eY]
  generalize Y % 18014398509481984 = Lo at hLo ⊢
  have hp : H * 2 ^ (54 - w) + Lo / 2 ^ w < 36028797018963968 := by
    rcases hw with rfl | rfl
    · rw [show 2 ^ (54 - 52) = 4 from rfl, show 2 ^ 52 = 4503599627370496 from rfl]; omega
    · rw [show 2 ^ (54 - 53) = 2 from rfl, show 2 ^ 53 = 9007199254740992 from rfl]; omega
  have hm : Lo % 2 ^ w < 2 ^ w := Nat.mod_lt _ (Nat.two_pow_pos _)
  have e2 : lN (2 ^ (w - 1)) * 2 = lN (2 ^ w) := by rw [lN2, lN_mul, t3]
  rw [show (54 : Int32) = nI 54 from rfl, pk_sub (by omega), wb_shl H (by omega), wb_sar (a := Lo) (k := w) (by omega) (by omega), lN_add, show (nI w - 1 : Int32) = nI (w - 1) from pk_sub (b := 1) (by omega), lNsh (w - 1) (by omega), e2, pk_lRem (a := Lo) (b := 2 ^ w) (by omega) (by omega) (by omega)]
  have e3 : lN (H * 2 ^ (54 - w) + Lo / 2 ^ w) - lN (H * 2 ^ (54 - w) + Lo / 2 ^ w) / 2 * 2 = lN ((H * 2 ^ (54 - w) + Lo / 2 ^ w) % 2) := pk_lRem (b := 2) (by omega) (by decide) (by decide)
  rw [e3]
  unfold rnd g_X1_nearestSquare_171
  rw [lN_1]
  by_cases c1 : 2 ^ (w - 1) < Lo % 2 ^ w
  · rw [if_pos c1, if_pos ((lNlt (by omega) (by omega)).mpr c1)]
  · rw [if_neg c1, if_neg (fun z => c1 ((lNlt (by omega) (by omega)).mp z))]
    by_cases c2 : Lo % 2 ^ w = 2 ^ (w - 1)
    · rw [if_pos c2, if_pos (by rw [c2])]
      by_cases c3 : (H * 2 ^ (54 - w) + Lo / 2 ^ w) % 2 = 1
      · rw [if_pos c3, if_pos (by rw [c3]; rfl)]
      · have c4 : ¬ lN ((H * 2 ^ (54 - w) + Lo / 2 ^ w) % 2) = 1 := fun z => c3 ((lNeq (b := 1) (by omega) (by decide)).mp z)
        rw [if_neg c3, if_neg c4]
    · rw [if_neg c2, if_neg (fun z => c2 ((lNeq (by omega) (by omega)).mp z))]
/-- how many digits of the square go -/
def sqW (Q : Nat) : Nat := if Q < 40564819207303340847894502572032 then 52 else 53
def sqR (Q : Nat) : Nat := rnd (Q / 2 ^ sqW Q) (Q % 2 ^ sqW Q) (sqW Q)
theorem sqW_c (Q : Nat) : sqW Q = 52 ∨ sqW Q = 53 := by
  unfold sqW
  split
  · exact Or.inl rfl
  · exact Or.inr rfl
theorem sqR_b {Q : Nat} (h1 : 20282409603651670423947251286016 ≤ Q) (h2 : Q < 81129638414606681695789005144064) : 4503599627370496 ≤ sqR Q ∧ sqR Q ≤ 9007199254740992 := by
  have hq : 4503599627370496 ≤ Q / 2 ^ sqW Q ∧ Q / 2 ^ sqW Q < 9007199254740992 := by
    unfold sqW
    split
    · rw [show 2 ^ 52 = 4503599627370496 from rfl]; omega
    · rw [show 2 ^ 53 = 9007199254740992 from rfl]; omega
  unfold sqR
  rcases rnd_c (Q / 2 ^ sqW Q) (Q % 2 ^ sqW Q) (sqW Q) with e | e
  · rw [e]; omega
  · rw [e]; omega
theorem split54 {H Lo w : Nat} (hw : w = 52 ∨ w = 53) : H * 2 ^ (54 - w) + Lo / 2 ^ w = (H * 18014398509481984 + Lo) / 2 ^ w ∧ Lo % 2 ^ w = (H * 18014398509481984 + Lo) % 2 ^ w := by
  rcases hw with rfl | rfl
  · rw [show 2 ^ (54 - 52) = 4 from rfl, show 2 ^ 52 = 4503599627370496 from rfl]; omega
  · rw [show 2 ^ (54 - 53) = 2 from rfl, show 2 ^ 53 = 9007199254740992 from rfl]; omega
def sqE (b : Nat) (h : Int32) (w : Nat) : Nat := (2 * (h.toInt - (53 - bl b : Nat)) + w + 1075).toNat
theorem sqe_toInt {b w : Nat} {h : Int32} (hw : w = 52 ∨ w = 53) (h1 : -450 ≤ h.toInt) (h2 : h.toInt ≤ 450) : (2 * (h - nI (53 - bl b)) + nI w : Int32).toInt = 2 * (h.toInt - (53 - bl b : Nat)) + w ∧ ((2 * (h - nI (53 - bl b)) + nI w : Int32).toInt + 1075 = sqE b h w) := by
  have hd := d_toInt (b := b) (h := h) (by omega) (by omega)
  have c2 : (2 : Int32).toInt = 2 := by decide
  have cw : (nI w).toInt = w := nI_toInt (by omega)
  have hm : (2 * (h - nI (53 - bl b)) : Int32).toInt = 2 * (h.toInt - (53 - bl b : Nat)) := by
    rw [fb_mulI (by rw [hd, c2]; omega) (by rw [hd, c2]; omega), hd, c2]
  have e : (2 * (h - nI (53 - bl b)) + nI w : Int32).toInt = 2 * (h.toInt - (53 - bl b : Nat)) + w := by
    rw [fb_addI (by rw [hm, cw]; omega) (by rw [hm, cw]; omega), hm, cw]
  refine ⟨e, ?_⟩
  rw [e]
  unfold sqE
  omega
/-- the bits of the double nearest to the square of b times 2 to the power of h -/
def sqV (b : Nat) (h : Int32) : Nat := sqR (b * 2 ^ (53 - bl b) * (b * 2 ^ (53 - bl b))) - 4503599627370496 + sqE b h (sqW (b * 2 ^ (53 - bl b) * (b * 2 ^ (53 - bl b)))) * 4503599627370496
theorem sq_Q {m : Nat} (h1 : 4503599627370496 ≤ m) (h2 : m < 9007199254740992) : 20282409603651670423947251286016 ≤ m * m ∧ m * m < 81129638414606681695789005144064 := by
  have a := Nat.mul_le_mul h1 h1
  have b := Nat.mul_lt_mul'' h2 h2
  omega
theorem nsq_X0 {b : Nat} {h : Int32} (hb : 0 < b) (hb2 : b < 9007199254740992) (h1 : -450 ≤ h.toInt) (h2 : h.toInt ≤ 450) : f_X0_nearestSquareBits (lN b) h = lN (sqV b h) := by
  obtain ⟨m1, m2⟩ := nrm_m hb hb2
  have e0 : ¬ lN b = 0 := by rw [lN0, lNeq (by omega) (by decide)]; omega
  unfold f_X0_nearestSquareBits
  rw [if_neg e0, dbl_eq hb hb2, wb_shl b (by omega)]
  unfold sqV
  generalize hm : b * 2 ^ (53 - bl b) = m at m1 m2 ⊢
  rw [sqHigh m2]
  unfold g_X0_nearestSquareBits_19n
  rw [dbl_eq hb hb2, wb_shl b (by omega), hm, sqLow]
  obtain ⟨q1, q2⟩ := sq_Q m1 m2
  generalize m * m = Q at q1 q2 ⊢
  have hQ : Q / 18014398509481984 * 18014398509481984 + Q % 18014398509481984 = Q := by omega
  have hr := sqR_b q1 q2
  have hfin : ∀ w, w = 52 ∨ w = 53 → sqW Q = w → g_X0_nearestSquareBits_45 (lN b) h (lN (Q / 18014398509481984)) (lN (Q % 18014398509481984)) (nI w) = lN (sqR Q - 4503599627370496 + sqE b h w * 4503599627370496) := by
    intro w hw ew
    rw [sq45 (lN b) h hw (by omega) (by omega)]
    obtain ⟨s1, s2⟩ := split54 (H := Q / 18014398509481984) (Lo := Q % 18014398509481984) hw
    rw [s1, s2, hQ]
    unfold g_X0_nearestSquareBits_113
    rw [dbl_eq hb hb2]
    have eR : rnd (Q / 2 ^ w) (Q % 2 ^ w) w = sqR Q := by unfold sqR; rw [ew]
    rw [eR]
    exact pack_0 hr.1 (sqe_toInt hw h1 h2).2
  unfold g_X0_nearestSquareBits_27n
  by_cases c : Q < 40564819207303340847894502572032
  · have ew : sqW Q = 52 := by unfold sqW; rw [if_pos c]
    rw [if_neg (show ¬ (2251799813685248 : Int64) ≤ lN (Q / 18014398509481984) by rw [show (2251799813685248 : Int64) = lN 2251799813685248 from rfl, lNle (by decide) (by omega)]; omega), ew]
    exact hfin 52 (Or.inl rfl) ew
  · have ew : sqW Q = 53 := by unfold sqW; rw [if_neg c]
    rw [if_pos (show (2251799813685248 : Int64) ≤ lN (Q / 18014398509481984) by rw [show (2251799813685248 : Int64) = lN 2251799813685248 from rfl, lNle (by decide) (by omega)]; omega), ew]
    exact hfin 53 (Or.inr rfl) ew
theorem nsq_X1 {b : Nat} {h : Int32} (hb : 0 < b) (hb2 : b < 9007199254740992) (h1 : -450 ≤ h.toInt) (h2 : h.toInt ≤ 450) : f_X1_nearestSquare (lN b) h = lN (sqV b h) := by
  obtain ⟨m1, m2⟩ := nrm_m hb hb2
  have hl : bl b ≤ 53 := bl_le.mpr (by omega)
  have e0 : ¬ lN b = 0 := by rw [lN0, lNeq (by omega) (by decide)]; omega
  have e1 : (53 - f_X1_lengthOf (lN b) : Int32) = nI (53 - bl b) := by
    rw [len_eq (by omega), show (53 : Int32) = nI 53 from rfl, pk_sub (by omega)]
  unfold f_X1_nearestSquare
  rw [if_neg e0]
  unfold g_X1_nearestSquare_26n
  rw [e1, wb_shl b (by omega)]
  unfold sqV
  generalize hm : b * 2 ^ (53 - bl b) = m at m1 m2 ⊢
  have hp := sq_parts m
  have hU : m / 134217728 < 67108864 := by omega
  have hl2 : m % 134217728 < 134217728 := by omega
  have h27 : ∀ a, a < 2 ^ 62 → lN a >>> ((27 : Int32).toInt64 &&& 63) = lN (a / 134217728) := fun a ha => wb_sar (k := 27) ha (by decide)
  have hc : m / 134217728 * (m % 134217728) < 9007199254740992 := by
    have := Nat.mul_lt_mul'' hU hl2
    omega
  have hd : m % 134217728 * (m % 134217728) < 18014398509481984 := by
    have := Nat.mul_lt_mul'' hl2 hl2
    omega
  have e34 : lN m - lN m / 134217728 * 134217728 = lN (m % 134217728) := pk_lRem (b := 134217728) (by omega) (by decide) (by decide)
  rw [h27 m (by omega), e34]
  unfold g_X1_nearestSquare_34n g_X1_nearestSquare_62n
  have ec : (2 * lN (m / 134217728)) * lN (m % 134217728) = lN (2 * (m / 134217728 * (m % 134217728))) := by
    rw [lN2, lN_mul, lN_mul, Nat.mul_assoc]
  have er : lN (2 * (m / 134217728 * (m % 134217728))) - lN (2 * (m / 134217728 * (m % 134217728))) / 134217728 * 134217728 = lN (2 * (m / 134217728 * (m % 134217728)) % 134217728) := pk_lRem (b := 134217728) (by omega) (by decide) (by decide)
  have es : lN (2 * (m / 134217728 * (m % 134217728)) % 134217728) <<< ((27 : Int32).toInt64 &&& 63) = lN (2 * (m / 134217728 * (m % 134217728)) % 134217728 * 134217728) := wb_shl (k := 27) _ (by decide)
  rw [ec, er, es, h27 _ (by omega), lN_mul, lN_mul, lN_add, lN_add]
  obtain ⟨q1, q2⟩ := sq_Q m1 m2
  generalize hc0 : m / 134217728 * (m % 134217728) = c at hp hc ⊢
  generalize hd0 : m % 134217728 * (m % 134217728) = d at hp hd ⊢
  generalize hu0 : m / 134217728 * (m / 134217728) = u at hp ⊢
  have hY : d + 2 * c % 134217728 * 134217728 < 9223372036854775808 := by omega
  have e54 : lN (d + 2 * c % 134217728 * 134217728) >>> ((54 : Int32).toInt64 &&& 63) = lN ((d + 2 * c % 134217728 * 134217728) / 18014398509481984) := wb_sar (k := 54) (by omega) (by decide)
  rw [e54, lN_add]
  generalize m * m = Q at hp q1 q2 ⊢
  have hH : u + 2 * c / 134217728 + (d + 2 * c % 134217728 * 134217728) / 18014398509481984 = Q / 18014398509481984 := by omega
  have hLo : (d + 2 * c % 134217728 * 134217728) % 18014398509481984 = Q % 18014398509481984 := by omega
  rw [hH]
  have hQ : Q / 18014398509481984 * 18014398509481984 + Q % 18014398509481984 = Q := by omega
  have hr := sqR_b q1 q2
  have hfin : ∀ w, w = 52 ∨ w = 53 → sqW Q = w → g_X1_nearestSquare_107 (lN b) h (lN (d + 2 * c % 134217728 * 134217728)) (lN (Q / 18014398509481984)) (nI w) = lN (sqR Q - 4503599627370496 + sqE b h w * 4503599627370496) := by
    intro w hw ew
    rw [sq107 (lN b) h hw (by omega) hY, hLo]
    obtain ⟨s1, s2⟩ := split54 (H := Q / 18014398509481984) (Lo := Q % 18014398509481984) hw
    rw [s1, s2, hQ]
    have eR : rnd (Q / 2 ^ w) (Q % 2 ^ w) w = sqR Q := by unfold sqR; rw [ew]
    rw [eR]
    obtain ⟨t1, t2⟩ := sqe_toInt (b := b) hw h1 h2
    unfold g_X1_nearestSquare_177 g_X1_nearestSquare_210
    rw [e1]
    by_cases c1 : sqR Q = 9007199254740992
    · rw [c1, if_pos (show lN 9007199254740992 = 9007199254740992 from rfl), show lN 9007199254740992 / 2 = lN 4503599627370496 from by decide]
      have t3 : (2 * (h - nI (53 - bl b)) + nI w + 1 : Int32).toInt = 2 * (h.toInt - (53 - bl b : Nat)) + w + 1 := by
        rw [fb_addI (by rw [t1, i1]; omega) (by rw [t1, i1]; omega), t1, i1]
      rw [b1_53 (E := sqE b h w + 1) (by decide) (by decide) (by rw [t3]; omega) (by rw [t3]; omega) (by rw [t3]; omega)]
      congr 1
      omega
    · have c4 : ¬ lN (sqR Q) = 9007199254740992 := fun z => c1 ((lNeq (b := 9007199254740992) (by omega) (by decide)).mp z)
      rw [if_neg c4]
      exact b1_53 hr.1 (by omega) (by rw [t1]; omega) (by rw [t1]; omega) t2
  unfold g_X1_nearestSquare_81n
  by_cases c1 : Q < 40564819207303340847894502572032
  · have ew : sqW Q = 52 := by unfold sqW; rw [if_pos c1]
    rw [if_pos (show lN (Q / 18014398509481984) < (2251799813685248 : Int64) by rw [show (2251799813685248 : Int64) = lN 2251799813685248 from rfl, lNlt (by omega) (by decide)]; omega), ew]
    exact hfin 52 (Or.inl rfl) ew
  · have ew : sqW Q = 53 := by unfold sqW; rw [if_neg c1]
    rw [if_neg (show ¬ lN (Q / 18014398509481984) < (2251799813685248 : Int64) by rw [show (2251799813685248 : Int64) = lN 2251799813685248 from rfl, lNlt (by omega) (by decide)]; omega), ew]
    exact hfin 53 (Or.inr rfl) ew
/-! squareBits, backBits, isBack -/
theorem lsq_c {S : pS} {T : pT} (hR : rel S T) (p0 : Int32) :
    (f_X0_checkSlot p0 = .error 1 ∧ f_X1_lacksSquare T p0 = (1, thS T 1)) ∨
    (f_X0_checkSlot p0 = .ok () ∧ f_X0_checkSquared S p0 = .error 5 ∧ f_X1_lacksSquare T p0 = (1, thS T 2)) ∨
    (f_X0_checkSlot p0 = .ok () ∧ f_X0_checkSquared S p0 = .ok () ∧ f_X1_lacksSquare T p0 = (0, thS T 0) ∧ -400 ≤ (shS S p0.toNatClampNeg).toInt ∧ (shS S p0.toNatClampNeg).toInt ≤ 400) := by
  have m4 : (-400 : Int32).toInt = -400 := by decide
  have p4 : (400 : Int32).toInt = 400 := by decide
  rcases slot_c p0 with ⟨h, e0, e1⟩ | ⟨e0, e1⟩
  · have hl : f_X1_lacksSquare T p0 = (if shS S p0.toNatClampNeg < (-400) then g_X1_lacksSquare_41 (thS T 0) else (if (400 : Int32) < shS S p0.toNatClampNeg then g_X1_lacksSquare_41 (thS T 0) else g_X1_lacksSquare_42 (thS T 0) 1)) := by
      unfold f_X1_lacksSquare
      rw [e1, no_1]
      dsimp only
      rw [if_pos (show (0 : Int32) = 0 from rfl), show shT (thS T 0) = shS S from hR.2.2.1.symm]
    have h41 : g_X1_lacksSquare_41 (thS T 0) = (1, thS T 2) := by
      unfold g_X1_lacksSquare_41 g_X1_lacksSquare_42
      rw [no_0]
      rfl
    have h42 : g_X1_lacksSquare_42 (thS T 0) 1 = (0, thS T 0) := by
      unfold g_X1_lacksSquare_42
      rw [no_1]
      rfl
    rw [h41, h42] at hl
    rw [hl]
    unfold f_X0_checkSquared g_X0_checkSquared_21
    by_cases c1 : shS S p0.toNatClampNeg < (-400)
    · rw [if_pos c1, if_pos c1]
      exact Or.inr (Or.inl ⟨e0, rfl, rfl⟩)
    · by_cases c2 : (400 : Int32) < shS S p0.toNatClampNeg
      · have c3 : ¬ shS S p0.toNatClampNeg ≤ 400 := fun z => by
          rw [fa_le, p4] at z
          rw [fa_lt, p4] at c2
          omega
        rw [if_neg c1, if_neg c1, if_pos c2, if_neg c3]
        exact Or.inr (Or.inl ⟨e0, rfl, rfl⟩)
      · have c3 : shS S p0.toNatClampNeg ≤ 400 := by
          rw [fa_le, p4]
          rw [fa_lt, p4] at c2
          omega
        rw [if_neg c1, if_neg c1, if_neg c2, if_pos c3]
        rw [fa_le, p4] at c3
        rw [fa_lt, m4] at c1
        exact Or.inr (Or.inr ⟨e0, rfl, rfl, by omega, c3⟩)
  · have hl : f_X1_lacksSquare T p0 = (1, thS T 1) := by
      unfold f_X1_lacksSquare
      rw [e1, no_0]
      rfl
    exact Or.inl ⟨e0, hl⟩
theorem nsq_ag {g : Int32} {o : Int64} {h : Int32} (hk : okN g o h) (h1 : -400 ≤ h.toInt) (h2 : h.toInt ≤ 400) : f_X0_nearestSquareBits o h = f_X1_nearestSquare o h := by
  by_cases c : g = 0
  · obtain ⟨e1, e2⟩ := okN_0' hk c
    subst e1
    subst e2
    rfl
  · obtain ⟨b, rfl, hb, hb2, -⟩ := okN_nat hk c
    rw [nsq_X0 hb hb2 (by omega) (by omega), nsq_X1 hb hb2 (by omega) (by omega)]
theorem ag_squareBits {S : pS} {T : pT} (hR : rel S T) (o : Nat → Int64) (p0 : Int32) : agL (wrL [1, 5] S o (f_X0_squareBits S p0)) (f_X1_squareBits T p0) := by
  unfold f_X0_squareBits f_X1_squareBits
  rcases lsq_c hR p0 with ⟨e0, e1⟩ | ⟨e0, e2, e1⟩ | ⟨e0, e2, e1, h1, h2⟩
  · rw [e0, e1]
    exact agL_er (rel_th hR 1) o _ 1 rfl (by decide)
  · rw [e0, e2, e1]
    exact agL_er (rel_th hR 2) o _ 5 rfl (by decide)
  · rw [e0, e2, e1]
    dsimp only
    rw [if_pos (show (0 : Int32) = 0 from rfl), show odT (thS T 0) = odS S from hR.2.1.symm, show shT (thS T 0) = shS S from hR.2.2.1.symm]
    exact agL_ok (rel_th hR 0) o _ rfl (nsq_ag (hR.2.2.2.1 p0.toNatClampNeg) h1 h2)
theorem re_back {w L : Nat} (hw : w < 4096) (hL : L ≤ 6) (h : rlen w L) : (nI (L + 1022) - 1075 : Int32) = f_X0_rootExponent (nI w) := by
  have hr := re_toInt hw hL h
  have c0 : ∀ n : Nat, n < 5000 → (nI n).toInt = (n : Int) := fun n hn => nI_toInt (Nat.lt_trans hn (by decide))
  have c1 := c0 (L + 1022) (Nat.lt_of_le_of_lt (Nat.add_le_add_right hL 1022) (by decide))
  have c3 : (1075 : Int32).toInt = 1075 := by decide
  have c4 : ((L + 1022 : Nat) : Int) = (L : Int) + 1022 := rfl
  rw [c4] at c1
  rw [fa_eq, fb_subI (by rw [c1, c3]; omega) (by rw [c1, c3]; omega), c1, c3, hr]
  omega
theorem back_ag {w : Nat} (hw : w < 4096) : f_X0_nearestBackBits (nI w) = f_X1_square (f_X1_nearestRoot (nI w)) := by
  rcases Nat.eq_zero_or_pos w with c | c
  · subst c
    rfl
  · obtain ⟨L, hL, h⟩ := rlen_ex hw
    obtain ⟨M, ⟨hM, hX⟩ | c2⟩ := nr_X0 hw hL h
    · obtain ⟨a1, a2⟩ := root_ag hw c hL h hM hX
      obtain ⟨m1, m2⟩ := nrt_lt hL h hM
      have hr := re_toInt hw hL h
      unfold f_X0_nearestBackBits
      rw [if_neg (nI_ne0 c (by omega)), hX, nsq_X0 (by omega) m2 (by omega) (by omega), a1]
      unfold f_X1_square
      have hV : M - 4503599627370496 + (L + 1022) * 4503599627370496 < 9223372036854775808 := by omega
      have e0 : ¬ lN (M - 4503599627370496 + (L + 1022) * 4503599627370496) = 0 := by rw [lN0, lNeq (by omega) (by decide)]; omega
      have e1 : lN (M - 4503599627370496 + (L + 1022) * 4503599627370496) - lN (M - 4503599627370496 + (L + 1022) * 4503599627370496) / 4503599627370496 * 4503599627370496 + 4503599627370496 = lN M := by
        have e2 : lN (M - 4503599627370496 + (L + 1022) * 4503599627370496) - lN (M - 4503599627370496 + (L + 1022) * 4503599627370496) / 4503599627370496 * 4503599627370496 = lN ((M - 4503599627370496 + (L + 1022) * 4503599627370496) % 4503599627370496) := pk_lRem (b := 4503599627370496) (by omega) (by decide) (by decide)
        rw [e2, c52, lN_add]
        congr 1
        omega
      have e3 : lN (M - 4503599627370496 + (L + 1022) * 4503599627370496) / 4503599627370496 = lN (L + 1022) := by
        have e4 : lN (M - 4503599627370496 + (L + 1022) * 4503599627370496) / 4503599627370496 = lN ((M - 4503599627370496 + (L + 1022) * 4503599627370496) / 4503599627370496) := pk_lDiv (b := 4503599627370496) (by omega) (by decide) (by decide)
        rw [e4]
        congr 1
        omega
      have e5 := re_back hw hL h
      rw [if_neg e0, e1, e3, lN_i, e5, nsq_X1 (by omega) m2 (by omega) (by omega)]
    · omega
theorem ag_backBits {S : pS} {T : pT} (hR : rel S T) (o : Nat → Int64) (p0 : Int32) : agL (wrL [2] S o (f_X0_backBits S p0)) (f_X1_backBits T p0) := by
  unfold f_X0_backBits f_X1_backBits
  rcases r4k p0 with ⟨w, hw, rfl, e0, e1⟩ | ⟨e0, e1⟩
  · rw [e0, e1, no_1]
    dsimp only
    rw [if_pos (show (0 : Int32) = 0 from rfl)]
    exact agL_ok (rel_th hR 0) o _ rfl (back_ag hw)
  · rw [e0, e1, no_0]
    exact agL_er (rel_th hR 1) o _ 2 rfl (by decide)
theorem sh_go {w : Nat} (hw : w < 4096) : ∀ n v, v ≤ 31 → 31 - v < n → w % 2 ^ v = 0 → ∃ s, s ≤ 31 ∧ g_X0_shiftOf_8 (nI w) n (nI v) = nI s ∧ w % 2 ^ s = 0 := by
  intro n
  induction n with
  | zero => intro v h1 h2; omega
  | succ n ih =>
    intro v h1 h2 h3
    rw [g_X0_shiftOf_8]
    by_cases c : v = 31
    · subst c
      rw [if_pos (by decide)]
      exact ⟨31, by decide, rfl, h3⟩
    · rw [if_neg (show ¬ (31 : Int32) ≤ nI (v) from nI_ge (a := v) (b := 31) (by omega) (by decide)), bit_of (by omega) (by omega), nI_1]
      by_cases c2 : w / 2 ^ v % 2 = 0
      · rw [c2, if_pos (show nI 0 = 0 from rfl)]
        refine ih (v + 1) (by omega) (by omega) ?_
        rw [Nat.pow_succ, Nat.mod_mul, h3, c2, Nat.mul_zero, Nat.add_zero]
      · have e : w / 2 ^ v % 2 = 1 := by omega
        rw [e, if_neg (by decide)]
        exact ⟨v, h1, rfl, h3⟩
theorem w_parts {w : Nat} (hw : w < 4096) (hw0 : 0 < w) : ∃ b s : Nat, w = b * 2 ^ s ∧ 0 < b ∧ b < 4096 ∧ s ≤ 12 ∧ f_X0_signOf (nI w) = 1 ∧ f_X0_oddOf (nI w) = lN b ∧ f_X0_shiftOf (nI w) = nI s := by
  obtain ⟨s, s1, s2, s3⟩ := sh_go hw (((31 : Int32).toInt - (0 : Int32).toInt).toNat + 1) 0 (Nat.zero_le _) (by decide) (Nat.mod_one _)
  have e : w = w / 2 ^ s * 2 ^ s := by
    have := Nat.div_add_mod w (2 ^ s)
    rw [s3, Nat.add_zero, Nat.mul_comm] at this
    exact this.symm
  have hb : 0 < w / 2 ^ s := by
    rcases Nat.eq_zero_or_pos (w / 2 ^ s) with c | c
    · rw [c, Nat.zero_mul] at e; omega
    · exact c
  have hs : s ≤ 12 := by
    rcases Nat.lt_or_ge 12 s with c | c
    · have h9 : 2 ^ 13 ≤ 2 ^ s := Nat.pow_le_pow_right (by decide) c
      have h8 : 2 ^ 13 = 8192 := by decide
      have h7 : 1 * 2 ^ s ≤ w / 2 ^ s * 2 ^ s := Nat.mul_le_mul_right _ hb
      omega
    · exact c
  have h6 : w / 2 ^ s ≤ w := Nat.div_le_self _ _
  have hsh : f_X0_shiftOf (nI w) = nI s := by
    unfold f_X0_shiftOf
    rw [if_neg (nI_ne0 hw0 (by omega))]
    exact s2
  refine ⟨w / 2 ^ s, s, e, hb, by omega, hs, ?_, ?_, hsh⟩
  · unfold f_X0_signOf
    rw [if_neg (nI_ne0 hw0 (by omega)), if_pos (nI_pos' (by omega))]
  · unfold f_X0_oddOf f_X0_sizeOf
    rw [hsh, if_pos (nI_pos' (by omega)), nI_l (by omega), wb_sar (by omega) (by omega)]
theorem whole_bits {w : Nat} (hw : w < 4096) : f_X0_bitsOf (f_X0_signOf (nI w)) (f_X0_oddOf (nI w)) (f_X0_shiftOf (nI w)) = f_X1_bitsOf ((nI w).toInt64) 0 := by
  rcases Nat.eq_zero_or_pos w with c | c
  · subst c
    rfl
  · obtain ⟨b, s, e, hb, hb2, hs, h1, h2, h3⟩ := w_parts hw c
    have hsi : (nI s).toInt = s := nI_toInt (by omega)
    rw [h1, h2, h3, nI_l (by omega), Vb_eq hb (by omega) (by omega) (by omega), b1_v c (by omega) (by decide) (by decide)]
    have hbl : bl w = bl b + s := by rw [e, bl_shift hb]
    have hbl2 : bl w ≤ 12 := bl_le.mpr hw
    have em : w * 2 ^ (53 - bl w) = b * 2 ^ (53 - bl b) := by
      rw [hbl, e, Nat.mul_assoc, ← Nat.pow_add, show s + (53 - (bl b + s)) = 53 - bl b by omega]
    have eE : Eb w 0 = Eb b (nI s) := by
      unfold Eb
      rw [hsi, i0]
      omega
    unfold Vb
    rw [em, eE]
theorem ag_isBack {S : pS} {T : pT} (hR : rel S T) (o : Nat → Int64) (p0 : Int32) : agZ (wrZ [2] S o (f_X0_isBack S p0)) (f_X1_isBack T p0) := by
  unfold f_X0_isBack f_X1_isBack
  rcases r4k p0 with ⟨w, hw, rfl, e0, e1⟩ | ⟨e0, e1⟩
  · rw [e0, e1, no_1]
    dsimp only
    rw [if_pos (show (0 : Int32) = 0 from rfl), back_ag hw, whole_bits hw]
    split
    · exact agZ_ok (rel_th hR 0) o _ rfl Iff.rfl
    · exact agZ_ok (rel_th hR 0) o _ rfl Iff.rfl
  · rw [e0, e1, no_0]
    exact agZ_er (rel_th hR 1) o _ 2 rfl (by decide)

/-! whole roots, digit by digit -/
/-- what is left to reckon when m digits are still to come -/
def Xr (w pl m : Nat) : Nat := if m ≤ pl then w * 4 ^ (pl - m) else w / 4 ^ (m - pl)
def br (w pl m : Nat) : Nat := if m < pl then 0 else w / 4 ^ (m - pl) % 4
theorem Xr_step (w pl m : Nat) : Xr w pl m = 4 * Xr w pl (m + 1) + br w pl m := by
  unfold Xr br
  by_cases c : m < pl
  · rw [if_pos (show m ≤ pl by omega), if_pos (show m + 1 ≤ pl by omega), if_pos c]
    have e : pl - m = pl - (m + 1) + 1 := by omega
    rw [e, Nat.pow_succ, ← Nat.mul_assoc]
    omega
  · rw [if_neg c, if_neg (show ¬ m + 1 ≤ pl by omega)]
    have e : m + 1 - pl = (m - pl) + 1 := by omega
    have h1 : (if m ≤ pl then w * 4 ^ (pl - m) else w / 4 ^ (m - pl)) = w / 4 ^ (m - pl) := by
      by_cases c2 : m ≤ pl
      · have e2 : m = pl := by omega
        subst e2
        rw [if_pos c2, Nat.sub_self, Nat.pow_zero, Nat.mul_one, Nat.div_one]
      · rw [if_neg c2]
    rw [h1, e, Nat.pow_succ, ← Nat.div_div_eq_div_mul]
    omega
theorem br_lt (w pl m : Nat) : br w pl m < 4 := by
  unfold br
  split
  · decide
  · exact Nat.mod_lt _ (by decide)
theorem Xr_le (w pl : Nat) : ∀ m, Xr w pl m ≤ Xr w pl 0 := by
  intro m
  induction m with
  | zero => exact Nat.le_refl _
  | succ m ih =>
    have := Xr_step w pl m
    omega
theorem Xr_0 (w pl : Nat) : Xr w pl 0 = w * 4 ^ pl := by
  unfold Xr
  rw [if_pos (Nat.zero_le _), Nat.sub_zero]
theorem p24 (j : Nat) : 2 ^ (2 * j) = 4 ^ j := @Nat.pow_mul 2 2 j
theorem sq_lt {r a : Nat} (h : r * r < a * a) : r < a := by
  rcases Nat.lt_or_ge r a with c | c
  · exact c
  · have := Nat.mul_le_mul c c
    omega
/-- one digit more of a root -/
theorem rt_dig {r s X b : Nat} (h : r * r + s = X) (h2 : s ≤ 2 * r) (hb : b < 4) : (s * 4 + b < r * 4 + 1 → (r * 2) * (r * 2) + (s * 4 + b) = 4 * X + b ∧ s * 4 + b ≤ 2 * (r * 2)) ∧ (¬ s * 4 + b < r * 4 + 1 → (r * 2 + 1) * (r * 2 + 1) + (s * 4 + b - (r * 4 + 1)) = 4 * X + b ∧ s * 4 + b - (r * 4 + 1) ≤ 2 * (r * 2 + 1)) := by
  have e1 : (r * 2) * (r * 2) = 4 * (r * r) := by rw [Nat.mul_mul_mul_comm]; omega
  have e2 : (r * 2 + 1) * (r * 2 + 1) = 4 * (r * r) + 4 * r + 1 := by
    rw [Nat.add_mul, Nat.mul_add, e1]
    omega
  rw [e1, e2]
  constructor
  · intro c
    omega
  · intro c
    omega
theorem br_eq {w j : Nat} (hw : w < 4096) (hj : j ≤ 5) : ((nI w >>> (((2 : Int32) * nI j) &&& 31)) &&& 3) = nI (w / 4 ^ j % 4) := by
  have h1 : w / 4 ^ j ≤ w := Nat.div_le_self _ _
  rw [show (2 : Int32) = nI 2 from rfl, pk_mul, pk_shrN (by omega) _ (2 * j) (sh31 (2 * j) (by omega)), p24]
  exact pk_andN (n := w / 4 ^ j) (m := 3) (by omega) 2 (by decide)
theorem fr_go {w pl : Nat} (hw : w < 4096) (hpl : pl ≤ 60) (hX : w * 4 ^ pl < 1329227995784915872903807060280344576) : ∀ m, m ≤ 6 + pl → ∀ n r s (v : Int32), m < n → v.toInt = (m : Int) - 1 - pl → r * r + s = Xr w pl m → s ≤ 2 * r → ∃ q t, g_X0_floorRoot_8 (nI w) (nI pl) n (lN r) (lN s) v = lN q ∧ q * q + t = w * 4 ^ pl ∧ t ≤ 2 * q := by
  have hnp : (-(nI pl) : Int32).toInt = -(pl : Int) := by
    have h1 : (nI pl).toInt = pl := nI_toInt (by omega)
    rw [fb_negI (by rw [h1]; omega), h1]
  intro m
  induction m with
  | zero =>
    intro _ n r s v hn hv h1 h2
    cases n with
    | zero => omega
    | succ n =>
      rw [g_X0_floorRoot_8, if_pos (show v < -(nI pl) by rw [fa_lt, hnp]; omega)]
      rw [Xr_0] at h1
      exact ⟨r, s, rfl, h1, h2⟩
  | succ m ih =>
    intro hm n r s v hn hv h1 h2
    cases n with
    | zero => omega
    | succ n =>
      have hm' : m ≤ 6 + pl := Nat.le_of_succ_le hm
      have hn' : m < n := Nat.lt_of_succ_lt_succ hn
      have hst := Xr_step w pl m
      have hle := Xr_le w pl m
      rw [Xr_0] at hle
      have hb := br_lt w pl m
      have hr : r < 576460752303423488 := sq_lt (by
        have e : 576460752303423488 * 576460752303423488 = 332306998946228968225951765070086144 := by decide
        omega)
      obtain ⟨d1, d2⟩ := rt_dig h1 h2 hb
      have hbr : ∀ w0 : Int32, w0 = nI (br w pl m) → ∃ q t, g_X0_floorRoot_32 (fun a0 a1 a2 => g_X0_floorRoot_8 (nI w) (nI pl) n a0 a1 a2) (lN r) (lN s) v w0 = lN q ∧ q * q + t = w * 4 ^ pl ∧ t ≤ 2 * q := by
        intro w0 e0
        subst e0
        unfold g_X0_floorRoot_32
        have e4 : lN s * 4 + (nI (br w pl m)).toInt64 = lN (s * 4 + br w pl m) := by
          rw [nI_l (by omega), show (4 : Int64) = lN 4 from rfl, lN_mul, lN_add]
        have e5 : lN r * 4 + 1 = lN (r * 4 + 1) := by
          rw [show (4 : Int64) = lN 4 from rfl, lN_mul, lN_1]
        have e6 : lN r * 2 = lN (r * 2) := by rw [lN2, lN_mul]
        have hvv : (v + (-1)).toInt = (m : Int) - 1 - pl := by
          have c1 : (-1 : Int32).toInt = -1 := by decide
          rw [fb_addI (by rw [c1]; omega) (by rw [c1]; omega), c1]
          omega
        rw [e4, e5, e6]
        by_cases c : s * 4 + br w pl m < r * 4 + 1
        · obtain ⟨d3, d4⟩ := d1 c
          rw [if_pos ((lNlt (by omega) (by omega)).mpr c)]
          exact ih hm' n _ _ _ hn' hvv (by rw [d3, hst]) d4
        · obtain ⟨d3, d4⟩ := d2 c
          rw [if_neg (fun z => c ((lNlt (by omega) (by omega)).mp z)), lN_1, lN_sub (by omega)]
          exact ih hm' n _ _ _ hn' hvv (by rw [d3, hst]) d4
      rw [g_X0_floorRoot_8, if_neg (show ¬ v < -(nI pl) by rw [fa_lt, hnp]; omega)]
      by_cases c : v < 0
      · rw [if_pos c]
        refine hbr 0 ?_
        rw [fa_lt, i0] at c
        unfold br
        rw [if_pos (show m < pl by omega)]
        rfl
      · rw [if_neg c]
        refine hbr _ ?_
        rw [fa_lt, i0] at c
        obtain ⟨hj, ej⟩ := nI_of' (x := v) (by omega)
        rw [ej]
        have e : v.toInt.toNat = m - pl := by omega
        rw [e]
        unfold br
        rw [if_neg (show ¬ m < pl by omega)]
        exact br_eq hw (by omega)
theorem fr_eq {w pl : Nat} (hw : w < 4096) (hpl : pl ≤ 60) (hX : w * 4 ^ pl < 1329227995784915872903807060280344576) : ∃ q t, f_X0_floorRoot (nI w) (nI pl) = lN q ∧ q * q + t = w * 4 ^ pl ∧ t ≤ 2 * q := by
  have hnp : (-(nI pl) : Int32).toInt = -(pl : Int) := by
    have h1 : (nI pl).toInt = pl := nI_toInt (by omega)
    rw [fb_negI (by rw [h1]; omega), h1]
  have h5 : (5 : Int32).toInt = 5 := by decide
  have h0 : Xr w pl (6 + pl) = 0 := by
    unfold Xr
    rw [if_neg (show ¬ 6 + pl ≤ pl by omega), show 6 + pl - pl = 6 by omega]
    exact Nat.div_eq_of_lt hw
  unfold f_X0_floorRoot
  exact fr_go hw hpl hX (6 + pl) (Nat.le_refl _) _ 0 0 5 (by rw [hnp, h5]; omega) (by rw [h5]; omega) h0.symm (by omega)
theorem isq_u {a b t X : Nat} (h1 : a * a + t = X) (h2 : t ≤ 2 * a) (h3 : b * b ≤ X) (h4 : X < (b + 1) * (b + 1)) : a = b := by
  have e : (a + 1) * (a + 1) = a * a + 2 * a + 1 := by
    rw [Nat.add_mul, Nat.mul_add]
    omega
  have c1 : a < b + 1 := sq_lt (by omega)
  have c2 : b < a + 1 := sq_lt (by omega)
  omega
theorem isq_v {a b t u X : Nat} (h1 : a * a + t = X) (h2 : t ≤ 2 * a) (h3 : b * b + u = X) (h4 : u ≤ 2 * b) : a = b := by
  have e : (b + 1) * (b + 1) = b * b + 2 * b + 1 := by
    rw [Nat.add_mul, Nat.mul_add]
    omega
  exact isq_u h1 h2 (by omega) (by omega)
theorem r4k (p0 : Int32) : (∃ w, w < 4096 ∧ p0 = nI w ∧ f_X0_checkRange p0 0 4095 = .ok () ∧ f_X1_isFrom p0 0 4095 = 1) ∨ (f_X0_checkRange p0 0 4095 = .error 2 ∧ f_X1_isFrom p0 0 4095 = 0) := by
  rcases range_c p0 0 4095 with ⟨h1, h2, e2, e3⟩ | h
  · rw [i0] at h1
    rw [show (4095 : Int32).toInt = 4095 by decide] at h2
    obtain ⟨hw, ew⟩ := nI_of' h1
    exact Or.inl ⟨p0.toInt.toNat, by omega, ew, e2, e3⟩
  · exact Or.inr h
theorem ag_rootAt {S : pS} {T : pT} (hR : rel S T) (o : Nat → Int64) (p0 : Int32) (p1 : Int32) : agL (wrL [2] S o (f_X0_rootAt S p0 p1)) (f_X1_rootAt T p0 p1) := by
  have hE : g_X1_rootAt_26 T p0 p1 = (0, thS T 1) := by
    unfold g_X1_rootAt_26 g_X1_rootAt_27
    rw [no_0]
    rfl
  unfold f_X0_rootAt f_X1_rootAt
  rw [hE]
  rcases r4k p0 with ⟨w, hw, rfl, e0, e1⟩ | ⟨e0, e1⟩
  · rw [e0, e1, if_neg (show ¬ (1 : Int32) = 0 by decide)]
    dsimp only
    rcases range_c p1 0 16 with ⟨h1, h2, e2, e3⟩ | ⟨e2, e3⟩
    · rw [i0] at h1
      rw [show (16 : Int32).toInt = 16 by decide] at h2
      rw [e2, e3, if_neg (show ¬ (1 : Int32) = 0 by decide)]
      unfold g_X1_rootAt_27
      rw [no_1]
      dsimp only
      rw [if_pos (show (0 : Int32) = 0 from rfl)]
      obtain ⟨hp, ep⟩ := nI_of' h1
      generalize hpp : p1.toInt.toNat = pl at hp ep
      have hpl : pl ≤ 16 := by omega
      subst ep
      have h4 : 4 ^ pl ≤ 4294967296 := by
        have h9 : 4 ^ pl ≤ 4 ^ 16 := Nat.pow_le_pow_right (by decide) hpl
        have h8 : 4 ^ 16 = 4294967296 := by decide
        omega
      have hm : w * 4 ^ pl ≤ 4096 * 4294967296 := Nat.mul_le_mul (by omega) h4
      obtain ⟨q, t, q1, q2, q3⟩ := fr_eq hw (by omega) (by omega : w * 4 ^ pl < 1329227995784915872903807060280344576)
      have e5 : ((nI w).toInt64 <<< (((2 : Int32) * nI pl).toInt64 &&& 63)) = lN (w * 4 ^ pl) := by
        rw [nI_l (by omega), show (2 : Int32) = nI 2 from rfl, pk_mul, wb_shl w (by omega), p24]
      obtain ⟨b, b1, b2, b3⟩ := root_spec (n := w * 4 ^ pl) (by omega)
      rw [q1, e5, b1, isq_u q2 q3 b2 b3]
      exact agL_ok (rel_th hR 0) o _ rfl rfl
    · rw [e2, e3, if_pos (show (0 : Int32) = 0 from rfl)]
      exact agL_er (rel_th hR 1) o _ 2 rfl (by decide)
  · rw [e0, e1, if_pos (show (0 : Int32) = 0 from rfl)]
    exact agL_er (rel_th hR 1) o _ 2 rfl (by decide)
/-! the double nearest to a root: rootBits, isRoot -/
/-- how many digits a root has ahead of the point -/
def rlen (w L : Nat) : Prop := w < 4 ^ L ∧ (∀ j, j < L → 4 ^ j ≤ w)
theorem rlen_ex {w : Nat} (hw : w < 4096) : ∃ L, L ≤ 6 ∧ rlen w L := by
  obtain ⟨k, h1, h2⟩ := pk_least (fun k => w < 4 ^ k) ⟨6, hw⟩
  refine ⟨k, ?_, h1, ?_⟩
  · rcases Nat.lt_or_ge 6 k with c | c
    · exact absurd hw (h2 6 c)
    · exact c
  · intro j hj
    have h3 : ¬ w < 4 ^ j := h2 j hj
    omega
theorem rl_go {w L : Nat} (hw : w < 4096) (hL : L ≤ 6) (h : rlen w L) : ∀ n l, l ≤ L → 6 - l < n → g_X0_rootLength_2 (nI w) n (nI l) = nI L := by
  intro n
  induction n with
  | zero => intro l h1 h2; omega
  | succ n ih =>
    intro l h1 h2
    rw [g_X0_rootLength_2]
    by_cases c : l = 6
    · subst c
      have e : L = 6 := by omega
      subst e
      rw [if_pos (by decide)]
    · rw [if_neg (show ¬ (6 : Int32) ≤ nI (l) from nI_ge (a := l) (b := 6) (by omega) (by decide)), show (2 : Int32) = nI 2 from rfl, pk_mul, pk_shrN (by omega) _ (2 * l) (sh31 (2 * l) (by omega)), p24, nI_1]
      have hq : w / 4 ^ l ≤ w := Nat.div_le_self _ _
      have h4 : 0 < 4 ^ l := Nat.pow_pos (by decide)
      by_cases c2 : l = L
      · subst c2
        rw [Nat.div_eq_of_lt h.1, if_pos (by decide)]
      · have h5 : 4 ^ l ≤ w := h.2 l (by omega)
        have h6 : 0 < w / 4 ^ l := Nat.div_pos h5 h4
        rw [if_neg (nI_nle h6 (by omega))]
        exact ih (l + 1) (by omega) (by omega)
theorem rl_eq {w L : Nat} (hw : w < 4096) (hL : L ≤ 6) (h : rlen w L) : f_X0_rootLength (nI w) = nI L := rl_go hw hL h (((6 : Int32).toInt - (0 : Int32).toInt).toNat + 1) 0 (Nat.zero_le _) (by decide)
theorem sq_le {r a : Nat} (h : a * a ≤ r * r) : a ≤ r := by
  rcases Nat.lt_or_ge r a with c | c
  · have := Nat.mul_lt_mul'' c c
    omega
  · exact c
/-- the root's length -/
theorem bl_root {w L r t : Nat} (hw0 : 0 < w) (h : rlen w L) (h1 : r * r + t = w) (h2 : t ≤ 2 * r) : bl r = L ∧ 0 < L := by
  have hL : 0 < L := by
    rcases Nat.eq_zero_or_pos L with c | c
    · have := h.1
      rw [c, Nat.pow_zero] at this
      omega
    · exact c
  have e1 : 2 ^ (L - 1) * 2 ^ (L - 1) = 4 ^ (L - 1) := (@Nat.mul_pow 2 2 (L - 1)).symm
  have e2 : 2 ^ L * 2 ^ L = 4 ^ L := (@Nat.mul_pow 2 2 L).symm
  have c1 : r < 2 ^ L := sq_lt (by have := h.1; omega)
  have c2 : 2 ^ (L - 1) < r + 1 := sq_lt (by
    have := h.2 (L - 1) (by omega)
    have e : (r + 1) * (r + 1) = r * r + 2 * r + 1 := by
      rw [Nat.add_mul, Nat.mul_add]
      omega
    omega)
  have c3 : bl r ≤ L := bl_le.mpr c1
  have c4 : L - 1 < bl r := bl_gt.mpr (by omega)
  exact ⟨by omega, hL⟩
/-- the reference's further digits -/
theorem nr_go {w : Nat} : ∀ m k n r s, bl r + m = 53 → m < n → 0 < r → r * r + s = w * 4 ^ k → s ≤ 2 * r → ∃ r' s', g_X1_nearestRoot_22 n (lN r) (lN s) (nI k) = g_X1_nearestRoot_85 (nI (k + m)) (if s' ≤ r' then lN r' else lN (r' + 1)) ∧ bl r' = 53 ∧ r' * r' + s' = w * 4 ^ (k + m) ∧ s' ≤ 2 * r' := by
  intro m
  induction m with
  | zero =>
    intro k n r s hb hn hr h1 h2
    cases n with
    | zero => omega
    | succ n =>
      have hr53 : r < 2 ^ 53 := bl_le.mp (by omega)
      refine ⟨r, s, ?_, hb, h1, h2⟩
      rw [g_X1_nearestRoot_22, len_eq (by omega), if_pos (show (53 : Int32) ≤ nI (bl r) from nI_le (a := 53) (b := bl r) (by omega) (by omega)), lN_1]
      by_cases c : s ≤ r
      · rw [if_pos ((lNle (by omega) (by omega)).mpr c), if_pos c]; rfl
      · rw [if_neg (fun z => c ((lNle (by omega) (by omega)).mp z)), if_neg c]; rfl
  | succ m ih =>
    intro k n r s hb hn hr h1 h2
    cases n with
    | zero => omega
    | succ n =>
      have hr53 : r < 2 ^ 53 := bl_le.mp (by omega)
      obtain ⟨d1, d2⟩ := rt_dig (b := 0) h1 h2 (by decide)
      simp only [Nat.add_zero] at d1 d2
      have hX : 4 * (w * 4 ^ k) = w * 4 ^ (k + 1) := by
        have e : w * 4 ^ (k + 1) = w * 4 ^ k * 4 := by rw [Nat.pow_succ, Nat.mul_assoc]
        omega
      rw [g_X1_nearestRoot_22, len_eq (by omega), if_neg (show ¬ (53 : Int32) ≤ nI (bl r) from nI_ge (a := bl r) (b := 53) (by omega) (by decide))]
      have e4 : lN s * 4 = lN (s * 4) := by rw [show (4 : Int64) = lN 4 from rfl, lN_mul]
      have e5 : (2 * (lN r * 2)) + 1 = lN (r * 4 + 1) := by
        rw [lN2, lN_mul, lN_mul, lN_1]
        congr 1
        omega
      have e6 : lN r * 2 = lN (r * 2) := by rw [lN2, lN_mul]
      rw [e5, e4, e6, nI_1]
      have ek : k + (m + 1) = k + 1 + m := by omega
      rw [ek]
      by_cases c : s * 4 < r * 4 + 1
      · obtain ⟨d3, d4⟩ := d1 c
        rw [if_pos ((lNlt (by omega) (by omega)).mpr c)]
        exact ih (k + 1) n (r * 2) (s * 4) (by rw [bl_dbl hr]; omega) (by omega) (by omega) (by rw [← hX]; exact d3) d4
      · obtain ⟨d3, d4⟩ := d2 c
        rw [if_neg (fun z => c ((lNlt (by omega) (by omega)).mp z)), lN_1, lN_sub (by omega)]
        exact ih (k + 1) n (r * 2 + 1) (s * 4 - (r * 4 + 1)) (by rw [bl_dbl1 hr]; omega) (by omega) (by omega) (by rw [← hX]; exact d3) d4
/-- the nearest 53 digits of a root -/
def nrt (w L M : Nat) : Prop := ∃ r s, r * r + s = w * 4 ^ (53 - L) ∧ s ≤ 2 * r ∧ bl r = 53 ∧ M = (if s ≤ r then r else r + 1)
theorem p4_53 {L : Nat} (hL : L ≤ 6) : 4 ^ L * 4 ^ (53 - L) = 81129638414606681695789005144064 ∧ 19807040628566084398385987584 ≤ 4 ^ (53 - L) := by
  constructor
  · have h := @Nat.pow_add 4 L (53 - L)
    rw [show L + (53 - L) = 53 by omega] at h
    exact h.symm
  · have h9 : 4 ^ 47 ≤ 4 ^ (53 - L) := Nat.pow_le_pow_right (by decide) (by omega)
    have h8 : 4 ^ 47 = 19807040628566084398385987584 := by decide
    omega
theorem nrt_lt {w L M : Nat} (hL : L ≤ 6) (h : rlen w L) (hM : nrt w L M) : 4503599627370496 ≤ M ∧ M < 9007199254740992 := by
  obtain ⟨r, s, h1, h2, h3, h4⟩ := hM
  have hr0 : 0 < r := by
    rcases Nat.eq_zero_or_pos r with c | c
    · rw [c, bl_0] at h3; omega
    · exact c
  obtain ⟨b1, b2⟩ := bl_bounds hr0
  rw [h3] at b1 b2
  have b3 : 4503599627370496 ≤ r := b1
  have b4 : r < 9007199254740992 := b2
  obtain ⟨p1, p2⟩ := p4_53 hL
  have hw : (w + 1) * 4 ^ (53 - L) ≤ 4 ^ L * 4 ^ (53 - L) := Nat.mul_le_mul_right _ (by have := h.1; omega)
  rw [Nat.add_mul, Nat.one_mul, p1, ← h1] at hw
  rw [h4]
  split
  · exact ⟨by omega, by omega⟩
  · refine ⟨by omega, ?_⟩
    rcases Nat.lt_or_ge (r + 1) 9007199254740992 with c | c
    · exact c
    · exfalso
      have e : r = 9007199254740991 := by omega
      subst e
      omega
theorem nr_X0 {w L : Nat} (hw : w < 4096) (hL : L ≤ 6) (h : rlen w L) : ∃ M, nrt w L M ∧ f_X0_nearestRoot (nI w) = lN M ∨ w = 0 := by
  rcases Nat.eq_zero_or_pos w with c0 | hw0
  · exact ⟨0, Or.inr c0⟩
  have p1 := (p4_53 hL).1
  have e54 : 4 ^ (54 - L) = 4 ^ (53 - L) * 4 := by rw [← Nat.pow_succ]; congr 1; omega
  have hX : w * 4 ^ (54 - L) < 1329227995784915872903807060280344576 := by
    have h9 : w * 4 ^ (53 - L) ≤ 4 ^ L * 4 ^ (53 - L) := Nat.mul_le_mul_right _ (by have := h.1; omega)
    rw [e54, ← Nat.mul_assoc]
    omega
  have hX3 : w * 4 ^ (53 - L) < 1329227995784915872903807060280344576 := by
    rw [e54, ← Nat.mul_assoc] at hX
    omega
  obtain ⟨q, t, q1, q2, q3⟩ := fr_eq hw (by omega) hX
  obtain ⟨r, s, -, r2, r3⟩ := fr_eq hw (by omega) hX3
  -- the length of r
  have hbl : bl r = 53 := by
    obtain ⟨r0, s0, -, r5, r6⟩ := fr_eq hw (pl := 0) (by omega) (by rw [Nat.pow_zero]; omega)
    rw [Nat.pow_zero, Nat.mul_one] at r5
    have hL0 := (bl_root hw0 h r5 r6).2
    have e1 : 2 ^ 52 * 2 ^ 52 ≤ w * 4 ^ (53 - L) := by
      have h8 : 4 ^ (L - 1) * 4 ^ (53 - L) = 2 ^ 52 * 2 ^ 52 := by
        have h9 := @Nat.pow_add 4 (L - 1) (53 - L)
        rw [show L - 1 + (53 - L) = 52 by omega] at h9
        exact h9.symm
      rw [← h8]
      exact Nat.mul_le_mul_right _ (h.2 (L - 1) (by omega))
    have e2 : w * 4 ^ (53 - L) < 2 ^ 53 * 2 ^ 53 := by
      have h8 : 4 ^ L * 4 ^ (53 - L) = 2 ^ 53 * 2 ^ 53 := p1.trans (by decide)
      rw [← h8]
      exact Nat.mul_lt_mul_of_pos_right h.1 (Nat.pow_pos (by decide))
    have c1 : r < 2 ^ 53 := sq_lt (by omega)
    have c2 : 2 ^ 52 < r + 1 := sq_lt (by
      have e : (r + 1) * (r + 1) = r * r + 2 * r + 1 := by
        rw [Nat.add_mul, Nat.mul_add]
        omega
      omega)
    have c3 : bl r ≤ 53 := bl_le.mpr c1
    have c4 : 52 < bl r := bl_gt.mpr (by omega)
    omega
  refine ⟨if s ≤ r then r else r + 1, Or.inl ⟨⟨r, s, r2, r3, hbl, rfl⟩, ?_⟩⟩
  obtain ⟨d1, d2⟩ := rt_dig (b := 0) r2 r3 (by decide)
  have hq4 : 4 * (w * 4 ^ (53 - L)) + 0 = w * 4 ^ (54 - L) := by
    have e : w * 4 ^ (54 - L) = w * 4 ^ (53 - L) * 4 := by rw [e54, Nat.mul_assoc]
    omega
  rw [hq4] at d1 d2
  have hr53 : r < 2 ^ 53 := bl_le.mp (by omega)
  unfold f_X0_nearestRoot
  rw [rl_eq hw hL h, show (54 : Int32) = nI 54 from rfl, pk_sub (by omega), q1, lN_1, show (1 : Int32) = nI 1 from rfl]
  by_cases c : s ≤ r
  · obtain ⟨d3, d4⟩ := d1 (by omega)
    have e := isq_v q2 q3 d3 d4
    rw [if_pos c, wb_sar (by omega) (by decide), e]
    congr 1
    omega
  · obtain ⟨d3, d4⟩ := d2 (by omega)
    have e := isq_v q2 q3 d3 d4
    rw [if_neg c, wb_sar (by omega) (by decide), e]
    congr 1
    omega
theorem nr_X1 {w L M : Nat} (hw : w < 4096) (hw0 : 0 < w) (hL : L ≤ 6) (h : rlen w L) (hM : nrt w L M) : f_X1_nearestRoot (nI w) = f_X1_bitsOf (lN M) (-(nI (53 - L))) := by
  obtain ⟨r, s, h1, h2, h3, h4⟩ := hM
  obtain ⟨q, b1, b2, b3⟩ := root_spec (n := w) (by omega)
  have hq : q * q + (w - q * q) = w := by omega
  have hq2 : w - q * q ≤ 2 * q := by
    have e : (q + 1) * (q + 1) = q * q + 2 * q + 1 := by
      rw [Nat.add_mul, Nat.mul_add]
      omega
    omega
  obtain ⟨hb, hL0⟩ := bl_root hw0 h hq hq2
  have hq0 : 0 < q := by
    rcases Nat.eq_zero_or_pos q with c | c
    · rw [c, bl_0] at hb; omega
    · exact c
  unfold f_X1_nearestRoot
  rw [if_neg (nI_ne0 hw0 (by omega)), nI_l (by omega), b1]
  unfold g_X1_nearestRoot_18n
  rw [nI_l (by omega), b1, lN_mul, lN_sub b2]
  have hq63 : q < 2 ^ 62 := by
    have : q < 64 := sq_lt (by omega)
    omega
  obtain ⟨r', s', e1, e2, e3, e4⟩ := nr_go (w := w) (53 - L) 0 (((53 : Int32).toInt - (f_X1_lengthOf (lN q)).toInt).toNat + 1) q (w - q * q) (by omega) (by
    rw [len_eq (by omega), nI_toInt (by omega), show (53 : Int32).toInt = 53 by decide]
    omega) hq0 (by rw [Nat.pow_zero, Nat.mul_one]; exact hq) hq2
  rw [Nat.zero_add] at e1 e3
  have hr : r = r' := isq_v h1 h2 e3 e4
  subst hr
  have hs : s = s' := by omega
  subst hs
  have e1' : g_X1_nearestRoot_22 (((53 : Int32).toInt - (f_X1_lengthOf (lN q)).toInt).toNat + 1) (lN q) (lN (w - q * q)) 0 = _ := e1
  rw [e1']
  unfold g_X1_nearestRoot_85
  rw [h4]
  by_cases c : s ≤ r
  · rw [if_pos c, if_pos c]
  · rw [if_neg c, if_neg c]
theorem nk_toInt {L : Nat} (hL : L ≤ 6) : (-(nI (53 - L)) : Int32).toInt = (L : Int) - 53 := by
  have h1 : (nI (53 - L)).toInt = ((53 - L : Nat) : Int) := nI_toInt (by omega)
  rw [fb_negI (by rw [h1]; omega), h1]
  omega
theorem re_toInt {w L : Nat} (hw : w < 4096) (hL : L ≤ 6) (h : rlen w L) : (f_X0_rootExponent (nI w)).toInt = (L : Int) - 53 := by
  unfold f_X0_rootExponent
  have h1 : (nI L).toInt = (L : Int) := nI_toInt (by omega)
  have h2 : (53 : Int32).toInt = 53 := by decide
  rw [rl_eq hw hL h, fb_subI (by rw [h1, h2]; omega) (by rw [h1, h2]; omega), h1, h2]
theorem bl_53 {M : Nat} (h1 : 4503599627370496 ≤ M) (h2 : M < 9007199254740992) : bl M = 53 := by
  have c3 : bl M ≤ 53 := bl_le.mpr (by omega)
  have c4 : 52 < bl M := bl_gt.mpr (by omega)
  omega
theorem b1_53 {M : Nat} {e : Int32} {E : Nat} (h1 : 4503599627370496 ≤ M) (h2 : M < 9007199254740992) (h3 : -1022 ≤ e.toInt) (h4 : e.toInt ≤ 2000) (hE : e.toInt + 1075 = E) : f_X1_bitsOf (lN M) e = lN (M - 4503599627370496 + E * 4503599627370496) := by
  rw [b1_v (by omega) h2 h3 h4]
  have hb := bl_53 h1 h2
  unfold Vb Eb
  rw [hb, Nat.sub_self, Nat.pow_zero, Nat.mul_one]
  have e : (e.toInt - (0 : Nat) + 1075).toNat = E := by omega
  rw [e]
theorem root_ag {w L M : Nat} (hw : w < 4096) (hw0 : 0 < w) (hL : L ≤ 6) (h : rlen w L) (hM : nrt w L M) (hX : f_X0_nearestRoot (nI w) = lN M) : f_X1_nearestRoot (nI w) = lN (M - 4503599627370496 + (L + 1022) * 4503599627370496) ∧ f_X0_nearestRootBits (nI w) = lN (M - 4503599627370496 + (L + 1022) * 4503599627370496) := by
  obtain ⟨m1, m2⟩ := nrt_lt hL h hM
  have hk := nk_toInt hL
  have hr := re_toInt hw hL h
  constructor
  · rw [nr_X1 hw hw0 hL h hM]
    exact b1_53 m1 m2 (by omega) (by omega) (by omega)
  · unfold f_X0_nearestRootBits
    rw [if_neg (nI_ne0 hw0 (by omega)), hX]
    exact pack_0 m1 (by omega)
theorem ag_rootBits {S : pS} {T : pT} (hR : rel S T) (o : Nat → Int64) (p0 : Int32) : agL (wrL [2] S o (f_X0_rootBits S p0)) (f_X1_rootBits T p0) := by
  unfold f_X0_rootBits f_X1_rootBits
  rcases r4k p0 with ⟨w, hw, rfl, e0, e1⟩ | ⟨e0, e1⟩
  · rw [e0, e1, no_1]
    dsimp only
    rw [if_pos (show (0 : Int32) = 0 from rfl)]
    refine agL_ok (rel_th hR 0) o _ rfl ?_
    rcases Nat.eq_zero_or_pos w with c | c
    · subst c
      unfold f_X0_nearestRootBits f_X1_nearestRoot
      rw [if_pos (show nI 0 = 0 from rfl), if_pos (show nI 0 = 0 from rfl)]
    · obtain ⟨L, hL, h⟩ := rlen_ex hw
      obtain ⟨M, ⟨hM, hX⟩ | c2⟩ := nr_X0 hw hL h
      · obtain ⟨a1, a2⟩ := root_ag hw c hL h hM hX
        rw [a1, a2]
      · omega
  · rw [e0, e1, no_0]
    exact agL_er (rel_th hR 1) o _ 2 rfl (by decide)
/-! squares of 53 digits -/
theorem sqLow {M : Nat} : f_X0_squareLow (lN M) = lN (M * M % 18014398509481984) := by
  unfold f_X0_squareLow
  rw [lN_mul, wb_mod (M * M), show (18014398509481983 : Int64) = lN (18014398509481984 - 1) from rfl, g_mask (s := 54) (p := 18014398509481984) (by decide) (by decide) (Nat.mod_lt _ (by decide)), Nat.mod_mod_of_dvd _ (by decide)]
theorem sq_parts (M : Nat) : M * M = (M / 134217728 * (M / 134217728) + M / 134217728 * (M % 134217728) / 67108864) * 18014398509481984 + (M % 134217728 * (M % 134217728) + M / 134217728 * (M % 134217728) % 67108864 * 268435456) := by
  have e : M = M / 134217728 * 134217728 + M % 134217728 := by omega
  generalize M / 134217728 = U at e ⊢
  generalize M % 134217728 = l at e ⊢
  subst e
  rw [Nat.add_mul, Nat.mul_add, Nat.mul_add]
  have e1 : U * 134217728 * (U * 134217728) = U * U * 18014398509481984 := by
    rw [Nat.mul_mul_mul_comm]
  have e2 : U * 134217728 * l = U * l * 134217728 := by rw [Nat.mul_right_comm]
  have e3 : l * (U * 134217728) = U * l * 134217728 := by rw [← Nat.mul_assoc, Nat.mul_comm l U]
  rw [e1, e2, e3]
  generalize U * U = a
  generalize U * l = c
  generalize l * l = d
  omega
theorem sqHigh {M : Nat} (hM : M < 9007199254740992) : f_X0_squareHigh (lN M) = lN (M * M / 18014398509481984) := by
  have hp := sq_parts M
  have hU : M / 134217728 < 67108864 := by omega
  have hl : M % 134217728 < 134217728 := by omega
  have h27 : lN M >>> ((27 : Int32).toInt64 &&& 63) = lN (M / 134217728) := wb_sar (k := 27) (by omega) (by decide)
  have hm27 : lN M &&& 134217727 = lN (M % 134217728) := by
    rw [show (134217727 : Int64) = lN (134217728 - 1) from rfl, g_mask (s := 27) (by decide) (by decide) (by omega)]
  have hc : M / 134217728 * (M % 134217728) < 9007199254740992 := by
    have := Nat.mul_lt_mul'' hU hl
    omega
  have hd : M % 134217728 * (M % 134217728) < 18014398509481984 := by
    have := Nat.mul_lt_mul'' hl hl
    omega
  have hx : M / 134217728 * (M % 134217728) % 67108864 < 67108864 := by omega
  unfold f_X0_squareHigh g_X0_squareHigh_33n
  rw [h27, hm27, lN_mul, lN_mul, lN_mul]
  have e26 : lN (M / 134217728 * (M % 134217728)) >>> ((26 : Int32).toInt64 &&& 63) = lN (M / 134217728 * (M % 134217728) / 67108864) := wb_sar (k := 26) (by omega) (by decide)
  have em26 : lN (M / 134217728 * (M % 134217728)) &&& 67108863 = lN (M / 134217728 * (M % 134217728) % 67108864) := by
    rw [show (67108863 : Int64) = lN (67108864 - 1) from rfl, g_mask (s := 26) (by decide) (by decide) (by omega)]
  have e28 : lN (M / 134217728 * (M % 134217728) % 67108864) <<< ((28 : Int32).toInt64 &&& 63) = lN (M / 134217728 * (M % 134217728) % 67108864 * 268435456) := wb_shl (k := 28) _ (by decide)
  rw [e26, em26, e28, lN_add, lN_add]
  have e54 : lN (M % 134217728 * (M % 134217728) + M / 134217728 * (M % 134217728) % 67108864 * 268435456) >>> ((54 : Int32).toInt64 &&& 63) = lN ((M % 134217728 * (M % 134217728) + M / 134217728 * (M % 134217728) % 67108864 * 268435456) / 18014398509481984) := wb_sar (k := 54) (by omega) (by decide)
  rw [e54, lN_add]
  congr 1
  rw [hp]
  omega
theorem diff_c {H G Lo M P : Nat} (hM : 0 < M) (hD : (H * P + Lo ≤ (H + G) * P ∧ (H + G) * P - (H * P + Lo) ≤ M) ∨ ((H + G) * P < H * P + Lo ∧ H * P + Lo - (H + G) * P < M)) : Lo < G * P + M ∧ G * P ≤ M + Lo := by
  rw [Nat.add_mul] at hD
  generalize H * P = a at hD
  generalize G * P = b at hD ⊢
  omega
theorem diff_i {b Lo M : Nat} (h : Lo < b + M ∧ b ≤ M + Lo) : ¬ ((b : Int) - Lo ≤ -(M : Int)) ∧ ¬ ((M : Int) < (b : Int) - Lo) := by
  omega
theorem isRoot_1 {w L M : Nat} (hw : w < 4096) (hw0 : 0 < w) (hL : L ≤ 6) (h : rlen w L) (hM : nrt w L M) : f_X0_isNearestRoot (nI w) (lN M) = 1 := by
  obtain ⟨m1, m2⟩ := nrt_lt hL h hM
  obtain ⟨r, s, h1, h2, h3, h4⟩ := hM
  have e52 : (52 - (2 * nI L) : Int32) = nI (52 - 2 * L) := by
    rw [show (2 : Int32) = nI 2 from rfl, pk_mul, show (52 : Int32) = nI 52 from rfl, pk_sub (by omega)]
  have hX : w * 4 ^ (53 - L) = w * 2 ^ (52 - 2 * L) * 18014398509481984 := by
    have e : 4 ^ (53 - L) = 2 ^ (52 - 2 * L) * 18014398509481984 := by
      have e1 : (4 : Nat) ^ (53 - L) = 2 ^ (2 * (53 - L)) := (p24 _).symm
      have e2 : (18014398509481984 : Nat) = 2 ^ 54 := by decide
      rw [e1, e2, ← Nat.pow_add]
      congr 1
      omega
    rw [e, Nat.mul_assoc]
  rw [hX] at h1
  have hD : (M * M ≤ w * 2 ^ (52 - 2 * L) * 18014398509481984 ∧ w * 2 ^ (52 - 2 * L) * 18014398509481984 - M * M ≤ M) ∨ (w * 2 ^ (52 - 2 * L) * 18014398509481984 < M * M ∧ M * M - w * 2 ^ (52 - 2 * L) * 18014398509481984 < M) := by
    rw [← h1, h4]
    by_cases c : s ≤ r
    · rw [if_pos c]
      exact Or.inl ⟨by omega, by omega⟩
    · rw [if_neg c]
      have e : (r + 1) * (r + 1) = r * r + 2 * r + 1 := by
        rw [Nat.add_mul, Nat.mul_add]
        omega
      rw [e]
      exact Or.inr ⟨by omega, by omega⟩
  have hw2 : w * 2 ^ (52 - 2 * L) < 9007199254740992 := by
    have h5 : 4 ^ L * 2 ^ (52 - 2 * L) = 4503599627370496 := by
      have e1 : (4 : Nat) ^ L = 2 ^ (2 * L) := (p24 L).symm
      have h9 := @Nat.pow_add 2 (2 * L) (52 - 2 * L)
      rw [show 2 * L + (52 - 2 * L) = 52 by omega] at h9
      rw [e1]
      exact h9.symm
    have h6 : w * 2 ^ (52 - 2 * L) ≤ 4 ^ L * 2 ^ (52 - 2 * L) := Nat.mul_le_mul_right _ (by have := h.1; omega)
    omega
  unfold f_X0_isNearestRoot
  rw [if_neg (nI_ne0 hw0 (by omega)), rl_eq hw hL h, e52, nI_l (by omega), wb_shl w (by omega), sqHigh m2]
  generalize w * 2 ^ (52 - 2 * L) = W at hD hw2 ⊢
  have hHL : M * M = M * M / 18014398509481984 * 18014398509481984 + M * M % 18014398509481984 := by omega
  have hLo : M * M % 18014398509481984 < 18014398509481984 := Nat.mod_lt _ (by decide)
  unfold g_X0_isNearestRoot_33n
  rw [sqLow]
  generalize M * M / 18014398509481984 = H at hHL ⊢
  generalize M * M % 18014398509481984 = Lo at hHL hLo ⊢
  rw [hHL] at hD
  have hH : H ≤ W ∧ W ≤ H + 1 := by
    rcases hD with ⟨c1, c2⟩ | ⟨c1, c2⟩
    · omega
    · omega
  rw [lN_sub hH.1]
  generalize hg : W - H = G
  have hG : G ≤ 1 := by omega
  have hWG : W = H + G := by omega
  subst hWG
  obtain ⟨k1, k2⟩ := diff_i (diff_c (show 0 < M by omega) hD)
  clear hD hHL hH
  have eG : lN G <<< ((54 : Int32).toInt64 &&& 63) = lN (G * 18014398509481984) := wb_shl (k := 54) _ (by decide)
  have tM : (lN M).toInt = M := lNt (by omega)
  have tG : (lN (G * 18014398509481984)).toInt = ((G * 18014398509481984 : Nat) : Int) := lNt (by omega)
  have tL : (lN Lo).toInt = Lo := lNt (by omega)
  have tD : (lN (G * 18014398509481984) - lN Lo).toInt = ((G * 18014398509481984 : Nat) : Int) - Lo := by
    rw [fb_subL (by rw [tG, tL]; omega) (by rw [tG, tL]; omega), tG, tL]
  have tN : (-(lN M) : Int64).toInt = -(M : Int) := by rw [fb_negL (by rw [tM]; omega), tM]
  rw [eG, if_neg (show ¬ lN G < 0 by rw [lN0, lNlt (by omega) (by decide)]; omega), if_pos (show lN G ≤ 1 by rw [lN1, lNle (by omega) (by decide)]; omega)]
  rw [if_neg (show ¬ (lN (G * 18014398509481984) - lN Lo) ≤ -(lN M) by rw [fa_le64, tD, tN]; exact k1), if_neg (show ¬ lN M < (lN (G * 18014398509481984) - lN Lo) by rw [fa_lt64, tD, tM]; exact k2)]
theorem ag_isRoot {S : pS} {T : pT} (hR : rel S T) (o : Nat → Int64) (p0 : Int32) : agZ (wrZ [2] S o (f_X0_isRoot S p0)) (f_X1_isRoot T p0) := by
  unfold f_X0_isRoot f_X1_isRoot
  rcases r4k p0 with ⟨w, hw, rfl, e0, e1⟩ | ⟨e0, e1⟩
  · rw [e0, e1, no_1]
    dsimp only
    rw [if_pos (show (0 : Int32) = 0 from rfl)]
    have h1 : f_X0_isNearestRoot (nI w) (f_X0_nearestRoot (nI w)) = 1 := by
      rcases Nat.eq_zero_or_pos w with c | c
      · subst c
        decide +kernel
      · obtain ⟨L, hL, h⟩ := rlen_ex hw
        obtain ⟨M, ⟨hM, hX⟩ | c2⟩ := nr_X0 hw hL h
        · rw [hX, isRoot_1 hw c hL h hM]
        · omega
    rw [h1]
    exact agZ_ok (rel_th hR 0) o _ rfl Iff.rfl
  · rw [e0, e1, no_0]
    exact agZ_er (rel_th hR 1) o _ 2 rfl (by decide)
/-! squares: the double nearest to one, on both sides -/
def rnd (q r w : Nat) : Nat := if 2 ^ (w - 1) < r then q + 1 else if r = 2 ^ (w - 1) then (if q % 2 = 1 then q + 1 else q) else q
theorem rnd_c (q r w : Nat) : rnd q r w = q ∨ rnd q r w = q + 1 := by
  unfold rnd
  repeat' split
  all_goals first | exact Or.inl rfl | exact Or.inr rfl
theorem two_w {w : Nat} (h1 : w = 52 ∨ w = 53) : (2 ^ w = 4503599627370496 ∨ 2 ^ w = 9007199254740992) ∧ 2 ^ (w - 1) < 9007199254740992 ∧ 2 ^ (w - 1) * 2 = 2 ^ w := by
  rcases h1 with rfl | rfl <;> decide
theorem lNsh (k : Nat) (hk : k < 64) : ((1 : Int64) <<< (((nI k) : Int32).toInt64 &&& 63)) = lN (2 ^ k) := by
  rw [lN1, wb_shl 1 hk, Nat.one_mul]
theorem sq45 (p0 : Int64) (p1 : Int32) {H Lo w : Nat} (hw : w = 52 ∨ w = 53) (hH : H < 4503599627370496) (hLo : Lo < 18014398509481984) : g_X0_nearestSquareBits_45 p0 p1 (lN H) (lN Lo) (nI w) = g_X0_nearestSquareBits_113 p0 p1 (nI w) (lN (rnd (H * 2 ^ (54 - w) + Lo / 2 ^ w) (Lo % 2 ^ w) w)) := by
  obtain ⟨t1, t2, t3⟩ := two_w hw
  have hp : H * 2 ^ (54 - w) + Lo / 2 ^ w < 36028797018963968 := by
    rcases hw with rfl | rfl
    · rw [show 2 ^ (54 - 52) = 4 from rfl, show 2 ^ 52 = 4503599627370496 from rfl]; omega
    · rw [show 2 ^ (54 - 53) = 2 from rfl, show 2 ^ 53 = 9007199254740992 from rfl]; omega
  have hm : Lo % 2 ^ w < 2 ^ w := Nat.mod_lt _ (Nat.two_pow_pos _)
  unfold g_X0_nearestSquareBits_45 g_X0_nearestSquareBits_61n
  rw [show (54 : Int32) = nI 54 from rfl, pk_sub (by omega), wb_shl H (by omega), wb_sar (a := Lo) (k := w) (by omega) (by omega), lN_add, show (nI w - 1 : Int32) = nI (w - 1) from pk_sub (b := 1) (by omega), lNsh w (by omega), lNsh (w - 1) (by omega), show lN (2 ^ w) - 1 = lN (2 ^ w - 1) from lN_sub (b := 1) (by omega), wb_mask (n := Lo) (k := w) (by omega) (by omega), wb_a1 (by omega)]
  unfold rnd g_X0_nearestSquareBits_107
  rw [lN_1]
  by_cases c1 : 2 ^ (w - 1) < Lo % 2 ^ w
  · rw [if_pos c1, if_pos ((lNlt (by omega) (by omega)).mpr c1)]
  · rw [if_neg c1, if_neg (fun z => c1 ((lNlt (by omega) (by omega)).mp z))]
    by_cases c2 : Lo % 2 ^ w = 2 ^ (w - 1)
    · rw [if_pos c2, if_pos (by rw [c2])]
      by_cases c3 : (H * 2 ^ (54 - w) + Lo / 2 ^ w) % 2 = 1
      · rw [if_pos c3, if_pos (by rw [c3]; rfl)]
      · have c4 : ¬ lN ((H * 2 ^ (54 - w) + Lo / 2 ^ w) % 2) = 1 := fun z => c3 ((lNeq (b := 1) (by omega) (by decide)).mp z)
        rw [if_neg c3, if_neg c4]
    · rw [if_neg c2, if_neg (fun z => c2 ((lNeq (by omega) (by omega)).mp z))]
theorem sq107 (p0 : Int64) (p1 : Int32) {H Y w : Nat} (hw : w = 52 ∨ w = 53) (hH : H < 4503599627370496) (hY : Y < 9223372036854775808) : g_X1_nearestSquare_107 p0 p1 (lN Y) (lN H) (nI w) = g_X1_nearestSquare_177 p0 p1 (nI w) (lN (rnd (H * 2 ^ (54 - w) + Y % 18014398509481984 / 2 ^ w) (Y % 18014398509481984 % 2 ^ w) w)) := by
  obtain ⟨t1, t2, t3⟩ := two_w hw
  have hLo : Y % 18014398509481984 < 18014398509481984 := Nat.mod_lt _ (by decide)
  have eY : lN Y - lN Y / 18014398509481984 * 18014398509481984 = lN (Y % 18014398509481984) := pk_lRem (b := 18014398509481984) hY (by decide) (by decide)
  unfold g_X1_nearestSquare_107 g_X1_nearestSquare_131n g_X1_nearestSquare_142n
  rw [eY]
  generalize Y % 18014398509481984 = Lo at hLo ⊢
  have hp : H * 2 ^ (54 - w) + Lo / 2 ^ w < 36028797018963968 := by
    rcases hw with rfl | rfl
    · rw [show 2 ^ (54 - 52) = 4 from rfl, show 2 ^ 52 = 4503599627370496 from rfl]; omega
    · rw [show 2 ^ (54 - 53) = 2 from rfl, show 2 ^ 53 = 9007199254740992 from rfl]; omega
  have hm : Lo % 2 ^ w < 2 ^ w := Nat.mod_lt _ (Nat.two_pow_pos _)
  have e2 : lN (2 ^ (w - 1)) * 2 = lN (2 ^ w) := by rw [lN2, lN_mul, t3]
  rw [show (54 : Int32) = nI 54 from rfl, pk_sub (by omega), wb_shl H (by omega), wb_sar (a := Lo) (k := w) (by omega) (by omega), lN_add, show (nI w - 1 : Int32) = nI (w - 1) from pk_sub (b := 1) (by omega), lNsh (w - 1) (by omega), e2, pk_lRem (a := Lo) (b := 2 ^ w) (by omega) (by omega) (by omega)]
  have e3 : lN (H * 2 ^ (54 - w) + Lo / 2 ^ w) - lN (H * 2 ^ (54 - w) + Lo / 2 ^ w) / 2 * 2 = lN ((H * 2 ^ (54 - w) + Lo / 2 ^ w) % 2) := pk_lRem (b := 2) (by omega) (by decide) (by decide)
  rw [e3]
  unfold rnd g_X1_nearestSquare_171
  rw [lN_1]
  by_cases c1 : 2 ^ (w - 1) < Lo % 2 ^ w
  · rw [if_pos c1, if_pos ((lNlt (by omega) (by omega)).mpr c1)]
  · rw [if_neg c1, if_neg (fun z => c1 ((lNlt (by omega) (by omega)).mp z))]
    by_cases c2 : Lo % 2 ^ w = 2 ^ (w - 1)
    · rw [if_pos c2, if_pos (by rw [c2])]
      by_cases c3 : (H * 2 ^ (54 - w) + Lo / 2 ^ w) % 2 = 1
      · rw [if_pos c3, if_pos (by rw [c3]; rfl)]
      · have c4 : ¬ lN ((H * 2 ^ (54 - w) + Lo / 2 ^ w) % 2) = 1 := fun z => c3 ((lNeq (b := 1) (by omega) (by decide)).mp z)
        rw [if_neg c3, if_neg c4]
    · rw [if_neg c2, if_neg (fun z => c2 ((lNeq (by omega) (by omega)).mp z))]
/-- how many digits of the square go -/
def sqW (Q : Nat) : Nat := if Q < 40564819207303340847894502572032 then 52 else 53
def sqR (Q : Nat) : Nat := rnd (Q / 2 ^ sqW Q) (Q % 2 ^ sqW Q) (sqW Q)
theorem sqW_c (Q : Nat) : sqW Q = 52 ∨ sqW Q = 53 := by
  unfold sqW
  split
  · exact Or.inl rfl
  · exact Or.inr rfl
theorem sqR_b {Q : Nat} (h1 : 20282409603651670423947251286016 ≤ Q) (h2 : Q < 81129638414606681695789005144064) : 4503599627370496 ≤ sqR Q ∧ sqR Q ≤ 9007199254740992 := by
  have hq : 4503599627370496 ≤ Q / 2 ^ sqW Q ∧ Q / 2 ^ sqW Q < 9007199254740992 := by
    unfold sqW
    split
    · rw [show 2 ^ 52 = 4503599627370496 from rfl]; omega
    · rw [show 2 ^ 53 = 9007199254740992 from rfl]; omega
  unfold sqR
  rcases rnd_c (Q / 2 ^ sqW Q) (Q % 2 ^ sqW Q) (sqW Q) with e | e
  · rw [e]; omega
  · rw [e]; omega
theorem split54 {H Lo w : Nat} (hw : w = 52 ∨ w = 53) : H * 2 ^ (54 - w) + Lo / 2 ^ w = (H * 18014398509481984 + Lo) / 2 ^ w ∧ Lo % 2 ^ w = (H * 18014398509481984 + Lo) % 2 ^ w := by
  rcases hw with rfl | rfl
  · rw [show 2 ^ (54 - 52) = 4 from rfl, show 2 ^ 52 = 4503599627370496 from rfl]; omega
  · rw [show 2 ^ (54 - 53) = 2 from rfl, show 2 ^ 53 = 9007199254740992 from rfl]; omega
def sqE (b : Nat) (h : Int32) (w : Nat) : Nat := (2 * (h.toInt - (53 - bl b : Nat)) + w + 1075).toNat
theorem sqe_toInt {b w : Nat} {h : Int32} (hw : w = 52 ∨ w = 53) (h1 : -450 ≤ h.toInt) (h2 : h.toInt ≤ 450) : (2 * (h - nI (53 - bl b)) + nI w : Int32).toInt = 2 * (h.toInt - (53 - bl b : Nat)) + w ∧ ((2 * (h - nI (53 - bl b)) + nI w : Int32).toInt + 1075 = sqE b h w) := by
  have hd := d_toInt (b := b) (h := h) (by omega) (by omega)
  have c2 : (2 : Int32).toInt = 2 := by decide
  have cw : (nI w).toInt = w := nI_toInt (by omega)
  have hm : (2 * (h - nI (53 - bl b)) : Int32).toInt = 2 * (h.toInt - (53 - bl b : Nat)) := by
    rw [fb_mulI (by rw [hd, c2]; omega) (by rw [hd, c2]; omega), hd, c2]
  have e : (2 * (h - nI (53 - bl b)) + nI w : Int32).toInt = 2 * (h.toInt - (53 - bl b : Nat)) + w := by
    rw [fb_addI (by rw [hm, cw]; omega) (by rw [hm, cw]; omega), hm, cw]
  refine ⟨e, ?_⟩
  rw [e]
  unfold sqE
  omega
/-- the bits of the double nearest to the square of b times 2 to the power of h -/
def sqV (b : Nat) (h : Int32) : Nat := sqR (b * 2 ^ (53 - bl b) * (b * 2 ^ (53 - bl b))) - 4503599627370496 + sqE b h (sqW (b * 2 ^ (53 - bl b) * (b * 2 ^ (53 - bl b)))) * 4503599627370496
theorem sq_Q {m : Nat} (h1 : 4503599627370496 ≤ m) (h2 : m < 9007199254740992) : 20282409603651670423947251286016 ≤ m * m ∧ m * m < 81129638414606681695789005144064 := by
  have a := Nat.mul_le_mul h1 h1
  have b := Nat.mul_lt_mul'' h2 h2
  omega
theorem nsq_X0 {b : Nat} {h : Int32} (hb : 0 < b) (hb2 : b < 9007199254740992) (h1 : -450 ≤ h.toInt) (h2 : h.toInt ≤ 450) : f_X0_nearestSquareBits (lN b) h = lN (sqV b h) := by
  obtain ⟨m1, m2⟩ := nrm_m hb hb2
  have e0 : ¬ lN b = 0 := by rw [lN0, lNeq (by omega) (by decide)]; omega
  unfold f_X0_nearestSquareBits
  rw [if_neg e0, dbl_eq hb hb2, wb_shl b (by omega)]
  unfold sqV
  generalize hm : b * 2 ^ (53 - bl b) = m at m1 m2 ⊢
  rw [sqHigh m2]
  unfold g_X0_nearestSquareBits_19n
  rw [dbl_eq hb hb2, wb_shl b (by omega), hm, sqLow]
  obtain ⟨q1, q2⟩ := sq_Q m1 m2
  generalize m * m = Q at q1 q2 ⊢
  have hQ : Q / 18014398509481984 * 18014398509481984 + Q % 18014398509481984 = Q := by omega
  have hr := sqR_b q1 q2
  have hfin : ∀ w, w = 52 ∨ w = 53 → sqW Q = w → g_X0_nearestSquareBits_45 (lN b) h (lN (Q / 18014398509481984)) (lN (Q % 18014398509481984)) (nI w) = lN (sqR Q - 4503599627370496 + sqE b h w * 4503599627370496) := by
    intro w hw ew
    rw [sq45 (lN b) h hw (by omega) (by omega)]
    obtain ⟨s1, s2⟩ := split54 (H := Q / 18014398509481984) (Lo := Q % 18014398509481984) hw
    rw [s1, s2, hQ]
    unfold g_X0_nearestSquareBits_113
    rw [dbl_eq hb hb2]
    have eR : rnd (Q / 2 ^ w) (Q % 2 ^ w) w = sqR Q := by unfold sqR; rw [ew]
    rw [eR]
    exact pack_0 hr.1 (sqe_toInt hw h1 h2).2
  unfold g_X0_nearestSquareBits_27n
  by_cases c : Q < 40564819207303340847894502572032
  · have ew : sqW Q = 52 := by unfold sqW; rw [if_pos c]
    rw [if_neg (show ¬ (2251799813685248 : Int64) ≤ lN (Q / 18014398509481984) by rw [show (2251799813685248 : Int64) = lN 2251799813685248 from rfl, lNle (by decide) (by omega)]; omega), ew]
    exact hfin 52 (Or.inl rfl) ew
  · have ew : sqW Q = 53 := by unfold sqW; rw [if_neg c]
    rw [if_pos (show (2251799813685248 : Int64) ≤ lN (Q / 18014398509481984) by rw [show (2251799813685248 : Int64) = lN 2251799813685248 from rfl, lNle (by decide) (by omega)]; omega), ew]
    exact hfin 53 (Or.inr rfl) ew
theorem nsq_X1 {b : Nat} {h : Int32} (hb : 0 < b) (hb2 : b < 9007199254740992) (h1 : -450 ≤ h.toInt) (h2 : h.toInt ≤ 450) : f_X1_nearestSquare (lN b) h = lN (sqV b h) := by
  obtain ⟨m1, m2⟩ := nrm_m hb hb2
  have hl : bl b ≤ 53 := bl_le.mpr (by omega)
  have e0 : ¬ lN b = 0 := by rw [lN0, lNeq (by omega) (by decide)]; omega
  have e1 : (53 - f_X1_lengthOf (lN b) : Int32) = nI (53 - bl b) := by
    rw [len_eq (by omega), show (53 : Int32) = nI 53 from rfl, pk_sub (by omega)]
  unfold f_X1_nearestSquare
  rw [if_neg e0]
  unfold g_X1_nearestSquare_26n
  rw [e1, wb_shl b (by omega)]
  unfold sqV
  generalize hm : b * 2 ^ (53 - bl b) = m at m1 m2 ⊢
  have hp := sq_parts m
  have hU : m / 134217728 < 67108864 := by omega
  have hl2 : m % 134217728 < 134217728 := by omega
  have h27 : ∀ a, a < 2 ^ 62 → lN a >>> ((27 : Int32).toInt64 &&& 63) = lN (a / 134217728) := fun a ha => wb_sar (k := 27) ha (by decide)
  have hc : m / 134217728 * (m % 134217728) < 9007199254740992 := by
    have := Nat.mul_lt_mul'' hU hl2
    omega
  have hd : m % 134217728 * (m % 134217728) < 18014398509481984 := by
    have := Nat.mul_lt_mul'' hl2 hl2
    omega
  have e34 : lN m - lN m / 134217728 * 134217728 = lN (m % 134217728) := pk_lRem (b := 134217728) (by omega) (by decide) (by decide)
  rw [h27 m (by omega), e34]
  unfold g_X1_nearestSquare_34n g_X1_nearestSquare_62n
  have ec : (2 * lN (m / 134217728)) * lN (m % 134217728) = lN (2 * (m / 134217728 * (m % 134217728))) := by
    rw [lN2, lN_mul, lN_mul, Nat.mul_assoc]
  have er : lN (2 * (m / 134217728 * (m % 134217728))) - lN (2 * (m / 134217728 * (m % 134217728))) / 134217728 * 134217728 = lN (2 * (m / 134217728 * (m % 134217728)) % 134217728) := pk_lRem (b := 134217728) (by omega) (by decide) (by decide)
  have es : lN (2 * (m / 134217728 * (m % 134217728)) % 134217728) <<< ((27 : Int32).toInt64 &&& 63) = lN (2 * (m / 134217728 * (m % 134217728)) % 134217728 * 134217728) := wb_shl (k := 27) _ (by decide)
  rw [ec, er, es, h27 _ (by omega), lN_mul, lN_mul, lN_add, lN_add]
  obtain ⟨q1, q2⟩ := sq_Q m1 m2
  generalize hc0 : m / 134217728 * (m % 134217728) = c at hp hc ⊢
  generalize hd0 : m % 134217728 * (m % 134217728) = d at hp hd ⊢
  generalize hu0 : m / 134217728 * (m / 134217728) = u at hp ⊢
  have hY : d + 2 * c % 134217728 * 134217728 < 9223372036854775808 := by omega
  have e54 : lN (d + 2 * c % 134217728 * 134217728) >>> ((54 : Int32).toInt64 &&& 63) = lN ((d + 2 * c % 134217728 * 134217728) / 18014398509481984) := wb_sar (k := 54) (by omega) (by decide)
  rw [e54, lN_add]
  generalize m * m = Q at hp q1 q2 ⊢
  have hH : u + 2 * c / 134217728 + (d + 2 * c % 134217728 * 134217728) / 18014398509481984 = Q / 18014398509481984 := by omega
  have hLo : (d + 2 * c % 134217728 * 134217728) % 18014398509481984 = Q % 18014398509481984 := by omega
  rw [hH]
  have hQ : Q / 18014398509481984 * 18014398509481984 + Q % 18014398509481984 = Q := by omega
  have hr := sqR_b q1 q2
  have hfin : ∀ w, w = 52 ∨ w = 53 → sqW Q = w → g_X1_nearestSquare_107 (lN b) h (lN (d + 2 * c % 134217728 * 134217728)) (lN (Q / 18014398509481984)) (nI w) = lN (sqR Q - 4503599627370496 + sqE b h w * 4503599627370496) := by
    intro w hw ew
    rw [sq107 (lN b) h hw (by omega) hY, hLo]
    obtain ⟨s1, s2⟩ := split54 (H := Q / 18014398509481984) (Lo := Q % 18014398509481984) hw
    rw [s1, s2, hQ]
    have eR : rnd (Q / 2 ^ w) (Q % 2 ^ w) w = sqR Q := by unfold sqR; rw [ew]
    rw [eR]
    obtain ⟨t1, t2⟩ := sqe_toInt (b := b) hw h1 h2
    unfold g_X1_nearestSquare_177 g_X1_nearestSquare_210
    rw [e1]
    by_cases c1 : sqR Q = 9007199254740992
    · rw [c1, if_pos (show lN 9007199254740992 = 9007199254740992 from rfl), show lN 9007199254740992 / 2 = lN 4503599627370496 from by decide]
      have t3 : (2 * (h - nI (53 - bl b)) + nI w + 1 : Int32).toInt = 2 * (h.toInt - (53 - bl b : Nat)) + w + 1 := by
        rw [fb_addI (by rw [t1, i1]; omega) (by rw [t1, i1]; omega), t1, i1]
      rw [b1_53 (E := sqE b h w + 1) (by decide) (by decide) (by rw [t3]; omega) (by rw [t3]; omega) (by rw [t3]; omega)]
      congr 1
      omega
    · have c4 : ¬ lN (sqR Q) = 9007199254740992 := fun z => c1 ((lNeq (b := 9007199254740992) (by omega) (by decide)).mp z)
      rw [if_neg c4]
      exact b1_53 hr.1 (by omega) (by rw [t1]; omega) (by rw [t1]; omega) t2
  unfold g_X1_nearestSquare_81n
  by_cases c1 : Q < 40564819207303340847894502572032
  · have ew : sqW Q = 52 := by unfold sqW; rw [if_pos c1]
    rw [if_pos (show lN (Q / 18014398509481984) < (2251799813685248 : Int64) by rw [show (2251799813685248 : Int64) = lN 2251799813685248 from rfl, lNlt (by omega) (by decide)]; omega), ew]
    exact hfin 52 (Or.inl rfl) ew
  · have ew : sqW Q = 53 := by unfold sqW; rw [if_neg c1]
    rw [if_neg (show ¬ lN (Q / 18014398509481984) < (2251799813685248 : Int64) by rw [show (2251799813685248 : Int64) = lN 2251799813685248 from rfl, lNlt (by omega) (by decide)]; omega), ew]
    exact hfin 53 (Or.inr rfl) ew
/-! squareBits, backBits, isBack -/
theorem lsq_c {S : pS} {T : pT} (hR : rel S T) (p0 : Int32) :
    (f_X0_checkSlot p0 = .error 1 ∧ f_X1_lacksSquare T p0 = (1, thS T 1)) ∨
    (f_X0_checkSlot p0 = .ok () ∧ f_X0_checkSquared S p0 = .error 5 ∧ f_X1_lacksSquare T p0 = (1, thS T 2)) ∨
    (f_X0_checkSlot p0 = .ok () ∧ f_X0_checkSquared S p0 = .ok () ∧ f_X1_lacksSquare T p0 = (0, thS T 0) ∧ -400 ≤ (shS S p0.toNatClampNeg).toInt ∧ (shS S p0.toNatClampNeg).toInt ≤ 400) := by
  have m4 : (-400 : Int32).toInt = -400 := by decide
  have p4 : (400 : Int32).toInt = 400 := by decide
  rcases slot_c p0 with ⟨h, e0, e1⟩ | ⟨e0, e1⟩
  · have hl : f_X1_lacksSquare T p0 = (if shS S p0.toNatClampNeg < (-400) then g_X1_lacksSquare_41 (thS T 0) else (if (400 : Int32) < shS S p0.toNatClampNeg then g_X1_lacksSquare_41 (thS T 0) else g_X1_lacksSquare_42 (thS T 0) 1)) := by
      unfold f_X1_lacksSquare
      rw [e1, no_1]
      dsimp only
      rw [if_pos (show (0 : Int32) = 0 from rfl), show shT (thS T 0) = shS S from hR.2.2.1.symm]
    have h41 : g_X1_lacksSquare_41 (thS T 0) = (1, thS T 2) := by
      unfold g_X1_lacksSquare_41 g_X1_lacksSquare_42
      rw [no_0]
      rfl
    have h42 : g_X1_lacksSquare_42 (thS T 0) 1 = (0, thS T 0) := by
      unfold g_X1_lacksSquare_42
      rw [no_1]
      rfl
    rw [h41, h42] at hl
    rw [hl]
    unfold f_X0_checkSquared g_X0_checkSquared_21
    by_cases c1 : shS S p0.toNatClampNeg < (-400)
    · rw [if_pos c1, if_pos c1]
      exact Or.inr (Or.inl ⟨e0, rfl, rfl⟩)
    · by_cases c2 : (400 : Int32) < shS S p0.toNatClampNeg
      · have c3 : ¬ shS S p0.toNatClampNeg ≤ 400 := fun z => by
          rw [fa_le, p4] at z
          rw [fa_lt, p4] at c2
          omega
        rw [if_neg c1, if_neg c1, if_pos c2, if_neg c3]
        exact Or.inr (Or.inl ⟨e0, rfl, rfl⟩)
      · have c3 : shS S p0.toNatClampNeg ≤ 400 := by
          rw [fa_le, p4]
          rw [fa_lt, p4] at c2
          omega
        rw [if_neg c1, if_neg c1, if_neg c2, if_pos c3]
        rw [fa_le, p4] at c3
        rw [fa_lt, m4] at c1
        exact Or.inr (Or.inr ⟨e0, rfl, rfl, by omega, c3⟩)
  · have hl : f_X1_lacksSquare T p0 = (1, thS T 1) := by
      unfold f_X1_lacksSquare
      rw [e1, no_0]
      rfl
    exact Or.inl ⟨e0, hl⟩
theorem nsq_ag {g : Int32} {o : Int64} {h : Int32} (hk : okN g o h) (h1 : -400 ≤ h.toInt) (h2 : h.toInt ≤ 400) : f_X0_nearestSquareBits o h = f_X1_nearestSquare o h := by
  by_cases c : g = 0
  · obtain ⟨e1, e2⟩ := okN_0' hk c
    subst e1
    subst e2
    rfl
  · obtain ⟨b, rfl, hb, hb2, -⟩ := okN_nat hk c
    rw [nsq_X0 hb hb2 (by omega) (by omega), nsq_X1 hb hb2 (by omega) (by omega)]
theorem ag_squareBits {S : pS} {T : pT} (hR : rel S T) (o : Nat → Int64) (p0 : Int32) : agL (wrL [1, 5] S o (f_X0_squareBits S p0)) (f_X1_squareBits T p0) := by
  unfold f_X0_squareBits f_X1_squareBits
  rcases lsq_c hR p0 with ⟨e0, e1⟩ | ⟨e0, e2, e1⟩ | ⟨e0, e2, e1, h1, h2⟩
  · rw [e0, e1]
    exact agL_er (rel_th hR 1) o _ 1 rfl (by decide)
  · rw [e0, e2, e1]
    exact agL_er (rel_th hR 2) o _ 5 rfl (by decide)
  · rw [e0, e2, e1]
    dsimp only
    rw [if_pos (show (0 : Int32) = 0 from rfl), show odT (thS T 0) = odS S from hR.2.1.symm, show shT (thS T 0) = shS S from hR.2.2.1.symm]
    exact agL_ok (rel_th hR 0) o _ rfl (nsq_ag (hR.2.2.2.1 p0.toNatClampNeg) h1 h2)
theorem back_ag {w : Nat} (hw : w < 4096) : f_X0_nearestBackBits (nI w) = f_X1_square (f_X1_nearestRoot (nI w)) := by
  rcases Nat.eq_zero_or_pos w with c | c
  · subst c
    rfl
  · obtain ⟨L, hL, h⟩ := rlen_ex hw
    obtain ⟨M, ⟨hM, hX⟩ | c2⟩ := nr_X0 hw hL h
    · obtain ⟨a1, a2⟩ := root_ag hw c hL h hM hX
      obtain ⟨m1, m2⟩ := nrt_lt hL h hM
      have hr := re_toInt hw hL h
      unfold f_X0_nearestBackBits
      rw [if_neg (nI_ne0 c (by omega)), hX, nsq_X0 (by omega) m2 (by omega) (by omega), a1]
      unfold f_X1_square
      have hV : M - 4503599627370496 + (L + 1022) * 4503599627370496 < 9223372036854775808 := by omega
      have e0 : ¬ lN (M - 4503599627370496 + (L + 1022) * 4503599627370496) = 0 := by rw [lN0, lNeq (by omega) (by decide)]; omega
      have e1 : lN (M - 4503599627370496 + (L + 1022) * 4503599627370496) - lN (M - 4503599627370496 + (L + 1022) * 4503599627370496) / 4503599627370496 * 4503599627370496 + 4503599627370496 = lN M := by
        have e2 : lN (M - 4503599627370496 + (L + 1022) * 4503599627370496) - lN (M - 4503599627370496 + (L + 1022) * 4503599627370496) / 4503599627370496 * 4503599627370496 = lN ((M - 4503599627370496 + (L + 1022) * 4503599627370496) % 4503599627370496) := pk_lRem (b := 4503599627370496) (by omega) (by decide) (by decide)
        rw [e2, c52, lN_add]
        congr 1
        omega
      have e3 : lN (M - 4503599627370496 + (L + 1022) * 4503599627370496) / 4503599627370496 = lN (L + 1022) := by
        have e4 : lN (M - 4503599627370496 + (L + 1022) * 4503599627370496) / 4503599627370496 = lN ((M - 4503599627370496 + (L + 1022) * 4503599627370496) / 4503599627370496) := pk_lDiv (b := 4503599627370496) (by omega) (by decide) (by decide)
        rw [e4]
        congr 1
        omega
      have e5 : (nI (L + 1022) - 1075 : Int32) = f_X0_rootExponent (nI w) := by
        have c0 : ∀ n : Nat, n < 5000 → (nI n).toInt = (n : Int) := fun n hn => nI_toInt (Nat.lt_trans hn (by decide))
        have c1 := c0 (L + 1022) (by omega)
        have c3 : (1075 : Int32).toInt = 1075 := by decide
        rw [fa_eq, fb_subI (by rw [c1, c3]; omega) (by rw [c1, c3]; omega), c1, c3, hr]
        omega
      rw [if_neg e0, e1, e3, lN_i, e5, nsq_X1 (by omega) m2 (by omega) (by omega)]
    · omega
theorem ag_backBits {S : pS} {T : pT} (hR : rel S T) (o : Nat → Int64) (p0 : Int32) : agL (wrL [2] S o (f_X0_backBits S p0)) (f_X1_backBits T p0) := by
  unfold f_X0_backBits f_X1_backBits
  rcases r4k p0 with ⟨w, hw, rfl, e0, e1⟩ | ⟨e0, e1⟩
  · rw [e0, e1, no_1]
    dsimp only
    rw [if_pos (show (0 : Int32) = 0 from rfl)]
    exact agL_ok (rel_th hR 0) o _ rfl (back_ag hw)
  · rw [e0, e1, no_0]
    exact agL_er (rel_th hR 1) o _ 2 rfl (by decide)
theorem sh_go {w : Nat} (hw : w < 4096) : ∀ n v, v ≤ 31 → 31 - v < n → w % 2 ^ v = 0 → ∃ s, s ≤ 31 ∧ g_X0_shiftOf_8 (nI w) n (nI v) = nI s ∧ w % 2 ^ s = 0 := by
  intro n
  induction n with
  | zero => intro v h1 h2; omega
  | succ n ih =>
    intro v h1 h2 h3
    rw [g_X0_shiftOf_8]
    by_cases c : v = 31
    · subst c
      rw [if_pos (by decide)]
      exact ⟨31, by decide, rfl, h3⟩
    · rw [if_neg (show ¬ (31 : Int32) ≤ nI (v) from nI_ge (a := v) (b := 31) (by omega) (by decide)), bit_of (by omega) (by omega), nI_1]
      by_cases c2 : w / 2 ^ v % 2 = 0
      · rw [c2, if_pos (show nI 0 = 0 from rfl)]
        refine ih (v + 1) (by omega) (by omega) ?_
        rw [Nat.pow_succ, Nat.mod_mul, h3, c2, Nat.mul_zero, Nat.add_zero]
      · have e : w / 2 ^ v % 2 = 1 := by omega
        rw [e, if_neg (by decide)]
        exact ⟨v, h1, rfl, h3⟩
theorem w_parts {w : Nat} (hw : w < 4096) (hw0 : 0 < w) : ∃ b s : Nat, w = b * 2 ^ s ∧ 0 < b ∧ b < 4096 ∧ s ≤ 12 ∧ f_X0_signOf (nI w) = 1 ∧ f_X0_oddOf (nI w) = lN b ∧ f_X0_shiftOf (nI w) = nI s := by
  obtain ⟨s, s1, s2, s3⟩ := sh_go hw (((31 : Int32).toInt - (0 : Int32).toInt).toNat + 1) 0 (Nat.zero_le _) (by decide) (Nat.mod_one _)
  have e : w = w / 2 ^ s * 2 ^ s := by
    have := Nat.div_add_mod w (2 ^ s)
    rw [s3, Nat.add_zero, Nat.mul_comm] at this
    exact this.symm
  have hb : 0 < w / 2 ^ s := by
    rcases Nat.eq_zero_or_pos (w / 2 ^ s) with c | c
    · rw [c, Nat.zero_mul] at e; omega
    · exact c
  have hs : s ≤ 12 := by
    rcases Nat.lt_or_ge 12 s with c | c
    · have h9 : 2 ^ 13 ≤ 2 ^ s := Nat.pow_le_pow_right (by decide) c
      have h8 : 2 ^ 13 = 8192 := by decide
      have h7 : 1 * 2 ^ s ≤ w / 2 ^ s * 2 ^ s := Nat.mul_le_mul_right _ hb
      omega
    · exact c
  have h6 : w / 2 ^ s ≤ w := Nat.div_le_self _ _
  have hsh : f_X0_shiftOf (nI w) = nI s := by
    unfold f_X0_shiftOf
    rw [if_neg (nI_ne0 hw0 (by omega))]
    exact s2
  refine ⟨w / 2 ^ s, s, e, hb, by omega, hs, ?_, ?_, hsh⟩
  · unfold f_X0_signOf
    rw [if_neg (nI_ne0 hw0 (by omega)), if_pos (nI_pos' (by omega))]
  · unfold f_X0_oddOf f_X0_sizeOf
    rw [hsh, if_pos (nI_pos' (by omega)), nI_l (by omega), wb_sar (by omega) (by omega)]
theorem whole_bits {w : Nat} (hw : w < 4096) : f_X0_bitsOf (f_X0_signOf (nI w)) (f_X0_oddOf (nI w)) (f_X0_shiftOf (nI w)) = f_X1_bitsOf ((nI w).toInt64) 0 := by
  rcases Nat.eq_zero_or_pos w with c | c
  · subst c
    rfl
  · obtain ⟨b, s, e, hb, hb2, hs, h1, h2, h3⟩ := w_parts hw c
    have hsi : (nI s).toInt = s := nI_toInt (by omega)
    rw [h1, h2, h3, nI_l (by omega), Vb_eq hb (by omega) (by omega) (by omega), b1_v c (by omega) (by decide) (by decide)]
    have hbl : bl w = bl b + s := by rw [e, bl_shift hb]
    have hbl2 : bl w ≤ 12 := bl_le.mpr hw
    have em : w * 2 ^ (53 - bl w) = b * 2 ^ (53 - bl b) := by
      rw [hbl, e, Nat.mul_assoc, ← Nat.pow_add, show s + (53 - (bl b + s)) = 53 - bl b by omega]
    have eE : Eb w 0 = Eb b (nI s) := by
      unfold Eb
      rw [hsi, i0]
      omega
    unfold Vb
    rw [em, eE]
theorem ag_isBack {S : pS} {T : pT} (hR : rel S T) (o : Nat → Int64) (p0 : Int32) : agZ (wrZ [2] S o (f_X0_isBack S p0)) (f_X1_isBack T p0) := by
  unfold f_X0_isBack f_X1_isBack
  rcases r4k p0 with ⟨w, hw, rfl, e0, e1⟩ | ⟨e0, e1⟩
  · rw [e0, e1, no_1]
    dsimp only
    rw [if_pos (show (0 : Int32) = 0 from rfl), back_ag hw, whole_bits hw]
    split
    · exact agZ_ok (rel_th hR 0) o _ rfl Iff.rfl
    · exact agZ_ok (rel_th hR 0) o _ rfl Iff.rfl
  · rw [e0, e1, no_0]
    exact agZ_er (rel_th hR 1) o _ 2 rfl (by decide)
/-! doubles: what bitsOfDouble tells of a normal number -/
theorem nb_key {s : Bool} {c : Nat} {q : Int} (h : nok c q) : FP.Core.dkey (nb s c q) = if s then -(((q + 1075).toNat * 4503599627370496 + (c - 4503599627370496) : Nat) : Int) else (((q + 1075).toNat * 4503599627370496 + (c - 4503599627370496) : Nat) : Int) := by
  have hb := nb_bits (s := s) h
  obtain ⟨h1, h2, h3, h4⟩ := h
  have hE : (q + 1075).toNat ≤ 2046 := by omega
  unfold FP.Core.dkey
  rw [hb]
  generalize (q + 1075).toNat = E at hE ⊢
  cases s
  · have c1 : ¬ (2 : Nat) ^ 63 ≤ (if false = true then 2 ^ 63 else 0) + (E * 2 ^ 52 + (c - 2 ^ 52)) := by
      rw [if_neg (by decide)]
      omega
    rw [if_neg c1, if_neg (by decide), if_neg (by decide)]
    omega
  · have c1 : (2 : Nat) ^ 63 ≤ (if true = true then 2 ^ 63 else 0) + (E * 2 ^ 52 + (c - 2 ^ 52)) := by
      rw [if_pos rfl]
      omega
    rw [if_pos c1, if_pos rfl, if_pos rfl]
    omega
theorem zero_nn : FP.Core.val64 FP.dconst0 ≠ .nan := by
  show FP.Core.val64 0 ≠ .nan
  rw [FP.Core.val64_zero]
  exact fun e => by cases e
theorem zero_key : FP.Core.dkey FP.dconst0 = 0 := by decide +kernel
theorem nb_gt0 {c : Nat} {q : Int} (h : nok c q) : FP.dcmp (nb false c q) FP.dconst0 = some .gt := by
  refine (FP.Core.dcmp_gt_key (nb_nn h) zero_nn).mpr ?_
  rw [zero_key, nb_key h, if_neg (by decide)]
  obtain ⟨h1, h2, h3, h4⟩ := h
  omega
theorem nb_lt0 {c : Nat} {q : Int} (h : nok c q) : FP.dcmp (nb true c q) FP.dconst0 = some .lt := by
  refine (FP.Core.dcmp_lt_key (nb_nn h) zero_nn).mpr ?_
  rw [zero_key, nb_key h, if_pos rfl]
  obtain ⟨h1, h2, h3, h4⟩ := h
  omega
theorem nb_neg {c : Nat} {q : Int} (h : nok c q) : FP.dneg (nb true c q) = nb false c q := by
  have e : FP.Core.val64 (FP.dneg (nb true c q)) = .fin false c q := by
    rw [FP.val64_dneg, nb_val h]
    rfl
  apply FP.Core.val64_inj
  · rw [e]; exact fun z => by cases z
  · rw [e, nb_val h]
theorem tw_nb (k : Int) : tw k = nb false 4503599627370496 (k - 52) := by
  have h : (1 : Nat) * 2 ^ (53 - bl 1) = 4503599627370496 ∧ ((53 - bl 1 : Nat) : Int) = 52 := by decide +kernel
  unfold tw dn
  rw [h.1, h.2]
theorem tw_nok2 {k : Int} (h1 : -1022 ≤ k) (h2 : k ≤ 1023) : nok 4503599627370496 (k - 52) := ⟨by decide, by decide, by omega, by omega⟩
theorem cmp_tw {c : Nat} {q k : Int} (h : nok c q) (h1 : -1022 ≤ k) (h2 : k ≤ 1023) : (Op.cmpValue (FP.dcmp (nb false c q) (tw k)) CmpOp.l < 0) ↔ q + 52 < k := by
  have hk := tw_nok2 h1 h2
  have a := nb_nn (s := false) h
  have b := nb_nn (s := false) hk
  have ka := nb_key (s := false) h
  have kb := nb_key (s := false) hk
  rw [if_neg (by decide)] at ka kb
  obtain ⟨h3, h4, h5, h6⟩ := h
  rw [tw_nb]
  rcases Int.lt_trichotomy (FP.Core.dkey (nb false c q)) (FP.Core.dkey (nb false 4503599627370496 (k - 52))) with z | z | z
  · have e : FP.dcmp (nb false c q) (nb false 4503599627370496 (k - 52)) = some .lt := (FP.Core.dcmp_lt_key a b).mpr z
    rw [e]
    rw [ka, kb] at z
    exact ⟨fun _ => by omega, fun _ => by decide⟩
  · have e : FP.dcmp (nb false c q) (nb false 4503599627370496 (k - 52)) = some .eq := (FP.Core.dcmp_eq_key a b).mpr z
    rw [e]
    rw [ka, kb] at z
    exact ⟨fun y => absurd y (by decide), fun y => by omega⟩
  · have e : FP.dcmp (nb false c q) (nb false 4503599627370496 (k - 52)) = some .gt := (FP.Core.dcmp_gt_key a b).mpr z
    rw [e]
    rw [ka, kb] at z
    exact ⟨fun y => absurd y (by decide), fun y => by omega⟩
theorem exo_go {c : Nat} {q : Int} (h : nok c q) : ∀ k n (w a : Int32), k ≤ 11 → k < n → exI w a → w.toInt ≤ q + 52 → q + 52 < a.toInt → a.toInt - w.toInt ≤ ((2 ^ k : Nat) : Int) → (g_X0_exponentOf_11 (nb false c q) n w a (nI (11 - k))).toInt = q + 52 := by
  intro k
  induction k with
  | zero =>
    intro n w a hk hn he h1 h2 h3
    cases n with
    | zero => omega
    | succ n =>
      rw [g_X0_exponentOf_11, if_pos (by decide)]
      have e : ((2 ^ 0 : Nat) : Int) = 1 := rfl
      rw [e] at h3
      omega
  | succ k ih =>
    intro n w a hk hn he h1 h2 h3
    cases n with
    | zero => omega
    | succ n =>
      have hm := ex_mid_toInt he
      have hp := ex_mid he
      have e2 : ((2 ^ (k + 1) : Nat) : Int) = 2 * ((2 ^ k : Nat) : Int) := by
        rw [Nat.pow_succ]
        omega
      rw [e2] at h3
      rw [g_X0_exponentOf_11, if_neg (show ¬ (11 : Int32) ≤ nI (11 - (k + 1)) from nI_ge (a := 11 - (k + 1)) (b := 11) (by omega) (by decide)), twoAsDouble_eq hp, nI_1, show 11 - (k + 1) + 1 = 11 - k by omega]
      have hc := cmp_tw (k := ((w + a) >>> ((1 : Int32) &&& 31)).toInt) h (by have := hp.1; omega) (by have := hp.2; omega)
      by_cases c1 : q + 52 < ((w + a) >>> ((1 : Int32) &&& 31)).toInt
      · rw [if_pos (hc.mpr c1)]
        exact ih n _ _ (by omega) (by omega) (ex_a he) h1 c1 (by rw [hm]; omega)
      · rw [if_neg (fun z => c1 (hc.mp z))]
        exact ih n _ _ (by omega) (by omega) (ex_w he) (by omega) h2 (by rw [hm]; omega)
theorem exo_eq {c : Nat} {q : Int} (h : nok c q) (h1 : -1000 ≤ q + 52) (h2 : q + 52 ≤ 1000) : (f_X0_exponentOf (nb false c q)).toInt = q + 52 := by
  have m : (-1000 : Int32).toInt = -1000 := by decide
  have p : (1001 : Int32).toInt = 1001 := by decide
  have e : ((2 ^ 11 : Nat) : Int) = 2048 := rfl
  exact exo_go h 11 (((11 : Int32).toInt - (0 : Int32).toInt).toNat + 1) (-1000) 1001 (by decide) (by decide) ex_0 (by rw [m]; exact h1) (by rw [p]; omega) (by rw [m, p, e]; decide)
theorem man_eq {c : Nat} {q : Int} (h : nok c q) (h1 : -1000 ≤ q + 52) (h2 : q + 52 ≤ 1000) : FP.d2l (FP.dmul (FP.dmul (nb false c q) (f_X0_twoAsDouble (-(f_X0_exponentOf (nb false c q))))) 4841369599423283200) = lN c := by
  have hn := ex_neg (nb false c q)
  have he := exo_eq h h1 h2
  have ht : (-(f_X0_exponentOf (nb false c q)) : Int32).toInt = -(q + 52) := by
    rw [fb_negI (by rw [he]; omega), he]
  obtain ⟨h3, h4, h5, h6⟩ := h
  have n1 : nok c (-52) := ⟨h3, h4, by decide, by decide⟩
  have n2 : nok c 0 := ⟨h3, h4, by decide, by decide⟩
  have e1 : FP.dmul (nb false c q) (nb false 4503599627370496 (-(q + 52) - 52)) = nb false c (-52) := by
    refine dmul_nb (s := false) (t := false) ⟨h3, h4, h5, h6⟩ (tw_nok2 (by omega) (by omega)) n1 ?_
    rw [show (q + (-(q + 52) - 52) - -52).toNat = 0 by omega, show (-52 - (q + (-(q + 52) - 52))).toNat = 52 by omega]
    omega
  have e2 : FP.dmul (nb false c (-52)) (nb false 4503599627370496 (52 - 52)) = nb false c 0 := by
    refine dmul_nb (s := false) (t := false) n1 (tw_nok2 (by decide) (by decide)) n2 ?_
    rw [show (-52 + (52 - 52) - (0 : Int)).toNat = 0 by decide, show ((0 : Int) - (-52 + (52 - 52))).toNat = 52 by decide]
    omega
  rw [twoAsDouble_eq hn, ht, tw_nb, e1, tw_52, tw_nb, e2]
  refine FP.Core.d2l_int (a := lN c) ?_
  unfold FP.Core.DInt
  rw [nb_val n2, lNt (by omega)]
  show FP.Core.signed false (c * 2 ^ (0 : Int).toNat) = (c : Int) * ((2 ^ (-(0 : Int)).toNat : Nat) : Int)
  rw [show (0 : Int).toNat = 0 from rfl, show (-(0 : Int)).toNat = 0 from rfl, Nat.pow_zero, Nat.mul_one]
  show (c : Int) = (c : Int) * 1
  rw [Int.mul_one]
theorem bod_e {c : Nat} {q : Int} (h : nok c q) (h1 : -1000 ≤ q + 52) (h2 : q + 52 ≤ 1000) : (f_X0_exponentOf (nb false c q) - 52 : Int32).toInt + 1075 = ((q + 1075).toNat : Int) := by
  have he := exo_eq h h1 h2
  have c2 : (52 : Int32).toInt = 52 := by decide
  rw [fb_subI (by rw [he, c2]; omega) (by rw [he, c2]; omega), he, c2]
  omega
theorem bod_pos {c : Nat} {q : Int} (h : nok c q) (h1 : -1000 ≤ q + 52) (h2 : q + 52 ≤ 1000) : f_X0_bitsOfDouble (nb false c q) = lN (c - 4503599627370496 + (q + 1075).toNat * 4503599627370496) := by
  have hg := nb_gt0 h
  unfold f_X0_bitsOfDouble
  rw [hg, if_neg (show ¬ Op.cmpValue (some .gt) CmpOp.l = 0 by decide), if_pos (show (0 : Int32) ≤ Op.cmpValue (some .gt) CmpOp.g by decide)]
  unfold g_X0_bitsOfDouble_20
  rw [man_eq h h1 h2]
  unfold g_X0_bitsOfDouble_40n
  rw [hg, if_pos (show (0 : Int32) ≤ Op.cmpValue (some .gt) CmpOp.g by decide)]
  exact pack_0 h.1 (bod_e h h1 h2)
theorem bod_neg {c : Nat} {q : Int} (h : nok c q) (h1 : -1000 ≤ q + 52) (h2 : q + 52 ≤ 1000) : f_X0_bitsOfDouble (nb true c q) = lN (c - 4503599627370496 + (q + 1075).toNat * 4503599627370496 + 9223372036854775808) := by
  have hg := nb_lt0 h
  unfold f_X0_bitsOfDouble
  rw [hg, if_neg (show ¬ Op.cmpValue (some .lt) CmpOp.l = 0 by decide), if_neg (show ¬ (0 : Int32) ≤ Op.cmpValue (some .lt) CmpOp.g by decide), nb_neg h]
  unfold g_X0_bitsOfDouble_20
  rw [man_eq h h1 h2]
  unfold g_X0_bitsOfDouble_40n
  rw [hg, if_neg (show ¬ (0 : Int32) ≤ Op.cmpValue (some .lt) CmpOp.g by decide)]
  refine pack_1 h.1 (bod_e h h1 h2) ?_
  obtain ⟨h3, h4, h5, h6⟩ := h
  omega
theorem bod_zero : f_X0_bitsOfDouble 0 = 0 := by decide +kernel
/-- the bits of a double told by its parts -/
theorem bod_V {s : Bool} {b : Nat} {h : Int32} (hn : nrm b h.toInt) (h1 : -1000 ≤ h.toInt + bl b - 1) (h2 : h.toInt + bl b - 1 ≤ 1000) : f_X0_bitsOfDouble (dn s b h.toInt) = if s then lN (Vb b h + 9223372036854775808) else lN (Vb b h) := by
  have hl : bl b ≤ 53 := bl_le.mpr hn.2.1
  have hk := nrm_nok hn
  unfold dn
  cases s
  · rw [bod_pos hk (by omega) (by omega), if_neg (by decide)]
    rfl
  · rw [bod_neg hk (by omega) (by omega), if_pos rfl]
    rfl
theorem i2d_p1 : FP.i2d 1 = dn false 1 0 := by decide +kernel
theorem i2d_m1 : FP.i2d (-1) = dn true 1 0 := by decide +kernel
theorem dn_dint {b : Nat} (h0 : 0 < b) (hb : b < 9007199254740992) : FP.Core.DInt (b : Int) (dn false b 0) := by
  have hl : bl b ≤ 53 := bl_le.mpr (by omega)
  have hk := nrm_nok (m := b) (e := 0) ⟨h0, by omega, by omega, by omega⟩
  unfold FP.Core.DInt dn
  rw [nb_val hk]
  show FP.Core.signed false (b * 2 ^ (53 - bl b) * 2 ^ (0 - ((53 - bl b : Nat) : Int)).toNat) = (b : Int) * ((2 ^ (-(0 - ((53 - bl b : Nat) : Int))).toNat : Nat) : Int)
  rw [show (0 - ((53 - bl b : Nat) : Int)).toNat = 0 by omega, show (-(0 - ((53 - bl b : Nat) : Int))).toNat = 53 - bl b by omega, Nat.pow_zero, Nat.mul_one]
  show ((b * 2 ^ (53 - bl b) : Nat) : Int) = _
  exact Int.natCast_mul _ _
theorem l2d_dn {b : Nat} (h0 : 0 < b) (hb : b < 9007199254740992) : FP.l2d (lN b) = dn false b 0 := by
  have h1 : FP.Core.DInt (lN b).toInt (FP.Core.l2d (lN b)) := FP.Core.l2d_int (by rw [lNt (by omega)]; omega)
  rw [lNt (by omega)] at h1
  exact FP.Core.dint_unique (i := (b : Int)) (by omega) h1 (dn_dint h0 hb)
theorem asD_eq {g : Int32} {b : Nat} {h : Int32} (hg : g = -1 ∨ g = 1) (h0 : 0 < b) (hb : b < 9007199254740992) (hn : nrm b h.toInt) (hp : pOk h) : f_X0_asDouble g (lN b) h = dn (decide (g = -1)) b h.toInt := by
  have hl : bl b ≤ 53 := bl_le.mpr (by omega)
  have n1 : nrm 1 0 := ⟨by decide, by decide, by decide, by decide⟩
  have nb0 : nrm b 0 := ⟨h0, by omega, by omega, by omega⟩
  have nt : nrm 1 h.toInt := tw_nrm (by have := hp.1; omega) (by have := hp.2; omega)
  have hi : FP.i2d g = dn (decide (g = -1)) 1 0 := by
    rcases hg with rfl | rfl
    · exact i2d_m1
    · exact i2d_p1
  have e1 : FP.dmul (dn (decide (g = -1)) 1 0) (dn false b 0) = dn (decide (g = -1)) b 0 := by
    have e := dmul_dn (s := decide (g = -1)) (t := false) n1 nb0 (by rw [Nat.one_mul]; exact nb0)
    rw [Nat.one_mul, Bool.bne_false] at e
    exact e
  have e2 : FP.dmul (dn (decide (g = -1)) b 0) (dn false 1 h.toInt) = dn (decide (g = -1)) b h.toInt := by
    have e := dmul_dn (s := decide (g = -1)) (t := false) nb0 nt (by rw [Nat.mul_one, Int.zero_add]; exact hn)
    rw [Nat.mul_one, Int.zero_add, Bool.bne_false] at e
    exact e
  unfold f_X0_asDouble
  rw [hi, l2d_dn h0 hb, e1, twoAsDouble_eq hp]
  exact e2
theorem asD_0 : f_X0_asDouble 0 0 0 = 0 := by decide +kernel
/-- what a number's parts say of the double -/
theorem okN_nrm {g : Int32} {o : Int64} {h : Int32} (hk : okN g o h) (h0 : ¬ g = 0) : ∃ b : Nat, o = lN b ∧ 0 < b ∧ b < 9007199254740992 ∧ nrm b h.toInt ∧ -1000 ≤ h.toInt + bl b - 1 ∧ h.toInt + bl b - 1 ≤ 1000 ∧ Vb b h < 9223372036854775808 ∧ pOk h ∧ (g = -1 ∨ g = 1) := by
  obtain ⟨b, e, hb, hb2, hE0, hE, hV, hEe⟩ := okN_V hk h0
  obtain ⟨b', e', -, hb2', h3⟩ := okN_nat hk h0
  have hbb : b = b' := by
    have := e.symm.trans e'
    exact (lNeq (by omega) (by omega)).mp this
  subst hbb
  obtain ⟨k1, k2, k3, k4, k5, k6, k7, k8⟩ := hk
  have hl : bl b ≤ 53 := bl_le.mpr (by omega)
  have hl0 := bl_pos hb
  have hE2 : h.toInt + bl b - 1 ≤ 1000 := by
    by_cases c : 1 < b
    · obtain ⟨h4, h5⟩ := h3 c
      rcases Nat.lt_or_ge h.toInt.toNat 212 with z | z
      · omega
      · exfalso
        have h6 : 3 ^ 212 ≤ 3 ^ h.toInt.toNat := Nat.pow_le_pow_right (by decide) z
        have h7 : b ^ 4 ≤ 9007199254740992 ^ 4 := Nat.pow_le_pow_left (by omega) 4
        have h8 : 9007199254740992 ^ 4 < 3 ^ 212 := by decide
        omega
    · have e1 : b = 1 := by omega
      rw [e1, bl_1]
      omega
  refine ⟨b, e, hb, hb2, ⟨hb, by omega, by omega, by omega⟩, by omega, hE2, hV, ⟨k6, k7⟩, ?_⟩
  rcases k1 with c | c | c
  · exact Or.inl c
  · exact absurd c h0
  · exact Or.inr c
theorem sound1 {g : Int32} {o : Int64} {h : Int32} (hk : okN g o h) : f_X0_bitsOfDouble (f_X0_asDouble g o h) = f_X0_bitsOf g o h := by
  by_cases c : g = 0
  · obtain ⟨e1, e2⟩ := okN_0' hk c
    subst e1
    subst e2
    subst c
    rw [asD_0, bod_zero]
    rfl
  · obtain ⟨b, e, hb, hb2, hn, h1, h2, hV, hp, hg⟩ := okN_nrm hk c
    subst e
    have := hp.1
    have := hp.2
    rw [asD_eq hg hb hb2 hn hp, bod_V hn h1 h2]
    rcases hg with rfl | rfl
    · rw [if_pos (by decide), Vb_neg hb hb2 (by omega) (by omega) hV]
    · rw [if_neg (by decide), Vb_eq hb hb2 (by omega) (by omega)]
theorem ag_isSound {S : pS} {T : pT} (hR : rel S T) : f_X0_isSound S = 1 := by
  have hgo : ∀ n i, i ≤ 8 → 8 - i < n → g_X0_isSound_2 S n (nI i) = 1 := by
    intro n
    induction n with
    | zero => intro i h1 h2; omega
    | succ n ih =>
      intro i h1 h2
      rw [g_X0_isSound_2]
      by_cases c : i = 8
      · subst c
        rw [if_pos (by decide)]
      · rw [if_neg (show ¬ (8 : Int32) ≤ nI (i) from nI_ge (a := i) (b := 8) (by omega) (by decide)), if_pos (show f_X0_bitsOfDouble (f_X0_asDouble (sgS S (nI i).toNatClampNeg) (odS S (nI i).toNatClampNeg) (shS S (nI i).toNatClampNeg)) = f_X0_slotBits S (nI i) from sound1 (hR.2.2.2.1 _)), nI_1]
        exact ih (i + 1) (by omega) (by omega)
  exact hgo (((8 : Int32).toInt - (0 : Int32).toInt).toNat + 1) 0 (by decide) (by decide)
/-! powers as doubles: isChain, addsUp -/
/-- the sign of a power -/
def sgk (g : Int32) (k : Nat) : Bool := decide (g = -1 ∧ k % 2 = 1)
theorem sgk_add {g : Int32} (i j : Nat) : (sgk g i != sgk g j) = sgk g (i + j) := by
  unfold sgk
  have e : (i + j) % 2 = (i % 2 + j % 2) % 2 := by omega
  by_cases c : g = -1
  · have h1 : i % 2 = 0 ∨ i % 2 = 1 := by omega
    have h2 : j % 2 = 0 ∨ j % 2 = 1 := by omega
    rcases h1 with h1 | h1 <;> rcases h2 with h2 | h2 <;> rw [e, h1, h2] <;> simp [c]
  · simp [c]
theorem sgk_1 {g : Int32} : sgk g 1 = decide (g = -1) := by
  unfold sgk
  simp
theorem sgk_0 {g : Int32} : sgk g 0 = false := by
  unfold sgk
  simp
theorem pS_sgk {g : Int32} (hg : g = -1 ∨ g = 1) {k : Nat} (hk : k < 2 ^ 31) : f_X0_powerSign g (nI k) = (if sgk g k then -1 else 1) ∧ (f_X0_powerSign g (nI k) = -1 ∨ f_X0_powerSign g (nI k) = 1) ∧ decide (f_X0_powerSign g (nI k) = -1) = sgk g k := by
  have e : f_X0_powerSign g (nI k) = (if sgk g k then -1 else 1) := by
    rw [pS_v g hk]
    unfold sgk
    by_cases c : k = 0
    · subst c
      rw [if_pos rfl]
      simp
    · rw [if_neg c]
      by_cases c2 : k % 2 = 0
      · rw [if_pos c2, if_neg (by simp [c2])]
        rcases hg with rfl | rfl <;> decide
      · rw [if_neg c2]
        have c3 : k % 2 = 1 := by omega
        rcases hg with rfl | rfl
        · rw [if_pos (by simp [c3])]
        · rw [if_neg (by simp)]
  rw [e]
  cases sgk g k
  · exact ⟨rfl, Or.inr rfl, by decide⟩
  · exact ⟨rfl, Or.inl rfl, by decide⟩
theorem base_dn {p : Int32} (h1 : -64 ≤ p.toInt) (h2 : p.toInt ≤ 64) : f_X0_signOf p = 0 ∧ p = 0 ∨ (f_X0_signOf p = -1 ∨ f_X0_signOf p = 1) ∧ FP.i2d p = dn (decide (f_X0_signOf p = -1)) (f_X0_oddOf p).toInt.toNat ((f_X0_shiftOf p).toInt) := by
  obtain ⟨k, hk, rfl⟩ := base_of h1 h2
  exact bk k hk (fun p => f_X0_signOf p = 0 ∧ p = 0 ∨ (f_X0_signOf p = -1 ∨ f_X0_signOf p = 1) ∧ FP.i2d p = dn (decide (f_X0_signOf p = -1)) (f_X0_oddOf p).toInt.toNat ((f_X0_shiftOf p).toInt)) (by decide +kernel)
/-- a base that is not 0, as doubles have it -/
theorem base_nz {p : Int32} (h1 : -64 ≤ p.toInt) (h2 : p.toInt ≤ 64) (h0 : ¬ p = 0) : ∃ b s : Nat, f_X0_oddOf p = lN b ∧ f_X0_shiftOf p = nI s ∧ 0 < b ∧ b ≤ 64 ∧ s ≤ 6 ∧ (f_X0_signOf p = -1 ∨ f_X0_signOf p = 1) ∧ FP.i2d p = dn (decide (f_X0_signOf p = -1)) b (s : Int) := by
  obtain ⟨b, s, b1, b2, b3, b4, b5, b6⟩ := base_sz h1 h2
  rcases base_dn h1 h2 with ⟨-, c⟩ | ⟨hg, hi⟩
  · exact absurd c h0
  · rw [b1, b2, lNt (by omega), nI_toInt (by omega), Int.toNat_natCast] at hi
    refine ⟨b, s, b1, b2, ?_, b5, b4, hg, hi⟩
    rcases Nat.eq_zero_or_pos b with c | c
    · have := (b6 c).2
      rw [this] at hg
      rcases hg with hg | hg
      · exact absurd hg (by decide)
      · exact absurd hg (by decide)
    · exact c
theorem pw_nrm {b s k : Nat} (hb : 0 < b) (hs : s ≤ 6) (hk : k ≤ 64) (h : b ^ k ≤ 9007199254740991) : nrm (b ^ k) ((s * k : Nat) : Int) ∧ s * k ≤ 384 ∧ bl (b ^ k) ≤ 53 ∧ 1 ≤ bl (b ^ k) := by
  have hsk : s * k ≤ 6 * 64 := Nat.mul_le_mul hs hk
  have h0 : 0 < b ^ k := Nat.pow_pos hb
  have hl : bl (b ^ k) ≤ 53 := bl_le.mpr (by omega)
  have hl0 := bl_pos h0
  exact ⟨⟨h0, by omega, by omega, by omega⟩, by omega, hl, hl0⟩
/-- the bits of a power that is a double -/
theorem bod_pw {p : Int32} {b s k : Nat} (T : pT) (h1 : -64 ≤ p.toInt) (h2 : p.toInt ≤ 64) (hk : k ≤ 64) (b1 : f_X0_oddOf p = lN b) (b2 : f_X0_shiftOf p = nI s) (hb : 0 < b) (hb2 : b ≤ 64) (hs : s ≤ 6) (hg : f_X0_signOf p = -1 ∨ f_X0_signOf p = 1) (c : f_X0_isTold (f_X0_oddOf p) (f_X0_shiftOf p) (nI k) = 1) : f_X0_bitsOfDouble (dn (sgk (f_X0_signOf p) k) (b ^ k) ((s * k : Nat) : Int)) = f_X0_powerBits p (nI k) := by
  obtain ⟨o1, o2⟩ := told_odd T h1 h2 hk b1 hb2 c
  obtain ⟨n1, n2, n3, n4⟩ := pw_nrm hb hs hk o2
  have hi : (nI (s * k)).toInt = ((s * k : Nat) : Int) := nI_toInt (by omega)
  obtain ⟨g1, g2, g3⟩ := pS_sgk hg (k := k) (by omega)
  have h0 : 0 < b ^ k := Nat.pow_pos hb
  unfold f_X0_powerBits
  rw [o1, b2, pk_mul, g1, ← hi, bod_V (by rw [hi]; exact n1) (by rw [hi]; omega) (by rw [hi]; omega)]
  cases sgk (f_X0_signOf p) k
  · rw [if_neg (by decide), if_neg (by decide), Vb_eq h0 (by omega) (by rw [hi]; omega) (by rw [hi]; omega)]
  · have hV : Vb (b ^ k) (nI (s * k)) < 9223372036854775808 := by
      have hm := (nrm_m h0 (by omega)).2
      have hE : Eb (b ^ k) (nI (s * k)) ≤ 1459 := by
        unfold Eb
        rw [hi]
        omega
      unfold Vb
      omega
    rw [if_pos rfl, if_pos rfl, Vb_neg h0 (by omega) (by rw [hi]; omega) (by rw [hi]; omega) hV]
theorem ch_go {p : Int32} {b s e : Nat} (he : e ≤ 64) (hb : 0 < b) (hs : s ≤ 6) (hi : FP.i2d p = dn (decide (f_X0_signOf p = -1)) b (s : Int)) (h53 : b ^ e ≤ 9007199254740991) (hfin : f_X0_bitsOfDouble (dn (sgk (f_X0_signOf p) e) (b ^ e) ((s * e : Nat) : Int)) = f_X0_powerBits p (nI e)) : ∀ n k, k ≤ e → e - k < n → g_X0_isChain_15 p (nI e) n (dn (sgk (f_X0_signOf p) k) (b ^ k) ((s * k : Nat) : Int)) (nI k) = .ok 1 := by
  intro n
  induction n with
  | zero => intro k h1 h2; omega
  | succ n ih =>
    intro k h1 h2
    rw [g_X0_isChain_15]
    by_cases c : k = e
    · subst c
      rw [if_pos (nI_le (Nat.le_refl k) (by omega)), hfin, if_pos rfl]
    · rw [if_neg (nI_ge (by omega) (by omega)), hi, nI_1]
      have hk1 : b ^ (k + 1) ≤ 9007199254740991 := Nat.le_trans (Nat.pow_le_pow_right hb (by omega)) h53
      have hk0 : b ^ k ≤ 9007199254740991 := Nat.le_trans (Nat.pow_le_pow_right hb (by omega)) h53
      have hb1 : b ^ 1 ≤ 9007199254740991 := Nat.le_trans (Nat.pow_le_pow_right hb (by omega)) h53
      have n0 := (pw_nrm hb hs (by omega) hk0).1
      have n1 := (pw_nrm (k := 1) hb hs (by omega) hb1).1
      have n2 := (pw_nrm hb hs (by omega) hk1).1
      rw [Nat.pow_one, Nat.mul_one] at n1
      have em : b ^ k * b = b ^ (k + 1) := by rw [Nat.pow_succ]
      have es : ((s * k : Nat) : Int) + (s : Int) = ((s * (k + 1) : Nat) : Int) := by
        rw [Nat.mul_succ]
        omega
      have ed := dmul_dn (s := sgk (f_X0_signOf p) k) (t := decide (f_X0_signOf p = -1)) n0 n1 (by rw [em, es]; exact n2)
      rw [em, es, ← sgk_1, sgk_add] at ed
      rw [← sgk_1, ed]
      exact ih (k + 1) (by omega) (by omega)
theorem ch_zero (e : Nat) (he : e < 2 ^ 31) (h : f_X0_powerBits 0 (nI e) = 0) : ∀ n k, k ≤ e → e - k < n → g_X0_isChain_15 0 (nI e) n 0 (nI k) = .ok 1 := by
  have hm : FP.dmul 0 (FP.i2d 0) = 0 := by decide +kernel
  intro n
  induction n with
  | zero => intro k h1 h2; omega
  | succ n ih =>
    intro k h1 h2
    rw [g_X0_isChain_15]
    by_cases c : k = e
    · subst c
      rw [if_pos (nI_le (Nat.le_refl k) he), bod_zero, h, if_pos rfl]
    · rw [if_neg (nI_ge (by omega) he), hm, nI_1]
      exact ih (k + 1) (by omega) (by omega)
theorem pb_0 : ∀ j, j < 65 → f_X0_powerBits 0 (nI j) = if j = 0 then 4607182418800017408 else 0 := by decide +kernel
theorem ch_base0 {e : Nat} (he : e ≤ 64) : g_X0_isChain_15 0 (nI e) (((nI e).toInt - (0 : Int32).toInt).toNat + 1) FP.dconst1 0 = .ok 1 := by
  have hp := pb_0 e (by omega)
  rw [nI_toInt (by omega), i0]
  by_cases c : e = 0
  · subst c
    rw [if_pos rfl] at hp
    rw [g_X0_isChain_15, if_pos (by decide), hp, show f_X0_bitsOfDouble FP.dconst1 = 4607182418800017408 by decide +kernel, if_pos rfl]
  · rw [if_neg c] at hp
    have h1 : FP.dmul FP.dconst1 (FP.i2d 0) = 0 := by decide +kernel
    rw [g_X0_isChain_15, if_neg (nI_nle (by omega) (by omega)), h1]
    exact ch_zero e (by omega) hp (((e : Int) - 0).toNat) 1 (by omega) (by omega)
theorem told01 {p : Int32} {k : Nat} (T : pT) (h1 : -64 ≤ p.toInt) (h2 : p.toInt ≤ 64) (hk : k ≤ 64) : (f_X0_isTold (f_X0_oddOf p) (f_X0_shiftOf p) (nI k) = 0 ∨ f_X0_isTold (f_X0_oddOf p) (f_X0_shiftOf p) (nI k) = 1) ∧ ∃ u, f_X1_isTold_ T p (nI k) = (f_X0_isTold (f_X0_oddOf p) (f_X0_shiftOf p) (nI k), u) ∧ keepT T u ∧ thT u = thT T := by
  have hki : (nI k).toInt = k := nI_toInt (by omega)
  obtain ⟨hc, u, t1, t2, t3, t4⟩ := told_ag T (base_ok h1 h2) (e := nI k) (by omega) (by omega) (fun _ => by omega)
  rw [base_told h1 h2]
  exact ⟨hc, u, t1, t2, t3⟩
theorem chain_1 {p : Int32} {e : Nat} (T : pT) (h1 : -64 ≤ p.toInt) (h2 : p.toInt ≤ 64) (he : e ≤ 64) (c : f_X0_isTold (f_X0_oddOf p) (f_X0_shiftOf p) (nI e) = 1) : g_X0_isChain_15 p (nI e) (((nI e).toInt - (0 : Int32).toInt).toNat + 1) FP.dconst1 0 = .ok 1 := by
  by_cases c0 : p = 0
  · subst c0
    exact ch_base0 he
  · obtain ⟨b, s, b1, b2, hb, hb2, hs, hg, hi⟩ := base_nz h1 h2 c0
    obtain ⟨o1, o2⟩ := told_odd T h1 h2 he b1 hb2 c
    have h := ch_go he hb hs hi o2 (bod_pw T h1 h2 he b1 b2 hb hb2 hs hg c) (((nI e).toInt - (0 : Int32).toInt).toNat + 1) 0 (Nat.zero_le _) (by rw [nI_toInt (by omega), i0]; omega)
    rw [sgk_0, Nat.pow_zero, Nat.mul_zero] at h
    rw [tw_one]
    exact h
theorem ag_isChain {S : pS} {T : pT} (hR : rel S T) (o : Nat → Int64) (p0 : Int32) (p1 : Int32) : agZ (wrZ [2, 5] S o (f_X0_isChain S p0 p1)) (f_X1_isChain T p0 p1) := by
  have hE : g_X1_isChain_19 T p0 p1 = (0, thS T 1) := by
    unfold g_X1_isChain_19 g_X1_isChain_20
    rw [no_0]
    rfl
  unfold f_X0_isChain f_X1_isChain
  rw [hE]
  rcases cbe_c p0 p1 with ⟨h1, h2, h3, h4, e2, e3, e4⟩ | ⟨e2, e3⟩
  · rw [e2, e3, e4, if_neg (show ¬ (1 : Int32) = 0 by decide), if_neg (show ¬ (1 : Int32) = 0 by decide)]
    dsimp only
    obtain ⟨hk, ek⟩ := nI_of' h3
    generalize hkk : p1.toInt.toNat = e at hk ek
    have he : e ≤ 64 := by omega
    subst ek
    unfold g_X1_isChain_20
    rw [no_1]
    dsimp only
    rw [if_pos (show (0 : Int32) = 0 from rfl)]
    obtain ⟨hc, u, t1, t2, t3⟩ := told01 (thS T 0) h1 h2 he
    rw [t1]
    dsimp only
    unfold f_X0_checkTold
    rcases hc with c | c
    · rw [c, if_pos (show (0 : Int32) = 0 from rfl), no_0]
      exact agZ_er (rel_th (rel_keep (rel_th hR 0) t2) 2) o _ 5 rfl (by decide)
    · rw [c, if_neg (show ¬ (1 : Int32) = 0 by decide), no_1]
      dsimp only
      rw [if_pos (show (0 : Int32) = 0 from rfl), chain_1 T h1 h2 he c]
      exact agZ_ok (rel_th (rel_keep (rel_th hR 0) t2) 0) o _ rfl Iff.rfl
  · rw [e2]
    rcases e3 with e3 | ⟨e3, e4⟩
    · rw [e3, if_pos (show (0 : Int32) = 0 from rfl)]
      exact agZ_er (rel_th hR 1) o _ 2 rfl (by decide)
    · rw [e3, e4, if_neg (show ¬ (1 : Int32) = 0 by decide), if_pos (show (0 : Int32) = 0 from rfl)]
      exact agZ_er (rel_th hR 1) o _ 2 rfl (by decide)
theorem pad_0 : ∀ j, j < 65 → f_X0_powerAsDouble 0 (nI j) = if j = 0 then FP.dconst1 else 0 := by decide +kernel
theorem mul_00 : FP.dmul 0 0 = 0 := by decide +kernel
theorem mul_01 : FP.dmul 0 FP.dconst1 = 0 := by decide +kernel
theorem mul_10 : FP.dmul FP.dconst1 0 = 0 := by decide +kernel
theorem mul_11 : FP.dmul FP.dconst1 FP.dconst1 = FP.dconst1 := by decide +kernel
theorem bod_one : f_X0_bitsOfDouble FP.dconst1 = 4607182418800017408 := by decide +kernel
theorem pad_dn {p : Int32} {b s k : Nat} (h1 : -64 ≤ p.toInt) (h2 : p.toInt ≤ 64) (hk : k ≤ 64) (b1 : f_X0_oddOf p = lN b) (b2 : f_X0_shiftOf p = nI s) (hb : 0 < b) (hb2 : b ≤ 64) (hs : s ≤ 6) (hg : f_X0_signOf p = -1 ∨ f_X0_signOf p = 1) (h53 : b ^ k ≤ 9007199254740991) : f_X0_powerAsDouble p (nI k) = dn (sgk (f_X0_signOf p) k) (b ^ k) ((s * k : Nat) : Int) := by
  obtain ⟨n1, n2, n3, n4⟩ := pw_nrm hb hs hk h53
  have hi : (nI (s * k)).toInt = ((s * k : Nat) : Int) := nI_toInt (by omega)
  obtain ⟨g1, g2, g3⟩ := pS_sgk hg (k := k) (by omega)
  have o1 : f_X0_powerOdd (lN b) (nI k) = lN (b ^ k) := by
    have h9 : f_X0_powerOdd (lN b) (nI k) = pu b k 9007199254740991 := puL (by omega) hk
    rw [h9]
    unfold pu
    rw [if_pos h53]
  unfold f_X0_powerAsDouble
  rw [b1, b2, o1, pk_mul, asD_eq g2 (Nat.pow_pos hb) (by omega) (by rw [hi]; exact n1) (by unfold pOk; rw [hi]; omega), g3, hi]
/-- the product of two powers, and that it is a number -/
theorem adds_1 {p : Int32} {e f : Nat} (T : pT) (h1 : -64 ≤ p.toInt) (h2 : p.toInt ≤ 64) (hef : e + f ≤ 64) (c : f_X0_isTold (f_X0_oddOf p) (f_X0_shiftOf p) (nI (e + f)) = 1) : f_X0_bitsOfDouble (FP.dmul (f_X0_powerAsDouble p (nI e)) (f_X0_powerAsDouble p (nI f))) = f_X0_powerBits p (nI (e + f)) ∧ FP.Core.val64 (FP.dmul (f_X0_powerAsDouble p (nI e)) (f_X0_powerAsDouble p (nI f))) ≠ .nan := by
  by_cases c0 : p = 0
  · subst c0
    have hz : FP.Core.val64 0 ≠ .nan := zero_nn
    have ho : FP.Core.val64 FP.dconst1 ≠ .nan := (ch_0 0).1
    rw [pad_0 e (by omega), pad_0 f (by omega), pb_0 (e + f) (by omega)]
    by_cases c1 : e = 0
    · by_cases c2 : f = 0
      · rw [if_pos c1, if_pos c2, if_pos (show e + f = 0 by omega), mul_11, bod_one]
        exact ⟨rfl, ho⟩
      · rw [if_pos c1, if_neg c2, if_neg (show ¬ e + f = 0 by omega), mul_10, bod_zero]
        exact ⟨rfl, hz⟩
    · by_cases c2 : f = 0
      · rw [if_neg c1, if_pos c2, if_neg (show ¬ e + f = 0 by omega), mul_01, bod_zero]
        exact ⟨rfl, hz⟩
      · rw [if_neg c1, if_neg c2, if_neg (show ¬ e + f = 0 by omega), mul_00, bod_zero]
        exact ⟨rfl, hz⟩
  · obtain ⟨b, s, b1, b2, hb, hb2, hs, hg, hi⟩ := base_nz h1 h2 c0
    obtain ⟨o1, o2⟩ := told_odd T h1 h2 hef b1 hb2 c
    have he : b ^ e ≤ 9007199254740991 := Nat.le_trans (Nat.pow_le_pow_right hb (by omega)) o2
    have hf : b ^ f ≤ 9007199254740991 := Nat.le_trans (Nat.pow_le_pow_right hb (by omega)) o2
    have n0 := (pw_nrm (k := e) hb hs (by omega) he).1
    have n1 := (pw_nrm (k := f) hb hs (by omega) hf).1
    have n2 := (pw_nrm (k := e + f) hb hs (by omega) o2).1
    have em : b ^ e * b ^ f = b ^ (e + f) := by rw [Nat.pow_add]
    have es : ((s * e : Nat) : Int) + ((s * f : Nat) : Int) = ((s * (e + f) : Nat) : Int) := by
      rw [Nat.mul_add]
      omega
    have ed := dmul_dn (s := sgk (f_X0_signOf p) e) (t := sgk (f_X0_signOf p) f) n0 n1 (by rw [em, es]; exact n2)
    rw [em, es, sgk_add] at ed
    rw [pad_dn h1 h2 (by omega) b1 b2 hb hb2 hs hg he, pad_dn h1 h2 (by omega) b1 b2 hb hb2 hs hg hf, ed]
    refine ⟨bod_pw T h1 h2 hef b1 b2 hb hb2 hs hg c, ?_⟩
    exact nb_nn (nrm_nok n2)
theorem ag_addsUp {S : pS} {T : pT} (hR : rel S T) (o : Nat → Int64) (p0 : Int32) (p1 : Int32) (p2 : Int32) : agZ (wrZ [2, 5] S o (f_X0_addsUp S p0 p1 p2)) (f_X1_addsUp T p0 p1 p2) := by
  have hE : g_X1_addsUp_34 T p0 p1 p2 = (0, thS T 1) := by
    unfold g_X1_addsUp_34 g_X1_addsUp_35
    rw [no_0]
    rfl
  unfold f_X0_addsUp f_X1_addsUp
  rw [hE]
  rcases cbe_c p0 p1 with ⟨h1, h2, h3, h4, e2, e3, e4⟩ | ⟨e2, e3⟩
  · rw [e2, e3, e4, if_neg (show ¬ (1 : Int32) = 0 by decide), if_neg (show ¬ (1 : Int32) = 0 by decide)]
    dsimp only
    rcases range_c p2 0 64 with ⟨h5, h6, e5, e6⟩ | ⟨e5, e6⟩
    · rw [i0] at h5
      rw [p64] at h6
      rw [e5, show f_X1_isExponent p2 = 1 from e6, if_neg (show ¬ (1 : Int32) = 0 by decide)]
      dsimp only
      rcases range_c (p1 + p2) 0 64 with ⟨h7, h8, e7, e8⟩ | ⟨e7, e8⟩
      · rw [p64] at h8
        rw [e7, show f_X1_isExponent (p1 + p2) = 1 from e8, if_neg (show ¬ (1 : Int32) = 0 by decide)]
        dsimp only
        obtain ⟨hk, ek⟩ := nI_of' h3
        generalize hkk : p1.toInt.toNat = e at hk ek
        obtain ⟨hm, em⟩ := nI_of' h5
        generalize hmm : p2.toInt.toNat = f at hm em
        have he : e ≤ 64 := by omega
        have hf : f ≤ 64 := by omega
        subst ek
        subst em
        rw [nI_add, nI_toInt (by omega)] at h8
        have hef : e + f ≤ 64 := by omega
        rw [nI_add]
        unfold g_X1_addsUp_35
        rw [no_1]
        dsimp only
        rw [if_pos (show (0 : Int32) = 0 from rfl), nI_add]
        obtain ⟨hc, u, t1, t2, t3⟩ := told01 (thS T 0) h1 h2 hef
        rw [t1]
        dsimp only
        unfold f_X0_checkTold
        rcases hc with c | c
        · rw [c, if_pos (show (0 : Int32) = 0 from rfl), no_0]
          exact agZ_er (rel_th (rel_keep (rel_th hR 0) t2) 2) o _ 5 rfl (by decide)
        · rw [c, if_neg (show ¬ (1 : Int32) = 0 by decide), no_1]
          dsimp only
          rw [if_pos (show (0 : Int32) = 0 from rfl), if_pos (adds_1 T h1 h2 hef c).1]
          exact agZ_ok (rel_th (rel_keep (rel_th hR 0) t2) 0) o _ rfl Iff.rfl
      · rw [e7, show f_X1_isExponent (p1 + p2) = 0 from e8, if_pos (show (0 : Int32) = 0 from rfl)]
        exact agZ_er (rel_th hR 1) o _ 2 rfl (by decide)
    · rw [e5, show f_X1_isExponent p2 = 0 from e6, if_pos (show (0 : Int32) = 0 from rfl)]
      exact agZ_er (rel_th hR 1) o _ 2 rfl (by decide)
  · rw [e2]
    rcases e3 with e3 | ⟨e3, e4⟩
    · rw [e3, if_pos (show (0 : Int32) = 0 from rfl)]
      exact agZ_er (rel_th hR 1) o _ 2 rfl (by decide)
    · rw [e3, e4, if_neg (show ¬ (1 : Int32) = 0 by decide), if_pos (show (0 : Int32) = 0 from rfl)]
      exact agZ_er (rel_th hR 1) o _ 2 rfl (by decide)
theorem nn_addsUp (p0 p1 p2 : Int32) : ∀ (u1 u2 u3 u4 : Unit), f_X0_checkBaseAndExponent p0 p1 = .ok u1 → f_X0_checkRange p2 0 64 = .ok u2 → f_X0_checkRange (p1 + p2) 0 64 = .ok u3 → f_X0_checkTold p0 (p1 + p2) = .ok u4 → FP.Core.val64 (FP.dmul (f_X0_powerAsDouble p0 p1) (f_X0_powerAsDouble p0 p2)) ≠ .nan := by
  intro u1 u2 u3 u4 z1 z2 z3 z4
  obtain ⟨h1, h2, h3, h4⟩ := cbe_ok z1
  have h5 := range_in z2
  have h6 := range_in z3
  rw [i0, p64] at h5 h6
  obtain ⟨hk, ek⟩ := nI_of' h3
  generalize hkk : p1.toInt.toNat = e at hk ek
  obtain ⟨hm, em⟩ := nI_of' h5.1
  generalize hmm : p2.toInt.toNat = f at hm em
  have he : e ≤ 64 := by omega
  have hf : f ≤ 64 := by omega
  subst ek
  subst em
  rw [nI_add] at z4 h6
  rw [nI_toInt (by omega)] at h6
  have hef : e + f ≤ 64 := by omega
  obtain ⟨hc, -⟩ := told01 T00 h1 h2 hef
  unfold f_X0_checkTold at z4
  rcases hc with c | c
  · rw [c, if_pos (show (0 : Int32) = 0 from rfl)] at z4
    cases z4
  · exact (adds_1 T00 h1 h2 hef c).2
/-! isTimes: the square as a double -/
theorem log2_of {n k : Nat} (h1 : 2 ^ k ≤ n) (h2 : n < 2 ^ (k + 1)) : n.log2 = k := by
  have h0 : n ≠ 0 := by
    have := Nat.two_pow_pos k
    omega
  have a := (Nat.log2_lt h0).mpr h2
  have b : k < bl n := bl_gt.mpr h1
  unfold bl at b
  rw [if_neg h0] at b
  omega
theorem near_rnd {Q w : Nat} (hw : w = 52 ∨ w = 53) : FP.Core.nearest Q (2 ^ w) = rnd (Q / 2 ^ w) (Q % 2 ^ w) w := by
  unfold FP.Core.nearest rnd
  obtain ⟨t1, t2, t3⟩ := two_w hw
  generalize Q / 2 ^ w = q
  generalize Q % 2 ^ w = r
  generalize 2 ^ (w - 1) = d at t2 t3 ⊢
  rw [← t3]
  by_cases c1 : d < r
  · rw [if_pos c1, if_neg (by omega), if_pos (by omega)]
  · rw [if_neg c1]
    by_cases c2 : r = d
    · rw [if_pos c2, if_neg (by omega), if_neg (by omega)]
      by_cases c3 : q % 2 = 1
      · rw [if_pos c3]; omega
      · rw [if_neg c3]; omega
    · rw [if_neg c2, if_pos (by omega)]
theorem b64_p : FP.Core.b64.p = 53 := by decide
theorem dsq {s : Bool} {m : Nat} {q : Int} (h : nok m q) (h1 : -500 ≤ q) (h2 : q ≤ 450) : FP.Core.val64 (FP.dmul (nb s m q) (nb s m q)) = if sqR (m * m) < 9007199254740992 then .fin false (sqR (m * m)) (q + q + sqW (m * m)) else .fin false 4503599627370496 (q + q + sqW (m * m) + 1) := by
  obtain ⟨q1, q2⟩ := sq_Q h.1 h.2.1
  have hw := sqW_c (m * m)
  have hlead : (m * m).log2 = 52 + sqW (m * m) := by
    unfold sqW
    split
    · exact log2_of (k := 104) (by omega) (by omega)
    · exact log2_of (k := 105) (by omega) (by omega)
  show FP.Core.val64 (FP.Core.dmul _ _) = _
  rw [FP.Core.val64_dmul, nb_val h]
  show FP.Core.roundRatio FP.Core.b64 (s != s) (m * m) 1 (q + q) = _
  have hs : (s != s) = false := by cases s <;> rfl
  rw [hs]
  have hr := sqR_b q1 q2
  have hqr : sqR (m * m) = rnd (m * m / 2 ^ sqW (m * m)) (m * m % 2 ^ sqW (m * m)) (sqW (m * m)) := rfl
  generalize m * m = Q at *
  generalize sqW Q = w at *
  have hl : FP.Core.leading Q 1 = ((52 + w : Nat) : Int) := by
    unfold FP.Core.leading
    rw [hlead, show Nat.log2 1 = 0 by decide]
    dsimp only
    have hpos : (1 * 2 ^ (((52 + w : Nat) : Int) - ((0 : Nat) : Int)).toNat ≤ Q * 2 ^ (-(((52 + w : Nat) : Int) - ((0 : Nat) : Int))).toNat) := by
      rw [show (((52 + w : Nat) : Int) - ((0 : Nat) : Int)).toNat = 52 + w by omega, show (-(((52 + w : Nat) : Int) - ((0 : Nat) : Int))).toNat = 0 by omega, Nat.pow_zero, Nat.mul_one, Nat.one_mul, ← hlead]
      exact Nat.log2_self_le (by omega)
    rw [if_pos hpos]
    omega
  have hq : FP.Core.quantum FP.Core.b64 Q 1 (q + q) = q + q + w := by
    unfold FP.Core.quantum
    rw [hl, b64_qmin, b64_p]
    omega
  unfold FP.Core.roundRatio
  rw [if_neg (by omega), hq]
  unfold FP.Core.roundAt FP.Core.unitsNum FP.Core.unitsDen
  rw [show (q + q - (q + q + w)).toNat = 0 by omega, show (q + q + w - (q + q)).toNat = w by omega, Nat.pow_zero, Nat.mul_one, Nat.one_mul, near_rnd hw, ← hqr]
  unfold FP.Core.settle FP.Core.bound
  rw [b64_p, b64_qmax, b64_tails]
  by_cases c : sqR Q < 9007199254740992
  · rw [if_pos c, if_pos (show sqR Q < 2 ^ 53 by omega), if_pos (by omega)]
  · rw [if_neg c, if_neg (show ¬ sqR Q < 2 ^ 53 by omega), if_pos (by omega)]
theorem times_1 {g : Int32} {o : Int64} {h : Int32} (hk : okN g o h) (h1 : -400 ≤ h.toInt) (h2 : h.toInt ≤ 400) : f_X0_bitsOfDouble (FP.dmul (f_X0_asDouble g o h) (f_X0_asDouble g o h)) = f_X0_nearestSquareBits o h := by
  by_cases c : g = 0
  · obtain ⟨e1, e2⟩ := okN_0' hk c
    subst e1
    subst e2
    subst c
    rw [asD_0, mul_00, bod_zero]
    rfl
  · obtain ⟨b, e, hb, hb2, hn, h3, h4, hV, hp, hg⟩ := okN_nrm hk c
    subst e
    have hl : bl b ≤ 53 := bl_le.mpr (by omega)
    have hl0 := bl_pos hb
    obtain ⟨m1, m2⟩ := nrm_m hb hb2
    obtain ⟨q1, q2⟩ := sq_Q m1 m2
    have hr := sqR_b q1 q2
    have hw := sqW_c (b * 2 ^ (53 - bl b) * (b * 2 ^ (53 - bl b)))
    have hd := dsq (s := decide (g = -1)) (nrm_nok hn) (by omega) (by omega)
    have hE := (sqe_toInt (b := b) (h := h) hw (by omega) (by omega))
    have hEv : (sqE b h (sqW (b * 2 ^ (53 - bl b) * (b * 2 ^ (53 - bl b)))) : Int) = h.toInt - (53 - bl b : Nat) + (h.toInt - (53 - bl b : Nat)) + sqW (b * 2 ^ (53 - bl b) * (b * 2 ^ (53 - bl b))) + 1075 := by
      rw [← hE.2, hE.1]
      omega
    rw [asD_eq hg hb hb2 hn hp, nsq_X0 hb hb2 (by omega) (by omega)]
    unfold dn
    unfold sqV
    generalize b * 2 ^ (53 - bl b) * (b * 2 ^ (53 - bl b)) = Q at *
    generalize sqE b h (sqW Q) = E at *
    by_cases c1 : sqR Q < 9007199254740992
    · rw [if_pos c1] at hd
      have hnk : nok (sqR Q) (h.toInt - (53 - bl b : Nat) + (h.toInt - (53 - bl b : Nat)) + sqW Q) := ⟨by omega, by omega, by omega, by omega⟩
      have e : FP.dmul (nb (decide (g = -1)) (b * 2 ^ (53 - bl b)) (h.toInt - (53 - bl b : Nat))) (nb (decide (g = -1)) (b * 2 ^ (53 - bl b)) (h.toInt - (53 - bl b : Nat))) = nb false (sqR Q) (h.toInt - (53 - bl b : Nat) + (h.toInt - (53 - bl b : Nat)) + sqW Q) := by
        apply FP.Core.val64_inj
        · rw [hd]; exact fun z => by cases z
        · rw [hd, nb_val hnk]
      rw [e, bod_pos hnk (by omega) (by omega)]
      have eE : (h.toInt - (53 - bl b : Nat) + (h.toInt - (53 - bl b : Nat)) + sqW Q + 1075).toNat = E := by omega
      rw [eE]
    · rw [if_neg c1] at hd
      have hnk : nok 4503599627370496 (h.toInt - (53 - bl b : Nat) + (h.toInt - (53 - bl b : Nat)) + sqW Q + 1) := ⟨by omega, by omega, by omega, by omega⟩
      have e : FP.dmul (nb (decide (g = -1)) (b * 2 ^ (53 - bl b)) (h.toInt - (53 - bl b : Nat))) (nb (decide (g = -1)) (b * 2 ^ (53 - bl b)) (h.toInt - (53 - bl b : Nat))) = nb false 4503599627370496 (h.toInt - (53 - bl b : Nat) + (h.toInt - (53 - bl b : Nat)) + sqW Q + 1) := by
        apply FP.Core.val64_inj
        · rw [hd]; exact fun z => by cases z
        · rw [hd, nb_val hnk]
      rw [e, bod_pos hnk (by omega) (by omega)]
      have eE : (h.toInt - (53 - bl b : Nat) + (h.toInt - (53 - bl b : Nat)) + sqW Q + 1 + 1075).toNat = E + 1 := by omega
      rw [eE]
      exact congrArg lN (by omega)
theorem ag_isTimes {S : pS} {T : pT} (hR : rel S T) (o : Nat → Int64) (p0 : Int32) : agZ (wrZ [1, 5] S o (f_X0_isTimes S p0)) (f_X1_isTimes T p0) := by
  unfold f_X0_isTimes f_X1_isTimes
  rcases lsq_c hR p0 with ⟨e0, e1⟩ | ⟨e0, e2, e1⟩ | ⟨e0, e2, e1, h1, h2⟩
  · rw [e0, e1]
    exact agZ_er (rel_th hR 1) o _ 1 rfl (by decide)
  · rw [e0, e2, e1]
    exact agZ_er (rel_th hR 2) o _ 5 rfl (by decide)
  · rw [e0, e2, e1]
    dsimp only
    rw [if_pos (show (0 : Int32) = 0 from rfl), if_pos (times_1 (hR.2.2.2.1 p0.toNatClampNeg) h1 h2)]
    exact agZ_ok (rel_th hR 0) o _ rfl Iff.rfl

/-! whole roots, digit by digit -/
/-- what is left to reckon when m digits are still to come -/
def Xr (w pl m : Nat) : Nat := if m ≤ pl then w * 4 ^ (pl - m) else w / 4 ^ (m - pl)
def br (w pl m : Nat) : Nat := if m < pl then 0 else w / 4 ^ (m - pl) % 4
theorem Xr_step (w pl m : Nat) : Xr w pl m = 4 * Xr w pl (m + 1) + br w pl m := by
  unfold Xr br
  by_cases c : m < pl
  · rw [if_pos (show m ≤ pl by omega), if_pos (show m + 1 ≤ pl by omega), if_pos c]
    have e : pl - m = pl - (m + 1) + 1 := by omega
    rw [e, Nat.pow_succ, ← Nat.mul_assoc]
    omega
  · rw [if_neg c, if_neg (show ¬ m + 1 ≤ pl by omega)]
    have e : m + 1 - pl = (m - pl) + 1 := by omega
    have h1 : (if m ≤ pl then w * 4 ^ (pl - m) else w / 4 ^ (m - pl)) = w / 4 ^ (m - pl) := by
      by_cases c2 : m ≤ pl
      · have e2 : m = pl := by omega
        subst e2
        rw [if_pos c2, Nat.sub_self, Nat.pow_zero, Nat.mul_one, Nat.div_one]
      · rw [if_neg c2]
    rw [h1, e, Nat.pow_succ, ← Nat.div_div_eq_div_mul]
    omega
theorem br_lt (w pl m : Nat) : br w pl m < 4 := by
  unfold br
  split
  · decide
  · exact Nat.mod_lt _ (by decide)
theorem Xr_le (w pl : Nat) : ∀ m, Xr w pl m ≤ Xr w pl 0 := by
  intro m
  induction m with
  | zero => exact Nat.le_refl _
  | succ m ih =>
    have := Xr_step w pl m
    omega
theorem Xr_0 (w pl : Nat) : Xr w pl 0 = w * 4 ^ pl := by
  unfold Xr
  rw [if_pos (Nat.zero_le _), Nat.sub_zero]
theorem p24 (j : Nat) : 2 ^ (2 * j) = 4 ^ j := @Nat.pow_mul 2 2 j
theorem sq_lt {r a : Nat} (h : r * r < a * a) : r < a := by
  rcases Nat.lt_or_ge r a with c | c
  · exact c
  · have := Nat.mul_le_mul c c
    omega
/-- one digit more of a root -/
theorem rt_dig {r s X b : Nat} (h : r * r + s = X) (h2 : s ≤ 2 * r) (hb : b < 4) : (s * 4 + b < r * 4 + 1 → (r * 2) * (r * 2) + (s * 4 + b) = 4 * X + b ∧ s * 4 + b ≤ 2 * (r * 2)) ∧ (¬ s * 4 + b < r * 4 + 1 → (r * 2 + 1) * (r * 2 + 1) + (s * 4 + b - (r * 4 + 1)) = 4 * X + b ∧ s * 4 + b - (r * 4 + 1) ≤ 2 * (r * 2 + 1)) := by
  have e1 : (r * 2) * (r * 2) = 4 * (r * r) := by rw [Nat.mul_mul_mul_comm]; omega
  have e2 : (r * 2 + 1) * (r * 2 + 1) = 4 * (r * r) + 4 * r + 1 := by
    rw [Nat.add_mul, Nat.mul_add, e1]
    omega
  rw [e1, e2]
  constructor
  · intro c
    omega
  · intro c
    omega
theorem br_eq {w j : Nat} (hw : w < 4096) (hj : j ≤ 5) : ((nI w >>> (((2 : Int32) * nI j) &&& 31)) &&& 3) = nI (w / 4 ^ j % 4) := by
  have h1 : w / 4 ^ j ≤ w := Nat.div_le_self _ _
  rw [show (2 : Int32) = nI 2 from rfl, pk_mul, pk_shrN (by omega) _ (2 * j) (sh31 (2 * j) (by omega)), p24]
  exact pk_andN (n := w / 4 ^ j) (m := 3) (by omega) 2 (by decide)
theorem fr_go {w pl : Nat} (hw : w < 4096) (hpl : pl ≤ 60) (hX : w * 4 ^ pl < 1329227995784915872903807060280344576) : ∀ m, m ≤ 6 + pl → ∀ n r s (v : Int32), m < n → v.toInt = (m : Int) - 1 - pl → r * r + s = Xr w pl m → s ≤ 2 * r → ∃ q t, g_X0_floorRoot_8 (nI w) (nI pl) n (lN r) (lN s) v = lN q ∧ q * q + t = w * 4 ^ pl ∧ t ≤ 2 * q := by
  have hnp : (-(nI pl) : Int32).toInt = -(pl : Int) := by
    have h1 : (nI pl).toInt = pl := nI_toInt (by omega)
    rw [fb_negI (by rw [h1]; omega), h1]
  intro m
  induction m with
  | zero =>
    intro _ n r s v hn hv h1 h2
    cases n with
    | zero => omega
    | succ n =>
      rw [g_X0_floorRoot_8, if_pos (show v < -(nI pl) by rw [fa_lt, hnp]; omega)]
      rw [Xr_0] at h1
      exact ⟨r, s, rfl, h1, h2⟩
  | succ m ih =>
    intro hm n r s v hn hv h1 h2
    cases n with
    | zero => omega
    | succ n =>
      have hm' : m ≤ 6 + pl := Nat.le_of_succ_le hm
      have hn' : m < n := Nat.lt_of_succ_lt_succ hn
      have hst := Xr_step w pl m
      have hle := Xr_le w pl m
      rw [Xr_0] at hle
      have hb := br_lt w pl m
      have hr : r < 576460752303423488 := sq_lt (by
        have e : 576460752303423488 * 576460752303423488 = 332306998946228968225951765070086144 := by decide
        omega)
      obtain ⟨d1, d2⟩ := rt_dig h1 h2 hb
      have hbr : ∀ w0 : Int32, w0 = nI (br w pl m) → ∃ q t, g_X0_floorRoot_32 (fun a0 a1 a2 => g_X0_floorRoot_8 (nI w) (nI pl) n a0 a1 a2) (lN r) (lN s) v w0 = lN q ∧ q * q + t = w * 4 ^ pl ∧ t ≤ 2 * q := by
        intro w0 e0
        subst e0
        unfold g_X0_floorRoot_32
        have e4 : lN s * 4 + (nI (br w pl m)).toInt64 = lN (s * 4 + br w pl m) := by
          rw [nI_l (by omega), show (4 : Int64) = lN 4 from rfl, lN_mul, lN_add]
        have e5 : lN r * 4 + 1 = lN (r * 4 + 1) := by
          rw [show (4 : Int64) = lN 4 from rfl, lN_mul, lN_1]
        have e6 : lN r * 2 = lN (r * 2) := by rw [lN2, lN_mul]
        have hvv : (v + (-1)).toInt = (m : Int) - 1 - pl := by
          have c1 : (-1 : Int32).toInt = -1 := by decide
          rw [fb_addI (by rw [c1]; omega) (by rw [c1]; omega), c1]
          omega
        rw [e4, e5, e6]
        by_cases c : s * 4 + br w pl m < r * 4 + 1
        · obtain ⟨d3, d4⟩ := d1 c
          rw [if_pos ((lNlt (by omega) (by omega)).mpr c)]
          exact ih hm' n _ _ _ hn' hvv (by rw [d3, hst]) d4
        · obtain ⟨d3, d4⟩ := d2 c
          rw [if_neg (fun z => c ((lNlt (by omega) (by omega)).mp z)), lN_1, lN_sub (by omega)]
          exact ih hm' n _ _ _ hn' hvv (by rw [d3, hst]) d4
      rw [g_X0_floorRoot_8, if_neg (show ¬ v < -(nI pl) by rw [fa_lt, hnp]; omega)]
      by_cases c : v < 0
      · rw [if_pos c]
        refine hbr 0 ?_
        rw [fa_lt, i0] at c
        unfold br
        rw [if_pos (show m < pl by omega)]
        rfl
      · rw [if_neg c]
        refine hbr _ ?_
        rw [fa_lt, i0] at c
        obtain ⟨hj, ej⟩ := nI_of' (x := v) (by omega)
        rw [ej]
        have e : v.toInt.toNat = m - pl := by omega
        rw [e]
        unfold br
        rw [if_neg (show ¬ m < pl by omega)]
        exact br_eq hw (by omega)
theorem fr_eq {w pl : Nat} (hw : w < 4096) (hpl : pl ≤ 60) (hX : w * 4 ^ pl < 1329227995784915872903807060280344576) : ∃ q t, f_X0_floorRoot (nI w) (nI pl) = lN q ∧ q * q + t = w * 4 ^ pl ∧ t ≤ 2 * q := by
  have hnp : (-(nI pl) : Int32).toInt = -(pl : Int) := by
    have h1 : (nI pl).toInt = pl := nI_toInt (by omega)
    rw [fb_negI (by rw [h1]; omega), h1]
  have h5 : (5 : Int32).toInt = 5 := by decide
  have h0 : Xr w pl (6 + pl) = 0 := by
    unfold Xr
    rw [if_neg (show ¬ 6 + pl ≤ pl by omega), show 6 + pl - pl = 6 by omega]
    exact Nat.div_eq_of_lt hw
  unfold f_X0_floorRoot
  exact fr_go hw hpl hX (6 + pl) (Nat.le_refl _) _ 0 0 5 (by rw [hnp, h5]; omega) (by rw [h5]; omega) h0.symm (by omega)
theorem isq_u {a b t X : Nat} (h1 : a * a + t = X) (h2 : t ≤ 2 * a) (h3 : b * b ≤ X) (h4 : X < (b + 1) * (b + 1)) : a = b := by
  have e : (a + 1) * (a + 1) = a * a + 2 * a + 1 := by
    rw [Nat.add_mul, Nat.mul_add]
    omega
  have c1 : a < b + 1 := sq_lt (by omega)
  have c2 : b < a + 1 := sq_lt (by omega)
  omega
theorem isq_v {a b t u X : Nat} (h1 : a * a + t = X) (h2 : t ≤ 2 * a) (h3 : b * b + u = X) (h4 : u ≤ 2 * b) : a = b := by
  have e : (b + 1) * (b + 1) = b * b + 2 * b + 1 := by
    rw [Nat.add_mul, Nat.mul_add]
    omega
  exact isq_u h1 h2 (by omega) (by omega)
theorem r4k (p0 : Int32) : (∃ w, w < 4096 ∧ p0 = nI w ∧ f_X0_checkRange p0 0 4095 = .ok () ∧ f_X1_isFrom p0 0 4095 = 1) ∨ (f_X0_checkRange p0 0 4095 = .error 2 ∧ f_X1_isFrom p0 0 4095 = 0) := by
  rcases range_c p0 0 4095 with ⟨h1, h2, e2, e3⟩ | h
  · rw [i0] at h1
    rw [show (4095 : Int32).toInt = 4095 by decide] at h2
    obtain ⟨hw, ew⟩ := nI_of' h1
    exact Or.inl ⟨p0.toInt.toNat, by omega, ew, e2, e3⟩
  · exact Or.inr h
theorem ag_rootAt {S : pS} {T : pT} (hR : rel S T) (o : Nat → Int64) (p0 : Int32) (p1 : Int32) : agL (wrL [2] S o (f_X0_rootAt S p0 p1)) (f_X1_rootAt T p0 p1) := by
  have hE : g_X1_rootAt_26 T p0 p1 = (0, thS T 1) := by
    unfold g_X1_rootAt_26 g_X1_rootAt_27
    rw [no_0]
    rfl
  unfold f_X0_rootAt f_X1_rootAt
  rw [hE]
  rcases r4k p0 with ⟨w, hw, rfl, e0, e1⟩ | ⟨e0, e1⟩
  · rw [e0, e1, if_neg (show ¬ (1 : Int32) = 0 by decide)]
    dsimp only
    rcases range_c p1 0 16 with ⟨h1, h2, e2, e3⟩ | ⟨e2, e3⟩
    · rw [i0] at h1
      rw [show (16 : Int32).toInt = 16 by decide] at h2
      rw [e2, e3, if_neg (show ¬ (1 : Int32) = 0 by decide)]
      unfold g_X1_rootAt_27
      rw [no_1]
      dsimp only
      rw [if_pos (show (0 : Int32) = 0 from rfl)]
      obtain ⟨hp, ep⟩ := nI_of' h1
      generalize hpp : p1.toInt.toNat = pl at hp ep
      have hpl : pl ≤ 16 := by omega
      subst ep
      have h4 : 4 ^ pl ≤ 4294967296 := by
        have h9 : 4 ^ pl ≤ 4 ^ 16 := Nat.pow_le_pow_right (by decide) hpl
        have h8 : 4 ^ 16 = 4294967296 := by decide
        omega
      have hm : w * 4 ^ pl ≤ 4096 * 4294967296 := Nat.mul_le_mul (by omega) h4
      obtain ⟨q, t, q1, q2, q3⟩ := fr_eq hw (by omega) (by omega : w * 4 ^ pl < 1329227995784915872903807060280344576)
      have e5 : ((nI w).toInt64 <<< (((2 : Int32) * nI pl).toInt64 &&& 63)) = lN (w * 4 ^ pl) := by
        rw [nI_l (by omega), show (2 : Int32) = nI 2 from rfl, pk_mul, wb_shl w (by omega), p24]
      obtain ⟨b, b1, b2, b3⟩ := root_spec (n := w * 4 ^ pl) (by omega)
      rw [q1, e5, b1, isq_u q2 q3 b2 b3]
      exact agL_ok (rel_th hR 0) o _ rfl rfl
    · rw [e2, e3, if_pos (show (0 : Int32) = 0 from rfl)]
      exact agL_er (rel_th hR 1) o _ 2 rfl (by decide)
  · rw [e0, e1, if_pos (show (0 : Int32) = 0 from rfl)]
    exact agL_er (rel_th hR 1) o _ 2 rfl (by decide)

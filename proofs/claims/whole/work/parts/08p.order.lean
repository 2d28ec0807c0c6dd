/-! the order of the numbers: compare, rank, at -/
/-- a key's value: the sign times the bits of the size -/
def kv (g : Int32) (o : Int64) (h : Int32) : Int := (if (0 : Int64) ≤ f_X0_bitsOf g o h then f_X0_bitsOf g o h else ((-9223372036854775808) - f_X0_bitsOf g o h)).toInt
theorem lN_hi {m : Nat} (h1 : 9223372036854775808 ≤ m) (h2 : m < 18446744073709551616) : (lN m).toInt = (m : Int) - 18446744073709551616 := by
  have c := BitVec.toInt_eq_toNat_cond (lN m).toBitVec
  rw [wb_tn (by omega)] at c
  show (lN m).toBitVec.toInt = _
  rw [c, if_neg (by omega)]
  omega
theorem kv_0 : kv 0 0 0 = 0 := by decide
theorem kv_1 {b : Nat} {h : Int32} (hb : 0 < b) (hb2 : b < 9007199254740992) (h1 : -1022 ≤ h.toInt) (h2 : h.toInt ≤ 2000) (hv : Vb b h < 9223372036854775808) : kv 1 (lN b) h = Vb b h := by
  unfold kv
  rw [Vb_eq hb hb2 h1 h2, if_pos (by rw [fa_le64, L0, lNt (by omega)]; omega), lNt (by omega)]
theorem kv_m {b : Nat} {h : Int32} (hb : 0 < b) (hb2 : b < 9007199254740992) (h1 : -1022 ≤ h.toInt) (h2 : h.toInt ≤ 2000) (hv : Vb b h < 9223372036854775808) : kv (-1) (lN b) h = -(Vb b h : Int) := by
  unfold kv
  have e := lN_hi (m := Vb b h + 9223372036854775808) (by omega) (by omega)
  have m : (-9223372036854775808 : Int64).toInt = -9223372036854775808 := by decide
  rw [Vb_neg hb hb2 h1 h2 hv, if_neg (by rw [fa_le64, L0, e]; omega), fb_subL (by rw [e, m]; omega) (by rw [e, m]; omega), e, m]
  omega
def cm3 (x y : Int) : Int32 := if x < y then -1 else if x = y then 0 else 1
theorem cm3_lt {x y : Int} (h : x < y) : cm3 x y = -1 := by unfold cm3; rw [if_pos h]
theorem cm3_eq {x y : Int} (h : x = y) : cm3 x y = 0 := by unfold cm3; rw [if_neg (by omega), if_pos h]
theorem cm3_gt {x y : Int} (h : y < x) : cm3 x y = 1 := by unfold cm3; rw [if_neg (by omega), if_neg (by omega)]
/-- the reference's order of two numbers by their parts -/
def ordX (g1 : Int32) (o1 : Int64) (h1 : Int32) (g2 : Int32) (o2 : Int64) (h2 : Int32) : Int32 :=
  if g1 = g2 then (if g1 = 0 then 0 else (g1 * (if f_X1_lengthOf o1 + h1 = f_X1_lengthOf o2 + h2 then g_X1_sizes_92n (o1 <<< ((53 - f_X1_lengthOf o1 : Int32).toInt64 &&& 63)) (o2 <<< ((53 - f_X1_lengthOf o2 : Int32).toInt64 &&& 63)) else (if f_X1_lengthOf o1 + h1 ≤ f_X1_lengthOf o2 + h2 then (-1) else 1)))) else (if g1 ≤ g2 then (-1) else 1)
theorem order_X (T : pT) (p q : Int32) : f_X1_order T p q = ordX (sgT T p.toNatClampNeg) (odT T p.toNatClampNeg) (shT T p.toNatClampNeg) (sgT T q.toNatClampNeg) (odT T q.toNatClampNeg) (shT T q.toNatClampNeg) := rfl
theorem sizes_c {b1 b2 : Nat} {h1 h2 : Int32} (p1 : 0 < b1) (p2 : 0 < b2) (q1 : b1 < 9007199254740992) (q2 : b2 < 9007199254740992) (r1 : -1000 ≤ h1.toInt) (r2 : h1.toInt ≤ 1000) (r3 : -1000 ≤ h2.toInt) (r4 : h2.toInt ≤ 1000) (s1 : (Eb b1 h1 : Int) = h1.toInt - (53 - bl b1 : Nat) + 1075) (s2 : (Eb b2 h2 : Int) = h2.toInt - (53 - bl b2 : Nat) + 1075) :
    (if f_X1_lengthOf (lN b1) + h1 = f_X1_lengthOf (lN b2) + h2 then g_X1_sizes_92n (lN b1 <<< ((53 - f_X1_lengthOf (lN b1) : Int32).toInt64 &&& 63)) (lN b2 <<< ((53 - f_X1_lengthOf (lN b2) : Int32).toInt64 &&& 63)) else (if f_X1_lengthOf (lN b1) + h1 ≤ f_X1_lengthOf (lN b2) + h2 then (-1) else 1)) = cm3 (Vb b1 h1) (Vb b2 h2) := by
  have l1 : bl b1 ≤ 53 := bl_le.mpr (by omega)
  have l2 : bl b2 ≤ 53 := bl_le.mpr (by omega)
  have e1 : (53 - f_X1_lengthOf (lN b1) : Int32) = nI (53 - bl b1) := by
    rw [len_eq (by omega), show (53 : Int32) = nI 53 from rfl, pk_sub (by omega)]
  have e2 : (53 - f_X1_lengthOf (lN b2) : Int32) = nI (53 - bl b2) := by
    rw [len_eq (by omega), show (53 : Int32) = nI 53 from rfl, pk_sub (by omega)]
  have t1 : (f_X1_lengthOf (lN b1) + h1).toInt = bl b1 + h1.toInt := by
    have : (nI (bl b1)).toInt = bl b1 := nI_toInt (by omega)
    rw [len_eq (by omega), fb_addI (by rw [this]; omega) (by rw [this]; omega), this]
  have t2 : (f_X1_lengthOf (lN b2) + h2).toInt = bl b2 + h2.toInt := by
    have : (nI (bl b2)).toInt = bl b2 := nI_toInt (by omega)
    rw [len_eq (by omega), fb_addI (by rw [this]; omega) (by rw [this]; omega), this]
  obtain ⟨m1, m2⟩ := nrm_m p1 q1
  obtain ⟨m3, m4⟩ := nrm_m p2 q2
  rw [e1, e2, wb_shl b1 (by omega), wb_shl b2 (by omega)]
  unfold Vb
  generalize b1 * 2 ^ (53 - bl b1) = M1 at m1 m2 ⊢
  generalize b2 * 2 ^ (53 - bl b2) = M2 at m3 m4 ⊢
  generalize Eb b1 h1 = E1 at s1 ⊢
  generalize Eb b2 h2 = E2 at s2 ⊢
  by_cases c : f_X1_lengthOf (lN b1) + h1 = f_X1_lengthOf (lN b2) + h2
  · rw [if_pos c]
    rw [fa_eq, t1, t2] at c
    have e : E1 = E2 := by omega
    subst e
    unfold g_X1_sizes_92n
    by_cases c1 : M1 < M2
    · rw [if_pos ((lNle (by omega) (by omega)).mpr (by omega)), if_neg (fun h => by have := (lNle (by omega) (by omega)).mp h; omega), cm3_lt (by omega)]
    · by_cases c2 : M1 = M2
      · subst c2
        rw [if_pos ((lNle (by omega) (by omega)).mpr (by omega)), if_pos ((lNle (by omega) (by omega)).mpr (by omega)), cm3_eq (by omega)]
      · rw [if_neg (fun h => by have := (lNle (by omega) (by omega)).mp h; omega), cm3_gt (by omega)]
  · rw [if_neg c]
    rw [fa_eq, t1, t2] at c
    by_cases c1 : E1 < E2
    · rw [if_pos (by rw [fa_le, t1, t2]; omega), cm3_lt (by omega)]
    · rw [if_neg (by rw [fa_le, t1, t2]; omega), cm3_gt (by omega)]
theorem kv_sg {g : Int32} {o : Int64} {h : Int32} (hk : okN g o h) : (g = -1 ∧ kv g o h < 0) ∨ (g = 0 ∧ kv g o h = 0) ∨ (g = 1 ∧ 0 < kv g o h) := by
  by_cases c : g = 0
  · obtain ⟨e1, e2⟩ := okN_0' hk c
    subst e1
    subst e2
    subst c
    exact Or.inr (Or.inl ⟨rfl, kv_0⟩)
  · obtain ⟨b, e, hb, hb2, hE0, hE, hV, -⟩ := okN_V hk c
    obtain ⟨k1, k2, k3, k4, k5, k6, k7, k8⟩ := hk
    subst e
    have hpos : 0 < Vb b h := by
      unfold Vb
      omega
    rcases k1 with rfl | rfl | rfl
    · refine Or.inl ⟨rfl, ?_⟩
      rw [kv_m hb hb2 (by omega) (by omega) hV]
      omega
    · exact absurd rfl c
    · refine Or.inr (Or.inr ⟨rfl, ?_⟩)
      rw [kv_1 hb hb2 (by omega) (by omega) hV]
      omega
theorem ord_c {g1 g2 : Int32} {o1 o2 : Int64} {h1 h2 : Int32} (hk1 : okN g1 o1 h1) (hk2 : okN g2 o2 h2) : ordX g1 o1 h1 g2 o2 h2 = cm3 (kv g1 o1 h1) (kv g2 o2 h2) := by
  unfold ordX
  by_cases c : g1 = g2
  · rw [if_pos c]
    by_cases c0 : g1 = 0
    · rw [if_pos c0]
      obtain ⟨a1, a2⟩ := okN_0' hk1 c0
      obtain ⟨a3, a4⟩ := okN_0' hk2 (c.symm.trans c0)
      subst a1 a2 a3 a4
      subst c0
      subst c
      exact (cm3_eq rfl).symm
    · rw [if_neg c0]
      obtain ⟨b1, e1, p1, q1, -, -, v1, s1⟩ := okN_V hk1 c0
      obtain ⟨b2, e2, p2, q2, -, -, v2, s2⟩ := okN_V hk2 (fun z => c0 (c.trans z))
      obtain ⟨k1, -, -, -, -, k6, k7, -⟩ := hk1
      obtain ⟨-, -, -, -, -, l6, l7, -⟩ := hk2
      subst e1 e2
      rw [sizes_c p1 p2 q1 q2 k6 k7 l6 l7 s1 s2]
      subst c
      rcases k1 with rfl | rfl | rfl
      · rw [kv_m p1 q1 (by omega) (by omega) v1, kv_m p2 q2 (by omega) (by omega) v2]
        rcases Int.lt_trichotomy (Vb b1 h1 : Int) (Vb b2 h2 : Int) with z | z | z
        · rw [cm3_lt z, cm3_gt (by omega)]; decide
        · rw [cm3_eq z, cm3_eq (by omega)]; decide
        · rw [cm3_gt z, cm3_lt (by omega)]; decide
      · exact absurd rfl c0
      · rw [kv_1 p1 q1 (by omega) (by omega) v1, kv_1 p2 q2 (by omega) (by omega) v2, Int32.one_mul]
  · rw [if_neg c]
    rcases kv_sg hk1 with ⟨rfl, z1⟩ | ⟨rfl, z1⟩ | ⟨rfl, z1⟩ <;> rcases kv_sg hk2 with ⟨rfl, z2⟩ | ⟨rfl, z2⟩ | ⟨rfl, z2⟩
    · exact absurd rfl c
    · rw [cm3_lt (by omega)]; decide
    · rw [cm3_lt (by omega)]; decide
    · rw [cm3_gt (by omega)]; decide
    · exact absurd rfl c
    · rw [cm3_lt (by omega)]; decide
    · rw [cm3_gt (by omega)]; decide
    · rw [cm3_gt (by omega)]; decide
    · exact absurd rfl c
/-- the key of a slot -/
def KV (S : pS) (p : Int32) : Int := (f_X0_orderKey S p).toInt
theorem KV_eq (S : pS) (p : Int32) : KV S p = kv (sgS S p.toNatClampNeg) (odS S p.toNatClampNeg) (shS S p.toNatClampNeg) := rfl
theorem order_c {S : pS} {T : pT} (hR : rel S T) (p q : Int32) : f_X1_order T p q = cm3 (KV S p) (KV S q) := by
  rw [order_X, ← hR.1, ← hR.2.1, ← hR.2.2.1, ord_c (hR.2.2.2.1 _) (hR.2.2.2.1 _), KV_eq, KV_eq]
theorem key_le (S : pS) (p q : Int32) : f_X0_orderKey S p ≤ f_X0_orderKey S q ↔ KV S p ≤ KV S q := fa_le64 _ _
theorem key_lt (S : pS) (p q : Int32) : f_X0_orderKey S p < f_X0_orderKey S q ↔ KV S p < KV S q := fa_lt64 _ _
theorem key_eq (S : pS) (p q : Int32) : f_X0_orderKey S p = f_X0_orderKey S q ↔ KV S p = KV S q := fa_eq64 _ _
theorem ag_compare {S : pS} {T : pT} (hR : rel S T) (o : Nat → Int64) (p0 : Int32) (p1 : Int32) : agI (wrI [1] S o (f_X0_compare S p0 p1)) (f_X1_compare T p0 p1) := by
  unfold f_X0_compare f_X1_compare
  rcases slot_c p0 with ⟨h, e0, e1⟩ | ⟨e0, e1⟩
  · rw [e0, e1, if_neg (show ¬ (1 : Int32) = 0 by decide)]
    dsimp only
    rcases slot_c p1 with ⟨h2, e2, e3⟩ | ⟨e2, e3⟩
    · rw [e2, e3, if_neg (show ¬ (1 : Int32) = 0 by decide), no_1]
      dsimp only
      rw [if_pos (show (0 : Int32) = 0 from rfl), order_c (rel_th hR 0)]
      rcases Int.lt_trichotomy (KV S p0) (KV S p1) with z | z | z
      · rw [if_neg (by rw [key_le]; omega), cm3_lt z]
        exact agI_ok (rel_th hR 0) o _ rfl rfl
      · rw [if_pos (by rw [key_le]; omega), if_pos (by rw [key_le]; omega), cm3_eq z]
        exact agI_ok (rel_th hR 0) o _ rfl rfl
      · rw [if_pos (by rw [key_le]; omega), if_neg (by rw [key_le]; omega), cm3_gt z]
        exact agI_ok (rel_th hR 0) o _ rfl rfl
    · rw [e2, e3, if_pos (show (0 : Int32) = 0 from rfl), no_0]
      exact agI_er (rel_th hR 1) o _ 1 rfl (by decide)
  · rw [e0, e1, if_pos (show (0 : Int32) = 0 from rfl), no_0]
    exact agI_er (rel_th hR 1) o _ 1 rfl (by decide)
theorem rank_go {S : pS} {T u : pT} (hR : rel S u) (p0 : Int32) : ∀ n i c, i ≤ 8 → 8 - i < n → ∃ w, g_X0_rank_16 S p0 n c (nI i) = .ok w ∧ g_X1_rank_18 T p0 u n c (nI i) = (w, u) := by
  intro n
  induction n with
  | zero => intro i c h1 h2; omega
  | succ n ih =>
    intro i c h1 h2
    rw [g_X0_rank_16, g_X1_rank_18]
    by_cases c1 : i = 8
    · subst c1
      rw [if_pos (show (8 : Int32) ≤ nI 8 by decide), if_pos (show (8 : Int32) ≤ nI 8 by decide)]
      exact ⟨_, rfl, rfl⟩
    · have c2 : ¬ (8 : Int32) ≤ nI i := nI_ge (a := i) (b := 8) (by omega) (by decide)
      rw [if_neg c2, if_neg c2, order_c hR, nI_1]
      by_cases c3 : KV S p0 ≤ KV S (nI i)
      · have c4 : (0 : Int32) ≤ cm3 (KV S (nI i)) (KV S p0) := by
          rcases Int.lt_trichotomy (KV S (nI i)) (KV S p0) with z | z | z
          · omega
          · rw [cm3_eq z]; decide
          · rw [cm3_gt z]; decide
        rw [if_pos ((key_le S p0 (nI i)).mpr c3), if_pos c4]
        exact ih (i + 1) _ (by omega) (by omega)
      · have c4 : ¬ (0 : Int32) ≤ cm3 (KV S (nI i)) (KV S p0) := by
          rw [cm3_lt (by omega)]; decide
        rw [if_neg (fun z => c3 ((key_le S p0 (nI i)).mp z)), if_neg c4]
        exact ih (i + 1) _ (by omega) (by omega)
theorem ag_rank {S : pS} {T : pT} (hR : rel S T) (o : Nat → Int64) (p0 : Int32) : agI (wrI [1] S o (f_X0_rank S p0)) (f_X1_rank T p0) := by
  unfold f_X0_rank f_X1_rank
  rcases slot_c p0 with ⟨h, e0, e1⟩ | ⟨e0, e1⟩
  · rw [e0, e1, no_1]
    dsimp only
    rw [if_pos (show (0 : Int32) = 0 from rfl)]
    obtain ⟨w, w1, w2⟩ := rank_go (T := T) (rel_th hR 0) p0 (((8 : Int32).toInt - (0 : Int32).toInt).toNat + 1) 0 0 (by decide) (by decide)
    have w1' : g_X0_rank_16 S p0 (((8 : Int32).toInt - (0 : Int32).toInt).toNat + 1) 0 0 = .ok w := w1
    have w2' : g_X1_rank_18 T p0 (thS T 0) (((8 : Int32).toInt - (0 : Int32).toInt).toNat + 1) 0 0 = (w, thS T 0) := w2
    rw [w1', w2']
    exact agI_ok (rel_th hR 0) o _ rfl rfl
  · rw [e0, e1, no_0]
    exact agI_er (rel_th hR 1) o _ 1 rfl (by decide)
/-! at: the places are a permutation -/
theorem pigeon : ∀ (n : Nat) (f : Nat → Nat), (∀ i, i < n → f i < n) → (∀ i j, i < n → j < n → f i = f j → i = j) → ∀ k, k < n → ∃ i, i < n ∧ f i = k := by
  intro n
  induction n with
  | zero => intro f _ _ k hk; omega
  | succ n ih =>
    intro f h1 h2 k hk
    have ha := h1 n (Nat.lt_succ_self n)
    have hg := ih (fun i => if f i = n then f n else f i) (by
      intro i hi
      have hfi := h1 i (by omega)
      split
      · rename_i c
        have : f n ≠ n := fun z => by
          have := h2 i n (by omega) (by omega) (c.trans z.symm)
          omega
        omega
      · omega) (by
      intro i j hi hj
      split
      · split
        · rename_i c1 c2
          intro _
          exact h2 i j (by omega) (by omega) (c1.trans c2.symm)
        · intro e
          have := h2 n j (by omega) (by omega) e
          omega
      · split
        · intro e
          have := h2 i n (by omega) (by omega) e
          omega
        · intro e
          exact h2 i j (by omega) (by omega) e)
    by_cases c : k = f n
    · exact ⟨n, Nat.lt_succ_self n, c.symm⟩
    · by_cases c2 : k = n
      · by_cases c3 : f n = n
        · exact absurd (c2.trans c3.symm) c
        · obtain ⟨i, hi, e⟩ := hg (f n) (by omega)
          by_cases c4 : f i = n
          · exact ⟨i, by omega, c4.trans c2.symm⟩
          · rw [if_neg c4] at e
            have := h2 i n (by omega) (by omega) e
            omega
      · obtain ⟨i, hi, e⟩ := hg k (by omega)
        by_cases c4 : f i = n
        · rw [if_pos c4] at e
          exact absurd e.symm c
        · rw [if_neg c4] at e
          exact ⟨i, by omega, e⟩
/-- how many from i on -/
def cu (P : Nat → Bool) : Nat → Nat → Nat
  | _, 0 => 0
  | i, m + 1 => (if P i then 1 else 0) + cu P (i + 1) m
theorem cu_le {P Q : Nat → Bool} : ∀ m i, (∀ j, i ≤ j → j < i + m → P j = true → Q j = true) → cu P i m ≤ cu Q i m := by
  intro m
  induction m with
  | zero => intro i _; exact Nat.le_refl _
  | succ m ih =>
    intro i h
    have h1 := ih (i + 1) (fun j a b c => h j (by omega) (by omega) c)
    have h2 := h i (Nat.le_refl i) (by omega)
    unfold cu
    by_cases c : P i = true
    · rw [if_pos c, if_pos (h2 c)]; omega
    · rw [if_neg c]; omega
theorem cu_lt {P Q : Nat → Bool} : ∀ m i, (∀ j, i ≤ j → j < i + m → P j = true → Q j = true) → (∃ j, i ≤ j ∧ j < i + m ∧ ¬ P j = true ∧ Q j = true) → cu P i m < cu Q i m := by
  intro m
  induction m with
  | zero => intro i _ h; obtain ⟨j, a, b, -⟩ := h; omega
  | succ m ih =>
    intro i h hx
    obtain ⟨j, a, b, c1, c2⟩ := hx
    have h2 := h i (Nat.le_refl i) (by omega)
    unfold cu
    by_cases c : j = i
    · subst c
      have h1 := cu_le m (j + 1) (fun k a b c => h k (by omega) (by omega) c)
      rw [if_neg c1, if_pos c2]; omega
    · have h1 := ih (i + 1) (fun j a b c => h j (by omega) (by omega) c) ⟨j, by omega, by omega, c1, c2⟩
      by_cases c3 : P i = true
      · rw [if_pos c3, if_pos (h2 c3)]; omega
      · rw [if_neg c3]; omega
/-- stands ahead -/
def bfo (K : Nat → Int) (s j : Nat) : Bool := decide (K j < K s ∨ (K j = K s ∧ j < s))
def plc (K : Nat → Int) (s : Nat) : Nat := cu (bfo K s) 0 8
theorem bfo_iff {K : Nat → Int} {s j : Nat} : bfo K s j = true ↔ (K j < K s ∨ (K j = K s ∧ j < s)) := by
  unfold bfo
  exact decide_eq_true_iff
theorem cu_all : cu (fun _ => true) 0 8 = 8 := by decide
theorem plc_lt (K : Nat → Int) {s : Nat} (hs : s < 8) : plc K s < 8 := by
  have h := cu_lt (P := bfo K s) (Q := fun _ => true) 8 0 (fun _ _ _ _ => rfl) ⟨s, by omega, by omega, by rw [bfo_iff]; omega, rfl⟩
  rw [cu_all] at h
  exact h
theorem plc_mono (K : Nat → Int) {s t : Nat} (hs : s < 8) (h : K s < K t ∨ (K s = K t ∧ s < t)) : plc K s < plc K t := by
  refine cu_lt (P := bfo K s) (Q := bfo K t) 8 0 (fun j _ _ c => ?_) ⟨s, by omega, by omega, by rw [bfo_iff]; omega, by rw [bfo_iff]; exact h⟩
  rw [bfo_iff] at c ⊢
  omega
theorem plc_inj (K : Nat → Int) {s t : Nat} (hs : s < 8) (ht : t < 8) (h : plc K s = plc K t) : s = t := by
  rcases Int.lt_trichotomy (K s) (K t) with z | z | z
  · have := plc_mono K hs (Or.inl z); omega
  · rcases Nat.lt_trichotomy s t with y | y | y
    · have := plc_mono K hs (Or.inr ⟨z, y⟩); omega
    · exact y
    · have := plc_mono K ht (Or.inr ⟨z.symm, y⟩); omega
  · have := plc_mono K ht (Or.inl z); omega
theorem plc_ex (K : Nat → Int) {k : Nat} (hk : k < 8) : ∃ s, s < 8 ∧ plc K s = k ∧ ∀ t, t < 8 → plc K t = k → t = s := by
  obtain ⟨s, hs, e⟩ := pigeon 8 (plc K) (fun i hi => plc_lt K hi) (fun i j hi hj e => plc_inj K hi hj e) k hk
  exact ⟨s, hs, e, fun t ht et => plc_inj K ht hs (et.trans e.symm)⟩
theorem place_go (S : pS) {s : Nat} (hs : s < 8) : ∀ n m i c, i + m = 8 → m < n → c + m ≤ 8 → g_X0_placeOf_12 S (nI s) n (nI c) (nI i) = nI (c + cu (bfo (fun j => KV S (nI j)) s) i m) := by
  intro n
  induction n with
  | zero => intro m i c h1 h2; omega
  | succ n ih =>
    intro m i c h1 h2 h3
    rw [g_X0_placeOf_12]
    cases m with
    | zero =>
      have e : i = 8 := by omega
      subst e
      rw [if_pos (show (8 : Int32) ≤ nI 8 by decide)]
      rfl
    | succ m =>
      rw [if_neg (show ¬ (8 : Int32) ≤ nI (i) from nI_ge (a := i) (b := 8) (by omega) (by decide)), nI_1, nI_1]
      have hy := ih m (i + 1) (c + 1) (by omega) (by omega) (by omega)
      have hn := ih m (i + 1) c (by omega) (by omega) (by omega)
      unfold cu
      by_cases b : bfo (fun j => KV S (nI j)) s i = true
      · rw [if_pos b]
        rw [bfo_iff] at b
        have e : c + (1 + cu (bfo (fun j => KV S (nI j)) s) (i + 1) m) = c + 1 + cu (bfo (fun j => KV S (nI j)) s) (i + 1) m := by omega
        rw [e, ← hy]
        rcases b with b | ⟨b, b2⟩
        · rw [if_pos ((key_lt S (nI i) (nI s)).mpr b)]
        · rw [if_neg (fun z => by have := (key_lt S (nI i) (nI s)).mp z; omega), if_pos ((key_eq S (nI i) (nI s)).mpr b), if_neg (nI_ge (a := i) (b := s) (by omega) (by omega))]
      · rw [if_neg b]
        rw [bfo_iff] at b
        rw [Nat.zero_add, ← hn]
        rw [if_neg (fun z => b (Or.inl ((key_lt S (nI i) (nI s)).mp z)))]
        by_cases c2 : KV S (nI i) = KV S (nI s)
        · have c3 : ¬ i < s := fun z => b (Or.inr ⟨c2, z⟩)
          rw [if_pos ((key_eq S (nI i) (nI s)).mpr c2), if_pos (nI_le (a := s) (b := i) (by omega) (by omega))]
        · rw [if_neg (fun z => c2 ((key_eq S (nI i) (nI s)).mp z))]
theorem place_eq (S : pS) {s : Nat} (hs : s < 8) : f_X0_placeOf S (nI s) = nI (plc (fun j => KV S (nI j)) s) := by
  have h := place_go S hs (((8 : Int32).toInt - (0 : Int32).toInt).toNat + 1) 8 0 0 rfl (by decide) (by decide)
  rw [Nat.zero_add] at h
  exact h
theorem at0_go (S : pS) {k s : Nat} (hk : k < 8) (hs : s < 8) (e : plc (fun j => KV S (nI j)) s = k) (he : ∀ t, t < 8 → plc (fun j => KV S (nI j)) t = k → t = s) : ∀ n i f, i ≤ 8 → 8 - i < n → (s < i → f = nI s) → g_X0_at_8 S (nI k) n f (nI i) = .ok (nI s) := by
  intro n
  induction n with
  | zero => intro i f h1 h2; omega
  | succ n ih =>
    intro i f h1 h2 h3
    rw [g_X0_at_8]
    by_cases c : i = 8
    · subst c
      rw [if_pos (show (8 : Int32) ≤ nI 8 by decide), h3 hs]
    · have hp := plc_lt (fun j => KV S (nI j)) (s := i) (by omega)
      rw [if_neg (show ¬ (8 : Int32) ≤ nI (i) from nI_ge (a := i) (b := 8) (by omega) (by decide)), place_eq S (by omega), nI_1]
      by_cases c2 : plc (fun j => KV S (nI j)) i = k
      · rw [if_pos (by rw [c2])]
        exact ih (i + 1) _ (by omega) (by omega) (fun _ => by rw [he i (by omega) c2])
      · rw [if_neg (fun z => c2 ((nI_eq (by omega) (by omega)).mp z))]
        refine ih (i + 1) _ (by omega) (by omega) (fun z => h3 ?_)
        have : i ≠ s := fun y => c2 (by rw [y]; exact e)
        omega
theorem at27 {S : pS} {T u : pT} (hR : rel S u) (rec16 : Int32 → (Int32 × pT)) (k : Nat) {s : Nat} (hs : s < 8) : ∀ n m i c, i + m = 8 → m < n → c + m ≤ 8 → g_X1_at_27 rec16 T (nI k) u (nI s) n (nI c) (nI i) = if nI (c + cu (bfo (fun j => KV S (nI j)) s) i m) = nI k then (nI s, u) else rec16 (nI (s + 1)) := by
  intro n
  induction n with
  | zero => intro m i c h1 h2; omega
  | succ n ih =>
    intro m i c h1 h2 h3
    rw [g_X1_at_27]
    cases m with
    | zero =>
      have e : i = 8 := by omega
      subst e
      rw [if_pos (show (8 : Int32) ≤ nI 8 by decide), nI_1]
      rfl
    | succ m =>
      rw [if_neg (show ¬ (8 : Int32) ≤ nI (i) from nI_ge (a := i) (b := 8) (by omega) (by decide)), nI_1, nI_1, order_c hR]
      have hy := ih m (i + 1) (c + 1) (by omega) (by omega) (by omega)
      have hn := ih m (i + 1) c (by omega) (by omega) (by omega)
      unfold cu
      by_cases b : bfo (fun j => KV S (nI j)) s i = true
      · rw [if_pos b]
        rw [bfo_iff] at b
        have e : c + (1 + cu (bfo (fun j => KV S (nI j)) s) (i + 1) m) = c + 1 + cu (bfo (fun j => KV S (nI j)) s) (i + 1) m := by omega
        rw [e, ← hy]
        rcases b with b | ⟨b, b2⟩
        · rw [cm3_lt b, if_pos (by decide)]
        · rw [cm3_eq b, if_neg (by decide), if_pos rfl, if_neg (nI_ge (a := i) (b := s) (by omega) (by omega))]
      · rw [if_neg b]
        rw [bfo_iff] at b
        rw [Nat.zero_add, ← hn]
        by_cases c2 : KV S (nI i) = KV S (nI s)
        · have c3 : ¬ i < s := fun z => b (Or.inr ⟨c2, z⟩)
          rw [cm3_eq c2, if_neg (by decide), if_pos rfl, if_pos (nI_le (a := s) (b := i) (by omega) (by omega))]
        · have c3 : KV S (nI s) < KV S (nI i) := by
            have : ¬ KV S (nI i) < KV S (nI s) := fun z => b (Or.inl z)
            omega
          rw [cm3_gt c3, if_neg (by decide), if_neg (by decide)]
theorem at16 {S : pS} {T u : pT} (hR : rel S u) {k s : Nat} (hk : k < 8) (hs : s < 8) (e : plc (fun j => KV S (nI j)) s = k) (he : ∀ t, t < 8 → plc (fun j => KV S (nI j)) t = k → t = s) : ∀ n i, i ≤ s → 8 - i < n → g_X1_at_16 T (nI k) u n (nI i) = (nI s, u) := by
  intro n
  induction n with
  | zero => intro i h1 h2; omega
  | succ n ih =>
    intro i h1 h2
    have hp := plc_lt (fun j => KV S (nI j)) (s := i) (by omega)
    rw [g_X1_at_16, if_neg (show ¬ (8 : Int32) ≤ nI (i) from nI_ge (a := i) (b := 8) (by omega) (by decide))]
    have h := at27 (T := T) hR (fun a0 => g_X1_at_16 T (nI k) u n a0) k (s := i) (by omega) (((8 : Int32).toInt - (0 : Int32).toInt).toNat + 1) 8 0 0 rfl (by decide) (by decide)
    refine h.trans ?_
    rw [Nat.zero_add]
    have hc : cu (bfo (fun j => KV S (nI j)) i) 0 8 = plc (fun j => KV S (nI j)) i := rfl
    rw [hc]
    by_cases c2 : plc (fun j => KV S (nI j)) i = k
    · rw [if_pos (by rw [c2]), he i (by omega) c2]
    · rw [if_neg (fun z => c2 ((nI_eq (by omega) (by omega)).mp z))]
      have : i ≠ s := fun y => c2 (by rw [y]; exact e)
      exact ih (i + 1) (by omega) (by omega)
theorem ag_at {S : pS} {T : pT} (hR : rel S T) (o : Nat → Int64) (p0 : Int32) : agI (wrI [1] S o (f_X0_at S p0)) (f_X1_at T p0) := by
  unfold f_X0_at f_X1_at
  rcases slot_c p0 with ⟨h, e0, e1⟩ | ⟨e0, e1⟩
  · rw [e0, e1, no_1]
    dsimp only
    rw [if_pos (show (0 : Int32) = 0 from rfl)]
    obtain ⟨k, hk, rfl⟩ := vp_in_of h (by decide)
    obtain ⟨s, hs, e, he⟩ := plc_ex (fun j => KV S (nI j)) hk
    have w1 : g_X0_at_8 S (nI k) (((8 : Int32).toInt - (0 : Int32).toInt).toNat + 1) 0 0 = .ok (nI s) := at0_go S hk hs e he (((8 : Int32).toInt - (0 : Int32).toInt).toNat + 1) 0 0 (by decide) (by decide) (fun z => by omega)
    have w2 : g_X1_at_16 T (nI k) (thS T 0) (((8 : Int32).toInt - (0 : Int32).toInt).toNat + 1) 0 = (nI s, thS T 0) := at16 (T := T) (rel_th hR 0) hk hs e he (((8 : Int32).toInt - (0 : Int32).toInt).toNat + 1) 0 (Nat.zero_le _) (by decide)
    rw [w1, w2]
    exact agI_ok (rel_th hR 0) o _ rfl rfl
  · rw [e0, e1, no_0]
    exact agI_er (rel_th hR 1) o _ 1 rfl (by decide)

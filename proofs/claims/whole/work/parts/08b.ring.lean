/-! the ring of the class and the list of the reference -/
def sf {α : Type} (i : Nat) (f : Nat → α) : Nat → α := fun j => if j < i then f (j + 1) else f j
theorem sf_0 {α : Type} (f : Nat → α) : sf 0 f = f := rfl
theorem sf_I (i : Nat) (f : Nat → Int32) : upd (sf i f) i (sf i f (i + 1)) = sf (i + 1) f := by
  funext j
  unfold upd sf
  rw [if_neg (show ¬ i + 1 < i by omega)]
  by_cases h1 : j = i
  · rw [if_pos h1, h1, if_pos (by omega)]
  · rw [if_neg h1]
    by_cases h2 : j < i
    · rw [if_pos h2, if_pos (by omega)]
    · rw [if_neg h2, if_neg (by omega)]
theorem sf_L (i : Nat) (f : Nat → Int64) : vp_updL (sf i f) i (sf i f (i + 1)) = sf (i + 1) f := by
  funext j
  unfold vp_updL sf
  rw [if_neg (show ¬ i + 1 < i by omega)]
  by_cases h1 : j = i
  · rw [if_pos h1, h1, if_pos (by omega)]
  · rw [if_neg h1]
    by_cases h2 : j < i
    · rw [if_pos h2, if_pos (by omega)]
    · rw [if_neg h2, if_neg (by omega)]
theorem bec_loop (T : pT) (p0 p1 : Int32) (p2 : Int64) (p3 : Int32) (a b d : Nat → Int32) (c : Nat → Int64) : ∀ m i : Nat, i + m = 7 → g_X1_become_12 T p0 p1 p2 p3 (m + 1) (nI (i + 1)) (sf i a) (sf i b) (sf i c) (sf i d) =
    (p3, ((upd (sgT T) p0.toNatClampNeg p1), (vp_updL (odT T) p0.toNatClampNeg p2), (upd (shT T) p0.toNatClampNeg p3), (upd (sf 7 a) ((kpT T) - 1).toNatClampNeg p0), (upd (sf 7 b) ((kpT T) - 1).toNatClampNeg ((sgT T) p0.toNatClampNeg)), (vp_updL (sf 7 c) ((kpT T) - 1).toNatClampNeg ((odT T) p0.toNatClampNeg)), (upd (sf 7 d) ((kpT T) - 1).toNatClampNeg ((shT T) p0.toNatClampNeg)), (((kpT T) - 1) + 1), psT T, poT T, phT T, thT T)) := by
  intro m
  induction m with
  | zero =>
    intro i hi
    have e : i = 7 := by omega
    subst e
    rw [g_X1_become_12, if_pos (show (8 : Int32) ≤ nI (7 + 1) by decide)]
  | succ m ih =>
    intro i hi
    have h1 : ¬ (8 : Int32) ≤ nI (i + 1) := nI_ge (a := i + 1) (b := 8) (by omega) (by decide)
    rw [g_X1_become_12, if_neg h1, nI_pred, nI_clamp (n := i) (by omega), nI_clamp (n := i + 1) (by omega), nI_1, sf_I, sf_I, sf_L, sf_I]
    exact ih (i + 1) (by omega)
theorem nxt8 {n : Nat} (h : n < 8) : (nI n + 1) - (nI n + 1) / 8 * 8 = nI ((n + 1) % 8) := by
  have e : ∀ j, j < 8 → (nI j + 1) - (nI j + 1) / 8 * 8 = nI ((j + 1) % 8) := by decide +kernel
  exact e n h
theorem prv8 {n : Nat} (h : n < 8) : ((nI n + 8) - 1) - ((nI n + 8) - 1) / 8 * 8 = nI ((n + 7) % 8) := by
  have e : ∀ j, j < 8 → ((nI j + 8) - 1) - ((nI j + 8) - 1) / 8 * 8 = nI ((j + 7) % 8) := by decide +kernel
  exact e n h
theorem upd_at (f : Nat → Int32) (k : Nat) (x : Int32) : upd f k x k = x := if_pos rfl
theorem upd_ne (f : Nat → Int32) {k j : Nat} (x : Int32) (h : ¬ j = k) : upd f k x j = f j := if_neg h
theorem updL_at (f : Nat → Int64) (k : Nat) (x : Int64) : vp_updL f k x k = x := if_pos rfl
theorem updL_ne (f : Nat → Int64) {k j : Nat} (x : Int64) (h : ¬ j = k) : vp_updL f k x j = f j := if_neg h
theorem okN_upd {a c : Nat → Int32} {b : Nat → Int64} (h : ∀ j, okN (a j) (b j) (c j)) (k : Nat) {x z : Int32} {y : Int64} (hn : okN x y z) : ∀ j, okN (upd a k x j) (vp_updL b k y j) (upd c k z j) := by
  intro j
  by_cases e : j = k
  · rw [e, upd_at, upd_at, updL_at]; exact hn
  · rw [upd_ne _ _ e, upd_ne _ _ e, updL_ne _ _ e]; exact h j
theorem in_upd {a : Nat → Int32} {N : Nat} (h : ∀ j, vp_in (a j) N) (k : Nat) {x : Int32} (hx : vp_in x N) : ∀ j, vp_in (upd a k x j) N := by
  intro j
  by_cases e : j = k
  · rw [e, upd_at]; exact hx
  · rw [upd_ne _ _ e]; exact h j
theorem nIt {n : Nat} (h : n < 9) : (nI n).toInt.toNat = n := by rw [nI_toInt (by omega)]; rfl
theorem rel_push {S : pS} {T : pT} (h : rel S T) {p0 : Int32} (hp : vp_in p0 8) {p1 : Int32} {p2 : Int64} {p3 : Int32} (hok : okN p1 p2 p3) {n : Nat} (hn : n < 8) {k : Nat} (hk1 : k < 8) (KS KG KH : Nat → Int32) (KO : Nat → Int64) (ps : Int32) (po : Int64) (ph th : Int32)
    (hl : KS k = p0 ∧ KG k = sgS S p0.toNatClampNeg ∧ KO k = odS S p0.toNatClampNeg ∧ KH k = shS S p0.toNatClampNeg)
    (ho : ∀ j, j < k → KS j = ksS S ((n + 8 - k + j) % 8) ∧ KG j = kgS S ((n + 8 - k + j) % 8) ∧ KO j = koS S ((n + 8 - k + j) % 8) ∧ KH j = khS S ((n + 8 - k + j) % 8)) (hKS : ∀ j, vp_in (KS j) 8) :
    rel ((upd (sgS S) p0.toNatClampNeg p1), (vp_updL (odS S) p0.toNatClampNeg p2), (upd (shS S) p0.toNatClampNeg p3), (upd (ksS S) n p0), (upd (kgS S) n ((sgS S) p0.toNatClampNeg)), (vp_updL (koS S) n ((odS S) p0.toNatClampNeg)), (upd (khS S) n ((shS S) p0.toNatClampNeg)), nI ((n + 1) % 8), nI (k + 1))
      ((upd (sgT T) p0.toNatClampNeg p1), (vp_updL (odT T) p0.toNatClampNeg p2), (upd (shT T) p0.toNatClampNeg p3), KS, KG, KO, KH, nI (k + 1), ps, po, ph, th) := by
  obtain ⟨r1, r2, r3, r4, r5, r6, -⟩ := h
  refine ⟨?_, ?_, ?_, okN_upd r4 _ hok, okN_upd r5 _ (r4 _), in_upd r6 _ hp, vp_in_iff.mpr ?_, rfl, ⟨?_, ?_⟩, hKS, ?_⟩
  · show upd (sgS S) _ _ = upd (sgT T) _ _; rw [r1]
  · show vp_updL (odS S) _ _ = vp_updL (odT T) _ _; rw [r2]
  · show upd (shS S) _ _ = upd (shT T) _ _; rw [r3]
  · show 0 ≤ (nI ((n + 1) % 8)).toInt ∧ (nI ((n + 1) % 8)).toInt < (8 : Nat)
    rw [nI_toInt (by omega)]; omega
  · show 0 ≤ (nI (k + 1)).toInt
    rw [nI_toInt (by omega)]; omega
  · show (nI (k + 1)).toInt ≤ 8
    rw [nI_toInt (by omega)]; omega
  · intro j hj
    have hj : j < k + 1 := by
      have h9 : j < (nI (k + 1)).toInt.toNat := hj
      rw [nIt (by omega)] at h9; exact h9
    have hi : rgI ((upd (sgS S) p0.toNatClampNeg p1), (vp_updL (odS S) p0.toNatClampNeg p2), (upd (shS S) p0.toNatClampNeg p3), (upd (ksS S) n p0), (upd (kgS S) n ((sgS S) p0.toNatClampNeg)), (vp_updL (koS S) n ((odS S) p0.toNatClampNeg)), (upd (khS S) n ((shS S) p0.toNatClampNeg)), nI ((n + 1) % 8), nI (k + 1)) j = (n + 8 - k + j) % 8 := by
      show ((nI ((n + 1) % 8)).toInt.toNat + 8 - (nI (k + 1)).toInt.toNat + j) % 8 = _
      rw [nIt (by omega), nIt (by omega)]
      omega
    rw [hi]
    show KS j = upd (ksS S) n p0 _ ∧ KG j = upd (kgS S) n _ _ ∧ KO j = vp_updL (koS S) n _ _ ∧ KH j = upd (khS S) n _ _
    by_cases e : j = k
    · have e2 : (n + 8 - k + j) % 8 = n := by omega
      rw [e2, upd_at, upd_at, upd_at, updL_at, e]
      exact hl
    · have e2 : ¬ (n + 8 - k + j) % 8 = n := by omega
      rw [upd_ne _ _ e2, upd_ne _ _ e2, upd_ne _ _ e2, updL_ne _ _ e2]
      exact ho j (by omega)
theorem become_rel {S : pS} {T : pT} (h : rel S T) {p0 : Int32} (hp : vp_in p0 8) {p1 : Int32} {p2 : Int64} {p3 : Int32} (hok : okN p1 p2 p3) : ∃ (S' : pS) (T' : pT), f_X0_become S p0 p1 p2 p3 = (p3, S') ∧ f_X1_become T p0 p1 p2 p3 = (p3, T') ∧ rel S' T' ∧ thT T' = thT T := by
  have hR := h
  obtain ⟨r1, r2, r3, r4, r5, r6, r7, r8, r9, r10, r11⟩ := h
  obtain ⟨n, hn, en⟩ := vp_in_of r7 (by decide)
  obtain ⟨hk1, hk2⟩ := r9
  obtain ⟨hk3, ek⟩ := nI_of' hk1
  generalize hkk : (kpT T).toInt.toNat = k at hk3 ek
  have hk8 : k ≤ 8 := by omega
  have ec : cnS S = nI k := r8.trans ek
  have hrg : ∀ j, rgI S j = (n + 8 - k + j) % 8 := fun j => by
    unfold rgI
    rw [en, ec, nIt (by omega), nIt (by omega)]
  have r11 : ∀ j, j < k → ksT T j = ksS S ((n + 8 - k + j) % 8) ∧ kgT T j = kgS S ((n + 8 - k + j) % 8) ∧ koT T j = koS S ((n + 8 - k + j) % 8) ∧ khT T j = khS S ((n + 8 - k + j) % 8) := fun j hj => by
    have h9 := r11 j (by rw [ec, nIt (by omega)]; exact hj)
    rw [hrg j] at h9
    exact h9
  have enc : (nxS S).toNatClampNeg = n := by rw [en, nI_clamp (by omega)]
  by_cases c8 : k = 8
  · subst c8
    have h8 : (8 : Int32) ≤ cnS S := by rw [ec]; decide
    have e8 : kpT T = 8 := ek
    have f0 : f_X0_become S p0 p1 p2 p3 = (p3, ((upd (sgS S) p0.toNatClampNeg p1), (vp_updL (odS S) p0.toNatClampNeg p2), (upd (shS S) p0.toNatClampNeg p3), (upd (ksS S) n p0), (upd (kgS S) n ((sgS S) p0.toNatClampNeg)), (vp_updL (koS S) n ((odS S) p0.toNatClampNeg)), (upd (khS S) n ((shS S) p0.toNatClampNeg)), nI ((n + 1) % 8), nI (7 + 1))) := by
      unfold f_X0_become
      rw [if_pos h8]
      unfold g_X0_become_87
      rw [enc, en, nxt8 hn, ec]
    have f1 : f_X1_become T p0 p1 p2 p3 = (p3, ((upd (sgT T) p0.toNatClampNeg p1), (vp_updL (odT T) p0.toNatClampNeg p2), (upd (shT T) p0.toNatClampNeg p3), (upd (sf 7 (ksT T)) 7 p0), (upd (sf 7 (kgT T)) 7 ((sgT T) p0.toNatClampNeg)), (vp_updL (sf 7 (koT T)) 7 ((odT T) p0.toNatClampNeg)), (upd (sf 7 (khT T)) 7 ((shT T) p0.toNatClampNeg)), nI (7 + 1), psT T, poT T, phT T, thT T)) := by
      unfold f_X1_become
      rw [if_pos e8]
      have h9 := bec_loop T p0 p1 p2 p3 (ksT T) (kgT T) (khT T) (koT T) 7 0 (by omega)
      rw [sf_0, sf_0, sf_0, sf_0, show nI (0 + 1) = 1 from rfl] at h9
      rw [show ((8 : Int32).toInt - (1 : Int32).toInt).toNat + 1 = 7 + 1 by decide, h9, e8, show ((8 : Int32) - 1).toNatClampNeg = 7 by decide, show (8 : Int32) - 1 + 1 = nI (7 + 1) by decide]
    refine ⟨_, _, f0, f1, ?_, rfl⟩
    refine rel_push hR hp hok hn (k := 7) (by omega) _ _ _ _ _ _ _ _ ?_ ?_ (in_upd (fun j => ?_) _ hp)
    · rw [upd_at, upd_at, upd_at, updL_at, r1, r2, r3]
      exact ⟨rfl, rfl, rfl, rfl⟩
    · intro j hj
      have e2 : ¬ j = 7 := by omega
      rw [upd_ne _ _ e2, upd_ne _ _ e2, upd_ne _ _ e2, updL_ne _ _ e2]
      unfold sf
      rw [if_pos hj, if_pos hj, if_pos hj, if_pos hj]
      have h9 := r11 (j + 1) (by omega)
      rw [show n + 8 - 8 + (j + 1) = n + 8 - 7 + j by omega] at h9
      exact h9
    · unfold sf
      split
      · exact r10 _
      · exact r10 _
  · have h8 : ¬ (8 : Int32) ≤ cnS S := by rw [ec]; exact nI_ge (a := k) (b := 8) (by omega) (by decide)
    have e8 : ¬ kpT T = 8 := fun e => c8 (by rw [e] at hkk; exact hkk.symm)
    have f0 : f_X0_become S p0 p1 p2 p3 = (p3, ((upd (sgS S) p0.toNatClampNeg p1), (vp_updL (odS S) p0.toNatClampNeg p2), (upd (shS S) p0.toNatClampNeg p3), (upd (ksS S) n p0), (upd (kgS S) n ((sgS S) p0.toNatClampNeg)), (vp_updL (koS S) n ((odS S) p0.toNatClampNeg)), (upd (khS S) n ((shS S) p0.toNatClampNeg)), nI ((n + 1) % 8), nI (k + 1))) := by
      unfold f_X0_become
      rw [if_neg h8]
      unfold g_X0_become_87
      rw [enc, en, nxt8 hn, ec, nI_1]
    have f1 : f_X1_become T p0 p1 p2 p3 = (p3, ((upd (sgT T) p0.toNatClampNeg p1), (vp_updL (odT T) p0.toNatClampNeg p2), (upd (shT T) p0.toNatClampNeg p3), (upd (ksT T) k p0), (upd (kgT T) k ((sgT T) p0.toNatClampNeg)), (vp_updL (koT T) k ((odT T) p0.toNatClampNeg)), (upd (khT T) k ((shT T) p0.toNatClampNeg)), nI (k + 1), psT T, poT T, phT T, thT T)) := by
      unfold f_X1_become
      rw [if_neg e8, ek, nI_clamp (n := k) (by omega), nI_1]
    refine ⟨_, _, f0, f1, ?_, rfl⟩
    refine rel_push hR hp hok hn (k := k) (by omega) _ _ _ _ _ _ _ _ ?_ ?_ (in_upd r10 _ hp)
    · rw [upd_at, upd_at, upd_at, updL_at, r1, r2, r3]
      exact ⟨rfl, rfl, rfl, rfl⟩
    · intro j hj
      have e2 : ¬ j = k := by omega
      rw [upd_ne _ _ e2, upd_ne _ _ e2, upd_ne _ _ e2, updL_ne _ _ e2]
      exact r11 j hj

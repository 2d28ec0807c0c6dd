/-! WHAT BINDS THE TWO: the cells of the class and those of the reference -/
def okN (g : Int32) (o : Int64) (h : Int32) : Prop := (g = -1 ∨ g = 0 ∨ g = 1) ∧ (g = 0 ↔ o = 0) ∧ 0 ≤ o.toInt ∧ o.toInt < 9007199254740992 ∧ (o = 0 → h = 0) ∧ -1000 ≤ h.toInt ∧ h.toInt ≤ 1000 ∧ (1 < o.toInt → 0 ≤ h.toInt ∧ 3 ^ h.toInt.toNat ≤ o.toInt ^ 4)
/-- the place in the ring of the j-th of what is kept, the oldest first -/
def rgI (S : pS) (j : Nat) : Nat := ((nxS S).toInt.toNat + 8 - (cnS S).toInt.toNat + j) % 8
def rel (S : pS) (T : pT) : Prop :=
  sgS S = sgT T ∧ odS S = odT T ∧ shS S = shT T ∧ (∀ j : Nat, okN (sgS S j) (odS S j) (shS S j)) ∧ (∀ j : Nat, okN (kgS S j) (koS S j) (khS S j)) ∧ (∀ j : Nat, vp_in (ksS S j) 8) ∧ vp_in (nxS S) 8 ∧ cnS S = kpT T ∧ kpR T ∧ ksR T ∧
    (∀ j : Nat, j < (cnS S).toInt.toNat → ksT T j = ksS S (rgI S j) ∧ kgT T j = kgS S (rgI S j) ∧ koT T j = koS S (rgI S j) ∧ khT T j = khS S (rgI S j))
theorem rel_nx {S : pS} {T : pT} (h : rel S T) : vp_in (nxS S) 8 := h.2.2.2.2.2.2.1
theorem rel_ks {S : pS} {T : pT} (h : rel S T) : ∀ j : Nat, vp_in (ksS S j) 8 := h.2.2.2.2.2.1
theorem rel_kp {S : pS} {T : pT} (h : rel S T) : kpR T := h.2.2.2.2.2.2.2.2.1
theorem rel_kt {S : pS} {T : pT} (h : rel S T) : ksR T := h.2.2.2.2.2.2.2.2.2.1
theorem rel_cn {S : pS} {T : pT} (h : rel S T) : cnS S = kpT T := h.2.2.2.2.2.2.2.1
theorem rel_sh {S : pS} {T : pT} (h : rel S T) : ∀ j : Nat, j < 8 → pOk (shS S j) := fun j _ => ⟨(h.2.2.2.1 j).2.2.2.2.2.1, (h.2.2.2.1 j).2.2.2.2.2.2.1⟩
def agI (x : Int32 × pS × (Nat → Int64)) (y : Int32 × pT) : Prop := thT y.2 = x.1 ∧ rel x.2.1 y.2 ∧ (x.1 = 0 → x.2.2 0 = y.1.toInt64)
def agL (x : Int32 × pS × (Nat → Int64)) (y : Int64 × pT) : Prop := thT y.2 = x.1 ∧ rel x.2.1 y.2 ∧ (x.1 = 0 → x.2.2 0 = y.1)
def agZ (x : Int32 × pS × (Nat → Int64)) (y : Int32 × pT) : Prop := thT y.2 = x.1 ∧ rel x.2.1 y.2 ∧ (x.1 = 0 → x.2.2 0 = if y.1 = 0 then 0 else 1)
theorem okN_0 : okN 0 0 0 := ⟨Or.inr (Or.inl rfl), ⟨fun _ => rfl, fun _ => rfl⟩, by decide, by decide, fun _ => rfl, by decide, by decide, fun h => absurd h (by decide)⟩
theorem in08 : vp_in (0 : Int32) 8 := vp_in_iff.mpr (by decide)
theorem rel_00 : rel S00 T00 := ⟨rfl, rfl, rfl, fun _ => okN_0, fun _ => okN_0, fun _ => in08, in08, rfl, ⟨by decide, by decide⟩, fun _ => in08, fun _ _ => ⟨rfl, rfl, rfl, rfl⟩⟩

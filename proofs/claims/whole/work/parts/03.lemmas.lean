/-! plain facts of int and long (fa_, fb_: after kit/laws, given for pasting), and what the loops' measures need -/
theorem fa_lt (a b : Int32) : a < b ↔ a.toInt < b.toInt := Int32.lt_iff_toInt_lt
theorem fa_le (a b : Int32) : a ≤ b ↔ a.toInt ≤ b.toInt := Int32.le_iff_toInt_le
theorem fa_eq (a b : Int32) : a = b ↔ a.toInt = b.toInt := Int32.toInt_inj.symm
theorem fa_lt64 (a b : Int64) : a < b ↔ a.toInt < b.toInt := Int64.lt_iff_toInt_lt
theorem fa_le64 (a b : Int64) : a ≤ b ↔ a.toInt ≤ b.toInt := Int64.le_iff_toInt_le
theorem fa_eq64 (a b : Int64) : a = b ↔ a.toInt = b.toInt := Int64.toInt_inj.symm
theorem fb_rng (x : Int32) : -2147483648 ≤ x.toInt ∧ x.toInt < 2147483648 := by
  have h1 := Int32.le_toInt x
  have h2 := Int32.toInt_lt x
  omega
theorem fb_bmod {z : Int} (h1 : -2147483648 ≤ z) (h2 : z < 2147483648) : z.bmod (2 ^ 32) = z := by
  rw [Int.bmod_eq_of_le (by omega) (by omega)]
theorem fb_addI {x y : Int32} (h1 : -2147483648 ≤ x.toInt + y.toInt) (h2 : x.toInt + y.toInt < 2147483648) : (x + y).toInt = x.toInt + y.toInt := by
  rw [Int32.toInt_add, fb_bmod h1 h2]
theorem fb_subI {x y : Int32} (h1 : -2147483648 ≤ x.toInt - y.toInt) (h2 : x.toInt - y.toInt < 2147483648) : (x - y).toInt = x.toInt - y.toInt := by
  rw [Int32.toInt_sub, fb_bmod h1 h2]
theorem fb_mulI {x y : Int32} (h1 : -2147483648 ≤ x.toInt * y.toInt) (h2 : x.toInt * y.toInt < 2147483648) : (x * y).toInt = x.toInt * y.toInt := by
  rw [Int32.toInt_mul, fb_bmod h1 h2]
theorem fb_negI {x : Int32} (h : x.toInt ≠ -2147483648) : (-x).toInt = -x.toInt := by
  have := fb_rng x
  rw [Int32.toInt_neg, fb_bmod (by omega) (by omega)]
theorem fb_ofI {z : Int} (h1 : -2147483648 ≤ z) (h2 : z < 2147483648) : (Int32.ofInt z).toInt = z := by
  rw [Int32.toInt_ofInt, fb_bmod h1 h2]
theorem fb_asI (x : Int32) : Int32.ofInt x.toInt = x := Int32.ofInt_toInt x
theorem fb_rngL (x : Int64) : -9223372036854775808 ≤ x.toInt ∧ x.toInt < 9223372036854775808 := by
  have h1 := Int64.le_toInt x
  have h2 := Int64.toInt_lt x
  omega
theorem fb_bmodL {z : Int} (h1 : -9223372036854775808 ≤ z) (h2 : z < 9223372036854775808) : z.bmod (2 ^ 64) = z := by
  rw [Int.bmod_eq_of_le (by omega) (by omega)]
theorem fb_addL {x y : Int64} (h1 : -9223372036854775808 ≤ x.toInt + y.toInt) (h2 : x.toInt + y.toInt < 9223372036854775808) : (x + y).toInt = x.toInt + y.toInt := by
  rw [Int64.toInt_add, fb_bmodL h1 h2]
theorem fb_subL {x y : Int64} (h1 : -9223372036854775808 ≤ x.toInt - y.toInt) (h2 : x.toInt - y.toInt < 9223372036854775808) : (x - y).toInt = x.toInt - y.toInt := by
  rw [Int64.toInt_sub, fb_bmodL h1 h2]
theorem fb_mulL {x y : Int64} (h1 : -9223372036854775808 ≤ x.toInt * y.toInt) (h2 : x.toInt * y.toInt < 9223372036854775808) : (x * y).toInt = x.toInt * y.toInt := by
  rw [Int64.toInt_mul, fb_bmodL h1 h2]
theorem fb_negL {x : Int64} (h : x.toInt ≠ -9223372036854775808) : (-x).toInt = -x.toInt := by
  have := fb_rngL x
  rw [Int64.toInt_neg, fb_bmodL (by omega) (by omega)]
theorem i1 : (1 : Int32).toInt = 1 := by decide
theorem i8 : (8 : Int32).toInt = 8 := by decide
theorem i0 : (0 : Int32).toInt = 0 := by decide
theorem L0 : (0 : Int64).toInt = 0 := by decide
theorem L1 : (1 : Int64).toInt = 1 := by decide
theorem L2 : (2 : Int64).toInt = 2 := by decide
theorem inc_toInt {v B : Int32} (c : ¬ B ≤ v) : (v + 1).toInt = v.toInt + 1 := by
  have hB := fb_rng B
  have hv := fb_rng v
  rw [fa_le] at c
  rw [fb_addI (by rw [i1]; omega) (by rw [i1]; omega), i1]
theorem mu_up {v B : Int32} {n : Nat} (c : ¬ B ≤ v) (h : (B.toInt - v.toInt).toNat < n + 1) : (B.toInt - (v + 1).toInt).toNat < n := by
  rw [inc_toInt c]
  rw [fa_le] at c
  omega
theorem mu_upE {v B : Int32} {n : Nat} (hB : B.toInt < 2147483647) (c : ¬ B < v) (h : (B.toInt - v.toInt + 1).toNat < n + 1) : (B.toInt - (v + 1).toInt + 1).toNat < n := by
  have hv := fb_rng v
  rw [fa_lt] at c
  rw [fb_addI (by rw [i1]; omega) (by rw [i1]; omega), i1]
  omega
theorem mu_dn {v B : Int32} {n : Nat} (hB : -2147483648 < B.toInt) (c : ¬ v < B) (h : (v.toInt - B.toInt + 1).toNat < n + 1) : ((v + (-1)).toInt - B.toInt + 1).toNat < n := by
  have hv := fb_rng v
  have hm : (-1 : Int32).toInt = -1 := by decide
  rw [fa_lt] at c
  rw [fb_addI (by rw [hm]; omega) (by rw [hm]; omega), hm]
  omega
theorem in8 {v : Int32} (h : (0 : Int32) ≤ v) (c : ¬ (8 : Int32) ≤ v) : vp_in v 8 := by
  rw [fa_le] at h c
  rw [i0] at h
  rw [i8] at c
  exact vp_in_iff.mpr ⟨h, by omega⟩
theorem inc0 {v B : Int32} (h : (0 : Int32) ≤ v) (c : ¬ B ≤ v) : (0 : Int32) ≤ v + 1 := by
  rw [fa_le] at h ⊢
  rw [i0] at h ⊢
  rw [inc_toInt c]
  omega
theorem divL_toInt {a b : Int64} (ha : 0 ≤ a.toInt) (hb : 0 < b.toInt) : (a / b).toInt = a.toInt / b.toInt := by
  have hr := fb_rngL a
  have hne : b ≠ -1 := by
    intro h
    rw [h] at hb
    exact absurd hb (by decide)
  rw [Int64.toInt_div_of_ne_right a b hne, Int.tdiv_eq_ediv_of_nonneg ha]
theorem mu_half {v : Int64} {n : Nat} (c : ¬ v ≤ 0) (h : v.toInt.toNat < n + 1) : (v / 2).toInt.toNat < n := by
  rw [fa_le64, L0] at c
  rw [divL_toInt (by omega) (by decide), L2]
  omega
theorem mu_shr {v : Int32} {n : Nat} (c : ¬ v ≤ 0) (h : v.toInt.toNat < n + 1) : (v >>> ((1 : Int32) &&& 31)).toInt.toNat < n := by
  rw [fa_le, i0] at c
  rw [pk_shr v ((1 : Int32) &&& 31) 1 (by decide)]
  have e : v.toInt >>> 1 = v.toInt / 2 := by rw [Int.shiftRight_eq_div_pow]; rfl
  rw [e]
  omega
theorem nz_pos {v : Int64} (c : ¬ v ≤ 0) : ¬ v = 0 := by
  intro h
  rw [h] at c
  exact c (by decide)
theorem nz_gt1 {v : Int64} (c : ¬ v ≤ 1) : ¬ v = 0 := by
  intro h
  rw [h] at c
  exact c (by decide)
/-- a contract of a method of a class some of whose others are run by entries (java.lang.Math): after the kit's Met.ofW -/
theorem xMet_ofWF {l : Launch} {y : MethodName} {ws ws' : List Cond} {rm : Room} {Pc : Array Value → State → Prop} {Qc : Array Value → State → Outcome → State → Prop} {mc ms : Nat} {free : Addr → Prop} {cc : ByteArray} {maxL : Nat} {ret : Option FieldType}
    (hy : plainFor y = true) (hw : ws = Cond.code y cc maxL ret :: ws')
    (body : ∀ p e s m args below meth c s₁, BodyLoose p l y (headSpec ws rm) cc maxL ret e s m args below meth c s₁ → c.maxLocals = maxL → Pc args s →
      W p l e (headSpec ws rm).room s m args below meth c s.heap [] 0 0 (MQ below Qc args s mc ms free) (entryFrame m args maxL)) : Met l y ws rm Pc Qc mc ms free := by
  refine MetFree.of_bodySF (code := cc) (maxLocals := maxL) (ret := ret) hy ?_ ?_
  · intro args s m h hn
    obtain ⟨meth, c, h1, h2, h3, h4, h5, h6, -, -⟩ := Cond.code_spec hn (atoms_spec (ws := ws) h _ (by rw [hw]; exact List.mem_cons_self))
    exact ⟨meth, c, h1, h2, h3, h4, h5, h6⟩
  · intro p e s m args below meth c s₁ B hml hP _
    have hh0 : s₁.heap = s.heap := by rw [B.state]; rfl
    obtain ⟨t, a1, o, b1, b2, b3⟩ := body p e s m args below meth c s₁ B hml hP s₁ hh0 (Stand.of_body B)
    exact ⟨t, o, a1, b1, b2, ⟨b3.1, b3.2⟩⟩

/-! the law's wrappers: each calls a method of the class, puts its answer into a cell, tells its exception by a number; which exceptions a method can throw at all -/
abbrev xW (cI cJ : ClassId) (ad : Nat → Nat) (ao : Nat) (S : pS) (o : Nat → Int64) : va_W := pmW cI cJ ad S ++ [(ao, .inl (cJ, 1, .inr (.inl o)))]
def xN (U : State) : Prop := ∀ i j : Nat, 1 ≤ i → i ≤ 6 → 1 ≤ j → j ≤ 6 → i ≠ j → va_Nc (exN i) (exN j) U
theorem xN_calling {U : State} {g : JFrame} {mk : MethodId} {a : Array Value} (h : xN U) : xN (U.calling g mk a) := fun i j h1 h2 h3 h4 h5 => va_Nc.moved (u := U) (U := U.calling g mk a) (Vm.Alike.refl U.vm) (h i j h1 h2 h3 h4 h5)
theorem xN_at {s U : State} (h : xN s) (hW : s.WarmedH U.vm) : xN U := fun i j h1 h2 h3 h4 h5 => va_Nc.moved hW.alike (h i j h1 h2 h3 h4 h5)
theorem adr_eq {A : Nat → Prop} {w1 w2 : va_W} (h : w1.map Prod.fst = w2.map Prod.fst) (hD : va_D A w1) : va_D A w2 := by
  have hg : ∀ (k : Nat) (q : Nat × va_E), w2[k]? = some q → ∃ q1 : Nat × va_E, w1[k]? = some q1 ∧ q1.1 = q.1 := by
    intro k q hq
    have h2 : (w2.map Prod.fst)[k]? = some q.1 := by rw [List.getElem?_map, hq]; rfl
    rw [← h, List.getElem?_map] at h2
    cases h3 : w1[k]? with
    | none => rw [h3] at h2; cases h2
    | some q1 =>
      rw [h3] at h2
      exact ⟨q1, rfl, Option.some.inj h2⟩
  refine ⟨fun i j p q hp hq e => ?_, fun k q hq => ?_⟩
  · obtain ⟨p1, h1, e1⟩ := hg i p hp
    obtain ⟨q1, h2, e2⟩ := hg j q hq
    exact hD.1 i j p1 q1 h1 h2 (by rw [e1, e2, e])
  · obtain ⟨q1, h1, e1⟩ := hg k q hq
    rw [← e1]
    exact hD.2 k q1 h1
theorem xD_any {A : Nat → Prop} {cI cJ : ClassId} {ad : Nat → Nat} {ao : Nat} {S S' : pS} {o o' : Nat → Int64} (h : va_D A (xW cI cJ ad ao S o)) : va_D A (xW cI cJ ad ao S' o') := adr_eq (w1 := xW cI cJ ad ao S o) rfl h
theorem xD_pm {A : Nat → Prop} {cI cJ : ClassId} {ad : Nat → Nat} {ao : Nat} {S S' : pS} {o : Nat → Int64} (h : va_D A (xW cI cJ ad ao S o)) : va_D (fun q => A q ∧ q ≠ ao) (pmW cI cJ ad S') := by
  have h8 : ∀ k, k < 8 → (xW cI cJ ad ao S o)[k]? = (pmW cI cJ ad S)[k]? := fun k hk => List.getElem?_append_left hk
  have hD := h.sub (ws' := pmW cI cJ ad S) [0, 1, 2, 3, 4, 5, 6, 7] (by decide) rfl
  refine adr_eq (w1 := pmW cI cJ ad S) rfl (hD.weaken (fun k q hk hq => ⟨hq, fun e => ?_⟩))
  have hlt : k < 8 := (List.getElem?_eq_some_iff.mp hk).1
  have h1 := h.1 k 8 q (ao, .inl (cJ, 1, .inr (.inl o))) (by rw [h8 k hlt]; exact hk) rfl e
  omega
theorem xP_join {D : va_G} {A : Nat → Prop} {cI cJ : ClassId} {ad : Nat → Nat} {ao : Nat} {S S' : pS} {o : Nat → Int64} {H H1 : Heap} (hP : va_P D pCl (xW cI cJ ad ao S o) H) (hP1 : va_P D pCl (pmW cI cJ ad S') H1) (hk : ∀ q : Nat, q < H.size → ¬ (A q ∧ q ≠ ao) → H1[q]? = H[q]?) : va_P D pCl (xW cI cJ ad ao S' o) H1 := by
  refine hP1.app ?_
  have hP2 := hP.sub (ws' := [(ao, .inl (cJ, 1, .inr (.inl o)))]) [8] rfl
  refine hP2.kept (fun k q hk9 => ?_)
  have hq : q.1 = ao := by
    have hz : k < 1 := (List.getElem?_eq_some_iff.mp hk9).1
    rw [show k = 0 by omega] at hk9
    cases hk9
    rfl
  exact hk q.1 (vx_lt hP2 hk9) (fun h => h.2 hq)
def posN : List Nat → Nat → Nat
  | [], _ => 0
  | c :: r, k => if k = c then 1 else posN r k + 1
def wrM (cs : List Nat) (S : pS) (o : Nat → Int64) : Except Nat (Int32 × pS) → Int32 × pS × (Nat → Int64)
  | .ok (v, S') => (0, S', vp_updL o (0 : Int32).toNatClampNeg (v.toInt64))
  | .error k => (nI (posN cs k), S, o)
def wrI (cs : List Nat) (S : pS) (o : Nat → Int64) : Except Nat Int32 → Int32 × pS × (Nat → Int64)
  | .ok v => (0, S, vp_updL o (0 : Int32).toNatClampNeg (v.toInt64))
  | .error k => (nI (posN cs k), S, o)
def wrL (cs : List Nat) (S : pS) (o : Nat → Int64) : Except Nat Int64 → Int32 × pS × (Nat → Int64)
  | .ok v => (0, S, vp_updL o (0 : Int32).toNatClampNeg v)
  | .error k => (nI (posN cs k), S, o)
def wrZ (cs : List Nat) (S : pS) (o : Nat → Int64) : Except Nat Int32 → Int32 × pS × (Nat → Int64)
  | .ok v => (0, S, vp_updL o (0 : Int32).toNatClampNeg (if v = 0 then 0 else 1))
  | .error k => (nI (posN cs k), S, o)
theorem in01 : vp_in (0 : Int32) 1 := vp_in_iff.mpr (by decide)
theorem e_cs {p : Int32} {k : Nat} (h : f_X0_checkSlot p = .error k) : k = 1 := by
  unfold f_X0_checkSlot g_X0_checkSlot_10 at h
  repeat' split at h
  all_goals (cases h; try rfl)
theorem e_cr {a b c : Int32} {k : Nat} (h : f_X0_checkRange a b c = .error k) : k = 2 := by
  unfold f_X0_checkRange g_X0_checkRange_10 at h
  repeat' split at h
  all_goals (cases h; try rfl)
theorem e_cbe {a b : Int32} {k : Nat} (h : f_X0_checkBaseAndExponent a b = .error k) : k = 2 := by
  unfold f_X0_checkBaseAndExponent at h
  repeat' split at h
  all_goals (cases h; try exact e_cr (by assumption))
theorem e_cdb {a : Int32} {k : Nat} (h : f_X0_checkDigitBase a = .error k) : k = 2 := by
  unfold f_X0_checkDigitBase at h
  repeat' split at h
  all_goals (cases h; try exact e_cr (by assumption))
theorem e_ct {a b : Int32} {k : Nat} (h : f_X0_checkTold a b = .error k) : k = 5 := by
  unfold f_X0_checkTold at h
  repeat' split at h
  all_goals (cases h; try rfl)
theorem e_cpn {a b : Int32} {k : Nat} (h : f_X0_checkPowerNear a b = .error k) : k = 5 := by
  unfold f_X0_checkPowerNear at h
  repeat' split at h
  all_goals (cases h; try rfl)
theorem e_cn {S : pS} {p : Int32} {k : Nat} (h : f_X0_checkNear S p = .error k) : k = 3 := by
  unfold f_X0_checkNear at h
  repeat' split at h
  all_goals (cases h; try rfl)
theorem e_csq {S : pS} {p : Int32} {k : Nat} (h : f_X0_checkSquared S p = .error k) : k = 5 := by
  unfold f_X0_checkSquared g_X0_checkSquared_21 at h
  repeat' split at h
  all_goals (cases h; try rfl)
theorem Met_ofWH {l : Launch} {y : MethodName} {ws ws' : List Cond} {rm : Room} {Pc : Array Value → State → Prop} {Qc : Array Value → State → Outcome → State → Prop} {mc ms : Nat} {free : Addr → Prop} {cc : ByteArray} {maxL : Nat} {ret : Option FieldType} {hh : List (Nat × Nat × Nat × Nat)}
    (hy : plainName y.cls = true) (hw : ws = Cond.codeWith y cc maxL ret hh :: ws')
    (body : ∀ p e s m args below meth c s₁, BodyLoose p l y (headSpec ws rm) cc maxL ret e s m args below meth c s₁ → c.maxLocals = maxL → Pc args s →
      W p l e (headSpec ws rm).room s m args below meth c s.heap [] 0 0 (MQ below Qc args s mc ms free) (entryFrame m args maxL)) : Met l y ws rm Pc Qc mc ms free := by
  refine MetFree.of_bodyS (code := cc) (maxLocals := maxL) (ret := ret) hy ?_ ?_
  · intro args s m h hn
    obtain ⟨m9, meth, c, hn9, h1, h2, h3, h4, -, h5, h6, -⟩ := Cond.codeWith_spec (atoms_spec (ws := ws) h _ (by rw [hw]; exact List.mem_cons_self))
    cases hn.symm.trans hn9
    exact ⟨meth, c, h1, h2, h3, h4, h5, h6⟩
  · intro p e s m args below meth c s₁ B hml hP _
    have hh0 : s₁.heap = s.heap := by rw [B.state]; rfl
    obtain ⟨t, a1, o, b1, b2, b3⟩ := body p e s m args below meth c s₁ B hml hP s₁ hh0 (Stand.of_body B)
    exact ⟨t, o, a1, b1, b2, ⟨b3.1, b3.2⟩⟩
theorem err_put {S : pS} {p0 : Int32} {p1 : Int32} {k : Nat} (h : f_X0_put S p0 p1 = .error k) : k = 1 ∨ k = 2 := by
  unfold f_X0_put at h
  repeat' split at h
  all_goals first
    | (cases h; done)
    | (cases h; first | omega | (have h9 := e_cs (by assumption); omega) | (have h9 := e_cr (by assumption); omega) | (have h9 := e_cbe (by assumption); omega) | (have h9 := e_cdb (by assumption); omega) | (have h9 := e_ct (by assumption); omega) | (have h9 := e_cpn (by assumption); omega) | (have h9 := e_cn (by assumption); omega) | (have h9 := e_csq (by assumption); omega))
theorem err_power {S : pS} {p0 : Int32} {p1 : Int32} {p2 : Int32} {k : Nat} (h : f_X0_power S p0 p1 p2 = .error k) : k = 1 ∨ k = 2 ∨ k = 5 := by
  unfold f_X0_power at h
  repeat' split at h
  all_goals first
    | (cases h; done)
    | (cases h; first | omega | (have h9 := e_cs (by assumption); omega) | (have h9 := e_cr (by assumption); omega) | (have h9 := e_cbe (by assumption); omega) | (have h9 := e_cdb (by assumption); omega) | (have h9 := e_ct (by assumption); omega) | (have h9 := e_cpn (by assumption); omega) | (have h9 := e_cn (by assumption); omega) | (have h9 := e_csq (by assumption); omega))
theorem err_twoTo {S : pS} {p0 : Int32} {p1 : Int32} {k : Nat} (h : f_X0_twoTo S p0 p1 = .error k) : k = 1 ∨ k = 2 := by
  unfold f_X0_twoTo at h
  repeat' split at h
  all_goals first
    | (cases h; done)
    | (cases h; first | omega | (have h9 := e_cs (by assumption); omega) | (have h9 := e_cr (by assumption); omega) | (have h9 := e_cbe (by assumption); omega) | (have h9 := e_cdb (by assumption); omega) | (have h9 := e_ct (by assumption); omega) | (have h9 := e_cpn (by assumption); omega) | (have h9 := e_cn (by assumption); omega) | (have h9 := e_csq (by assumption); omega))
theorem err_raise {S : pS} {p0 : Int32} {p1 : Int32} {p2 : Int32} {k : Nat} (h : f_X0_raise S p0 p1 p2 = .error k) : k = 1 ∨ k = 2 ∨ k = 3 ∨ k = 4 ∨ k = 5 := by
  unfold f_X0_raise at h
  try unfold g_X0_raise_58 at h
  repeat' split at h
  all_goals first
    | (cases h; done)
    | (cases h; first | omega | (have h9 := e_cs (by assumption); omega) | (have h9 := e_cr (by assumption); omega) | (have h9 := e_cbe (by assumption); omega) | (have h9 := e_cdb (by assumption); omega) | (have h9 := e_ct (by assumption); omega) | (have h9 := e_cpn (by assumption); omega) | (have h9 := e_cn (by assumption); omega) | (have h9 := e_csq (by assumption); omega))
theorem err_copy {S : pS} {p0 : Int32} {p1 : Int32} {k : Nat} (h : f_X0_copy S p0 p1 = .error k) : k = 1 := by
  unfold f_X0_copy at h
  repeat' split at h
  all_goals first
    | (cases h; done)
    | (cases h; first | omega | (have h9 := e_cs (by assumption); omega) | (have h9 := e_cr (by assumption); omega) | (have h9 := e_cbe (by assumption); omega) | (have h9 := e_cdb (by assumption); omega) | (have h9 := e_ct (by assumption); omega) | (have h9 := e_cpn (by assumption); omega) | (have h9 := e_cn (by assumption); omega) | (have h9 := e_csq (by assumption); omega))
theorem err_undo {S : pS} {k : Nat} (h : f_X0_undo S = .error k) : k = 6 := by
  unfold f_X0_undo at h
  try unfold g_X0_undo_52n at h
  repeat' split at h
  all_goals first
    | (cases h; done)
    | (cases h; first | omega | (have h9 := e_cs (by assumption); omega) | (have h9 := e_cr (by assumption); omega) | (have h9 := e_cbe (by assumption); omega) | (have h9 := e_cdb (by assumption); omega) | (have h9 := e_ct (by assumption); omega) | (have h9 := e_cpn (by assumption); omega) | (have h9 := e_cn (by assumption); omega) | (have h9 := e_csq (by assumption); omega))
theorem err_sign {S : pS} {p0 : Int32} {k : Nat} (h : f_X0_sign S p0 = .error k) : k = 1 := by
  unfold f_X0_sign at h
  repeat' split at h
  all_goals first
    | (cases h; done)
    | (cases h; first | omega | (have h9 := e_cs (by assumption); omega) | (have h9 := e_cr (by assumption); omega) | (have h9 := e_cbe (by assumption); omega) | (have h9 := e_cdb (by assumption); omega) | (have h9 := e_ct (by assumption); omega) | (have h9 := e_cpn (by assumption); omega) | (have h9 := e_cn (by assumption); omega) | (have h9 := e_csq (by assumption); omega))
theorem err_odd {S : pS} {p0 : Int32} {k : Nat} (h : f_X0_odd S p0 = .error k) : k = 1 := by
  unfold f_X0_odd at h
  repeat' split at h
  all_goals first
    | (cases h; done)
    | (cases h; first | omega | (have h9 := e_cs (by assumption); omega) | (have h9 := e_cr (by assumption); omega) | (have h9 := e_cbe (by assumption); omega) | (have h9 := e_cdb (by assumption); omega) | (have h9 := e_ct (by assumption); omega) | (have h9 := e_cpn (by assumption); omega) | (have h9 := e_cn (by assumption); omega) | (have h9 := e_csq (by assumption); omega))
theorem err_shift {S : pS} {p0 : Int32} {k : Nat} (h : f_X0_shift S p0 = .error k) : k = 1 := by
  unfold f_X0_shift at h
  repeat' split at h
  all_goals first
    | (cases h; done)
    | (cases h; first | omega | (have h9 := e_cs (by assumption); omega) | (have h9 := e_cr (by assumption); omega) | (have h9 := e_cbe (by assumption); omega) | (have h9 := e_cdb (by assumption); omega) | (have h9 := e_ct (by assumption); omega) | (have h9 := e_cpn (by assumption); omega) | (have h9 := e_cn (by assumption); omega) | (have h9 := e_csq (by assumption); omega))
theorem err_bits {S : pS} {p0 : Int32} {k : Nat} (h : f_X0_bits S p0 = .error k) : k = 1 := by
  unfold f_X0_bits at h
  repeat' split at h
  all_goals first
    | (cases h; done)
    | (cases h; first | omega | (have h9 := e_cs (by assumption); omega) | (have h9 := e_cr (by assumption); omega) | (have h9 := e_cbe (by assumption); omega) | (have h9 := e_cdb (by assumption); omega) | (have h9 := e_ct (by assumption); omega) | (have h9 := e_cpn (by assumption); omega) | (have h9 := e_cn (by assumption); omega) | (have h9 := e_csq (by assumption); omega))
theorem err_isWhole {S : pS} {p0 : Int32} {k : Nat} (h : f_X0_isWhole S p0 = .error k) : k = 1 := by
  unfold f_X0_isWhole at h
  repeat' split at h
  all_goals first
    | (cases h; done)
    | (cases h; first | omega | (have h9 := e_cs (by assumption); omega) | (have h9 := e_cr (by assumption); omega) | (have h9 := e_cbe (by assumption); omega) | (have h9 := e_cdb (by assumption); omega) | (have h9 := e_ct (by assumption); omega) | (have h9 := e_cpn (by assumption); omega) | (have h9 := e_cn (by assumption); omega) | (have h9 := e_csq (by assumption); omega))
theorem err_whole {S : pS} {p0 : Int32} {k : Nat} (h : f_X0_whole S p0 = .error k) : k = 1 ∨ k = 3 := by
  unfold f_X0_whole at h
  repeat' split at h
  all_goals first
    | (cases h; done)
    | (cases h; first | omega | (have h9 := e_cs (by assumption); omega) | (have h9 := e_cr (by assumption); omega) | (have h9 := e_cbe (by assumption); omega) | (have h9 := e_cdb (by assumption); omega) | (have h9 := e_ct (by assumption); omega) | (have h9 := e_cpn (by assumption); omega) | (have h9 := e_cn (by assumption); omega) | (have h9 := e_csq (by assumption); omega))
theorem err_compare {S : pS} {p0 : Int32} {p1 : Int32} {k : Nat} (h : f_X0_compare S p0 p1 = .error k) : k = 1 := by
  unfold f_X0_compare at h
  repeat' split at h
  all_goals first
    | (cases h; done)
    | (cases h; first | omega | (have h9 := e_cs (by assumption); omega) | (have h9 := e_cr (by assumption); omega) | (have h9 := e_cbe (by assumption); omega) | (have h9 := e_cdb (by assumption); omega) | (have h9 := e_ct (by assumption); omega) | (have h9 := e_cpn (by assumption); omega) | (have h9 := e_cn (by assumption); omega) | (have h9 := e_csq (by assumption); omega))
theorem ok_g_X0_rank_16 (S : pS) (p0 : Int32) : ∀ (n : Nat) (w0 : Int32) (w1 : Int32) (k : Nat), g_X0_rank_16 S p0 n w0 w1 ≠ .error k := by
  intro n
  induction n with
  | zero => intro w0 w1 k h; rw [g_X0_rank_16] at h; cases h
  | succ n ih =>
    intro w0 w1 k h
    rw [g_X0_rank_16] at h
    repeat' split at h
    all_goals first
      | exact ih _ _ _ h
      | (cases h; done)

theorem err_rank {S : pS} {p0 : Int32} {k : Nat} (h : f_X0_rank S p0 = .error k) : k = 1 := by
  unfold f_X0_rank at h
  repeat' split at h
  all_goals first
    | exact absurd h (ok_g_X0_rank_16 _ _ _ _ _ _)
    | (cases h; done)
    | (cases h; first | omega | (have h9 := e_cs (by assumption); omega) | (have h9 := e_cr (by assumption); omega) | (have h9 := e_cbe (by assumption); omega) | (have h9 := e_cdb (by assumption); omega) | (have h9 := e_ct (by assumption); omega) | (have h9 := e_cpn (by assumption); omega) | (have h9 := e_cn (by assumption); omega) | (have h9 := e_csq (by assumption); omega))
theorem ok_g_X0_at_8 (S : pS) (p0 : Int32) : ∀ (n : Nat) (w0 : Int32) (w1 : Int32) (k : Nat), g_X0_at_8 S p0 n w0 w1 ≠ .error k := by
  intro n
  induction n with
  | zero => intro w0 w1 k h; rw [g_X0_at_8] at h; cases h
  | succ n ih =>
    intro w0 w1 k h
    rw [g_X0_at_8] at h
    repeat' split at h
    all_goals first
      | exact ih _ _ _ h
      | (cases h; done)

theorem err_at {S : pS} {p0 : Int32} {k : Nat} (h : f_X0_at S p0 = .error k) : k = 1 := by
  unfold f_X0_at at h
  repeat' split at h
  all_goals first
    | exact absurd h (ok_g_X0_at_8 _ _ _ _ _ _)
    | (cases h; done)
    | (cases h; first | omega | (have h9 := e_cs (by assumption); omega) | (have h9 := e_cr (by assumption); omega) | (have h9 := e_cbe (by assumption); omega) | (have h9 := e_cdb (by assumption); omega) | (have h9 := e_ct (by assumption); omega) | (have h9 := e_cpn (by assumption); omega) | (have h9 := e_cn (by assumption); omega) | (have h9 := e_csq (by assumption); omega))
theorem err_log {S : pS} {p0 : Int32} {p1 : Int32} {k : Nat} (h : f_X0_log S p0 p1 = .error k) : k = 1 ∨ k = 2 ∨ k = 3 ∨ k = 4 := by
  unfold f_X0_log at h
  repeat' split at h
  all_goals first
    | (cases h; done)
    | (cases h; first | omega | (have h9 := e_cs (by assumption); omega) | (have h9 := e_cr (by assumption); omega) | (have h9 := e_cbe (by assumption); omega) | (have h9 := e_cdb (by assumption); omega) | (have h9 := e_ct (by assumption); omega) | (have h9 := e_cpn (by assumption); omega) | (have h9 := e_cn (by assumption); omega) | (have h9 := e_csq (by assumption); omega))
theorem err_digits {S : pS} {p0 : Int32} {p1 : Int32} {k : Nat} (h : f_X0_digits S p0 p1 = .error k) : k = 1 ∨ k = 2 ∨ k = 3 := by
  unfold f_X0_digits at h
  repeat' split at h
  all_goals first
    | (cases h; done)
    | (cases h; first | omega | (have h9 := e_cs (by assumption); omega) | (have h9 := e_cr (by assumption); omega) | (have h9 := e_cbe (by assumption); omega) | (have h9 := e_cdb (by assumption); omega) | (have h9 := e_ct (by assumption); omega) | (have h9 := e_cpn (by assumption); omega) | (have h9 := e_cn (by assumption); omega) | (have h9 := e_csq (by assumption); omega))
theorem ok_g_X0_digit_37 (p0 : Int32) (p2 : Int32) : ∀ (n : Nat) (w0 : Int64) (w1 : Int32) (k : Nat), g_X0_digit_37 p0 p2 n w0 w1 ≠ .error k := by
  intro n
  induction n with
  | zero => intro w0 w1 k h; rw [g_X0_digit_37] at h; cases h
  | succ n ih =>
    intro w0 w1 k h
    rw [g_X0_digit_37] at h
    try unfold g_X0_digit_63 at h
    repeat' split at h
    all_goals first
      | exact ih _ _ _ h
      | (cases h; done)

theorem err_digit {S : pS} {p0 : Int32} {p1 : Int32} {p2 : Int32} {k : Nat} (h : f_X0_digit S p0 p1 p2 = .error k) : k = 1 ∨ k = 2 ∨ k = 3 := by
  unfold f_X0_digit at h
  try unfold g_X0_digit_63 at h
  repeat' split at h
  all_goals first
    | exact absurd h (ok_g_X0_digit_37 _ _ _ _ _ _)
    | (cases h; done)
    | (cases h; first | omega | (have h9 := e_cs (by assumption); omega) | (have h9 := e_cr (by assumption); omega) | (have h9 := e_cbe (by assumption); omega) | (have h9 := e_cdb (by assumption); omega) | (have h9 := e_ct (by assumption); omega) | (have h9 := e_cpn (by assumption); omega) | (have h9 := e_cn (by assumption); omega) | (have h9 := e_csq (by assumption); omega))
theorem ok_g_X0_root_44 (S : pS) (p0 : Int32) (p1 : Int32) : ∀ (n : Nat) (w0 : Int32) (k : Nat), g_X0_root_44 S p0 p1 n w0 ≠ .error k := by
  intro n
  induction n with
  | zero => intro w0 k h; rw [g_X0_root_44] at h; cases h
  | succ n ih =>
    intro w0 k h
    rw [g_X0_root_44] at h
    repeat' split at h
    all_goals first
      | exact ih _ _ h
      | (cases h; done)

theorem err_root {S : pS} {p0 : Int32} {p1 : Int32} {k : Nat} (h : f_X0_root S p0 p1 = .error k) : k = 1 ∨ k = 2 ∨ k = 3 ∨ k = 4 := by
  unfold f_X0_root at h
  repeat' split at h
  all_goals first
    | exact absurd h (ok_g_X0_root_44 _ _ _ _ _ _)
    | (cases h; done)
    | (cases h; first | omega | (have h9 := e_cs (by assumption); omega) | (have h9 := e_cr (by assumption); omega) | (have h9 := e_cbe (by assumption); omega) | (have h9 := e_cdb (by assumption); omega) | (have h9 := e_ct (by assumption); omega) | (have h9 := e_cpn (by assumption); omega) | (have h9 := e_cn (by assumption); omega) | (have h9 := e_csq (by assumption); omega))
theorem ok_g_X0_sum_15 (p0 : Int32) (p1 : Int32) : ∀ (n : Nat) (w0 : Int64) (w1 : Int32) (k : Nat), g_X0_sum_15 p0 p1 n w0 w1 ≠ .error k := by
  intro n
  induction n with
  | zero => intro w0 w1 k h; rw [g_X0_sum_15] at h; cases h
  | succ n ih =>
    intro w0 w1 k h
    rw [g_X0_sum_15] at h
    repeat' split at h
    all_goals first
      | exact ih _ _ _ h
      | (cases h; done)

theorem err_sum {S : pS} {p0 : Int32} {p1 : Int32} {k : Nat} (h : f_X0_sum S p0 p1 = .error k) : k = 2 ∨ k = 5 := by
  unfold f_X0_sum at h
  repeat' split at h
  all_goals first
    | exact absurd h (ok_g_X0_sum_15 _ _ _ _ _ _)
    | (cases h; done)
    | (cases h; first | omega | (have h9 := e_cs (by assumption); omega) | (have h9 := e_cr (by assumption); omega) | (have h9 := e_cbe (by assumption); omega) | (have h9 := e_cdb (by assumption); omega) | (have h9 := e_ct (by assumption); omega) | (have h9 := e_cpn (by assumption); omega) | (have h9 := e_cn (by assumption); omega) | (have h9 := e_csq (by assumption); omega))
theorem err_rest {S : pS} {p0 : Int32} {p1 : Int32} {p2 : Int32} {k : Nat} (h : f_X0_rest S p0 p1 p2 = .error k) : k = 2 ∨ k = 5 := by
  unfold f_X0_rest at h
  repeat' split at h
  all_goals first
    | (cases h; done)
    | (cases h; first | omega | (have h9 := e_cs (by assumption); omega) | (have h9 := e_cr (by assumption); omega) | (have h9 := e_cbe (by assumption); omega) | (have h9 := e_cdb (by assumption); omega) | (have h9 := e_ct (by assumption); omega) | (have h9 := e_cpn (by assumption); omega) | (have h9 := e_cn (by assumption); omega) | (have h9 := e_csq (by assumption); omega))
theorem err_isFermat {S : pS} {p0 : Int32} {p1 : Int32} {k : Nat} (h : f_X0_isFermat S p0 p1 = .error k) : k = 2 ∨ k = 5 := by
  unfold f_X0_isFermat at h
  repeat' split at h
  all_goals first
    | (cases h; done)
    | (cases h; first | omega | (have h9 := e_cs (by assumption); omega) | (have h9 := e_cr (by assumption); omega) | (have h9 := e_cbe (by assumption); omega) | (have h9 := e_cdb (by assumption); omega) | (have h9 := e_ct (by assumption); omega) | (have h9 := e_cpn (by assumption); omega) | (have h9 := e_cn (by assumption); omega) | (have h9 := e_csq (by assumption); omega))
theorem ok_g_X0_isChain_15 (p0 : Int32) (p1 : Int32) : ∀ (n : Nat) (w0 : UInt64) (w1 : Int32) (k : Nat), g_X0_isChain_15 p0 p1 n w0 w1 ≠ .error k := by
  intro n
  induction n with
  | zero => intro w0 w1 k h; rw [g_X0_isChain_15] at h; cases h
  | succ n ih =>
    intro w0 w1 k h
    rw [g_X0_isChain_15] at h
    repeat' split at h
    all_goals first
      | exact ih _ _ _ h
      | (cases h; done)

theorem err_isChain {S : pS} {p0 : Int32} {p1 : Int32} {k : Nat} (h : f_X0_isChain S p0 p1 = .error k) : k = 2 ∨ k = 5 := by
  unfold f_X0_isChain at h
  repeat' split at h
  all_goals first
    | exact absurd h (ok_g_X0_isChain_15 _ _ _ _ _ _)
    | (cases h; done)
    | (cases h; first | omega | (have h9 := e_cs (by assumption); omega) | (have h9 := e_cr (by assumption); omega) | (have h9 := e_cbe (by assumption); omega) | (have h9 := e_cdb (by assumption); omega) | (have h9 := e_ct (by assumption); omega) | (have h9 := e_cpn (by assumption); omega) | (have h9 := e_cn (by assumption); omega) | (have h9 := e_csq (by assumption); omega))
theorem err_addsUp {S : pS} {p0 : Int32} {p1 : Int32} {p2 : Int32} {k : Nat} (h : f_X0_addsUp S p0 p1 p2 = .error k) : k = 2 ∨ k = 5 := by
  unfold f_X0_addsUp at h
  repeat' split at h
  all_goals first
    | (cases h; done)
    | (cases h; first | omega | (have h9 := e_cs (by assumption); omega) | (have h9 := e_cr (by assumption); omega) | (have h9 := e_cbe (by assumption); omega) | (have h9 := e_cdb (by assumption); omega) | (have h9 := e_ct (by assumption); omega) | (have h9 := e_cpn (by assumption); omega) | (have h9 := e_cn (by assumption); omega) | (have h9 := e_csq (by assumption); omega))
theorem err_isNested {S : pS} {p0 : Int32} {p1 : Int32} {p2 : Int32} {k : Nat} (h : f_X0_isNested S p0 p1 p2 = .error k) : k = 2 ∨ k = 5 := by
  unfold f_X0_isNested at h
  try unfold g_X0_isNested_80n at h
  repeat' split at h
  all_goals first
    | (cases h; done)
    | (cases h; first | omega | (have h9 := e_cs (by assumption); omega) | (have h9 := e_cr (by assumption); omega) | (have h9 := e_cbe (by assumption); omega) | (have h9 := e_cdb (by assumption); omega) | (have h9 := e_ct (by assumption); omega) | (have h9 := e_cpn (by assumption); omega) | (have h9 := e_cn (by assumption); omega) | (have h9 := e_csq (by assumption); omega))
theorem err_rootBits {S : pS} {p0 : Int32} {k : Nat} (h : f_X0_rootBits S p0 = .error k) : k = 2 := by
  unfold f_X0_rootBits at h
  repeat' split at h
  all_goals first
    | (cases h; done)
    | (cases h; first | omega | (have h9 := e_cs (by assumption); omega) | (have h9 := e_cr (by assumption); omega) | (have h9 := e_cbe (by assumption); omega) | (have h9 := e_cdb (by assumption); omega) | (have h9 := e_ct (by assumption); omega) | (have h9 := e_cpn (by assumption); omega) | (have h9 := e_cn (by assumption); omega) | (have h9 := e_csq (by assumption); omega))
theorem err_isRoot {S : pS} {p0 : Int32} {k : Nat} (h : f_X0_isRoot S p0 = .error k) : k = 2 := by
  unfold f_X0_isRoot at h
  repeat' split at h
  all_goals first
    | (cases h; done)
    | (cases h; first | omega | (have h9 := e_cs (by assumption); omega) | (have h9 := e_cr (by assumption); omega) | (have h9 := e_cbe (by assumption); omega) | (have h9 := e_cdb (by assumption); omega) | (have h9 := e_ct (by assumption); omega) | (have h9 := e_cpn (by assumption); omega) | (have h9 := e_cn (by assumption); omega) | (have h9 := e_csq (by assumption); omega))
theorem err_rootAt {S : pS} {p0 : Int32} {p1 : Int32} {k : Nat} (h : f_X0_rootAt S p0 p1 = .error k) : k = 2 := by
  unfold f_X0_rootAt at h
  repeat' split at h
  all_goals first
    | (cases h; done)
    | (cases h; first | omega | (have h9 := e_cs (by assumption); omega) | (have h9 := e_cr (by assumption); omega) | (have h9 := e_cbe (by assumption); omega) | (have h9 := e_cdb (by assumption); omega) | (have h9 := e_ct (by assumption); omega) | (have h9 := e_cpn (by assumption); omega) | (have h9 := e_cn (by assumption); omega) | (have h9 := e_csq (by assumption); omega))
theorem err_backBits {S : pS} {p0 : Int32} {k : Nat} (h : f_X0_backBits S p0 = .error k) : k = 2 := by
  unfold f_X0_backBits at h
  repeat' split at h
  all_goals first
    | (cases h; done)
    | (cases h; first | omega | (have h9 := e_cs (by assumption); omega) | (have h9 := e_cr (by assumption); omega) | (have h9 := e_cbe (by assumption); omega) | (have h9 := e_cdb (by assumption); omega) | (have h9 := e_ct (by assumption); omega) | (have h9 := e_cpn (by assumption); omega) | (have h9 := e_cn (by assumption); omega) | (have h9 := e_csq (by assumption); omega))
theorem err_isBack {S : pS} {p0 : Int32} {k : Nat} (h : f_X0_isBack S p0 = .error k) : k = 2 := by
  unfold f_X0_isBack at h
  repeat' split at h
  all_goals first
    | (cases h; done)
    | (cases h; first | omega | (have h9 := e_cs (by assumption); omega) | (have h9 := e_cr (by assumption); omega) | (have h9 := e_cbe (by assumption); omega) | (have h9 := e_cdb (by assumption); omega) | (have h9 := e_ct (by assumption); omega) | (have h9 := e_cpn (by assumption); omega) | (have h9 := e_cn (by assumption); omega) | (have h9 := e_csq (by assumption); omega))
theorem err_squareBits {S : pS} {p0 : Int32} {k : Nat} (h : f_X0_squareBits S p0 = .error k) : k = 1 ∨ k = 5 := by
  unfold f_X0_squareBits at h
  repeat' split at h
  all_goals first
    | (cases h; done)
    | (cases h; first | omega | (have h9 := e_cs (by assumption); omega) | (have h9 := e_cr (by assumption); omega) | (have h9 := e_cbe (by assumption); omega) | (have h9 := e_cdb (by assumption); omega) | (have h9 := e_ct (by assumption); omega) | (have h9 := e_cpn (by assumption); omega) | (have h9 := e_cn (by assumption); omega) | (have h9 := e_csq (by assumption); omega))
theorem err_isTimes {S : pS} {p0 : Int32} {k : Nat} (h : f_X0_isTimes S p0 = .error k) : k = 1 ∨ k = 5 := by
  unfold f_X0_isTimes at h
  repeat' split at h
  all_goals first
    | (cases h; done)
    | (cases h; first | omega | (have h9 := e_cs (by assumption); omega) | (have h9 := e_cr (by assumption); omega) | (have h9 := e_cbe (by assumption); omega) | (have h9 := e_cdb (by assumption); omega) | (have h9 := e_ct (by assumption); omega) | (have h9 := e_cpn (by assumption); omega) | (have h9 := e_cn (by assumption); omega) | (have h9 := e_csq (by assumption); omega))
